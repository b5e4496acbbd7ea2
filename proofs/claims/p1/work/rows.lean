section
-- ===== PART A: goes FIRST, ahead of the names: the tables' words, and 'selects' of the private methods out of them =====
/-- a private method of a class that the tables say can be made, by its rows of tables_1 -/
def lw_okq (q : MethodName × Nat) : Prop := (q.1.cls ≠ "java/lang/invoke/MethodHandle" ∧ q.1.cls ≠ "java/lang/invoke/VarHandle") ∧ Cond.instantiable q.1.cls q.2 ∈ tables_1 ∧ Cond.privateMethod q.1 ∈ tables_1 ∧ Cond.instanceMethod q.1 ∈ tables_1
theorem lw_p0 : lw_okq (⟨"RaceByLaps", "takeTape", "()I"⟩, 11) := ⟨⟨by decide +kernel, by decide +kernel⟩, List.mem_of_getElem? (i := 27) (by decide +kernel), List.mem_of_getElem? (i := 650) (by decide +kernel), List.mem_of_getElem? (i := 651) (by decide +kernel)⟩
theorem lw_p1 : lw_okq (⟨"RaceByLaps$Reader", "beginLine", "()V"⟩, 9) := ⟨⟨by decide +kernel, by decide +kernel⟩, List.mem_of_getElem? (i := 479) (by decide +kernel), List.mem_of_getElem? (i := 662) (by decide +kernel), List.mem_of_getElem? (i := 663) (by decide +kernel)⟩
theorem lw_p2 : lw_okq (⟨"RaceByLaps$Reader", "takes", "(I)Z"⟩, 9) := ⟨⟨by decide +kernel, by decide +kernel⟩, List.mem_of_getElem? (i := 479) (by decide +kernel), List.mem_of_getElem? (i := 666) (by decide +kernel), List.mem_of_getElem? (i := 667) (by decide +kernel)⟩
theorem lw_p3 : lw_okq (⟨"RaceByLaps$Reader", "takesOperand", "(I)Z"⟩, 9) := ⟨⟨by decide +kernel, by decide +kernel⟩, List.mem_of_getElem? (i := 479) (by decide +kernel), List.mem_of_getElem? (i := 670) (by decide +kernel), List.mem_of_getElem? (i := 671) (by decide +kernel)⟩
theorem lw_p4 : lw_okq (⟨"RaceByLaps$Reader", "isLetter", "(I)Z"⟩, 9) := ⟨⟨by decide +kernel, by decide +kernel⟩, List.mem_of_getElem? (i := 479) (by decide +kernel), List.mem_of_getElem? (i := 682) (by decide +kernel), List.mem_of_getElem? (i := 683) (by decide +kernel)⟩
theorem lw_p5 : lw_okq (⟨"RaceByLaps$Reader", "endsCondition", "()Z"⟩, 9) := ⟨⟨by decide +kernel, by decide +kernel⟩, List.mem_of_getElem? (i := 479) (by decide +kernel), List.mem_of_getElem? (i := 772) (by decide +kernel), List.mem_of_getElem? (i := 773) (by decide +kernel)⟩
theorem lw_p6 : lw_okq (⟨"RaceByLaps$Reader", "release", "(I)V"⟩, 9) := ⟨⟨by decide +kernel, by decide +kernel⟩, List.mem_of_getElem? (i := 479) (by decide +kernel), List.mem_of_getElem? (i := 776) (by decide +kernel), List.mem_of_getElem? (i := 777) (by decide +kernel)⟩
theorem lw_p7 : lw_okq (⟨"RaceByLaps$Reader", "opens", "()Z"⟩, 9) := ⟨⟨by decide +kernel, by decide +kernel⟩, List.mem_of_getElem? (i := 479) (by decide +kernel), List.mem_of_getElem? (i := 787) (by decide +kernel), List.mem_of_getElem? (i := 788) (by decide +kernel)⟩
theorem lw_p8 : lw_okq (⟨"RaceByLaps$Reader", "hold", "(I)V"⟩, 9) := ⟨⟨by decide +kernel, by decide +kernel⟩, List.mem_of_getElem? (i := 479) (by decide +kernel), List.mem_of_getElem? (i := 792) (by decide +kernel), List.mem_of_getElem? (i := 793) (by decide +kernel)⟩
theorem lw_p9 : lw_okq (⟨"RaceByLaps$Reader", "takesBehindOperand", "(I)Z"⟩, 9) := ⟨⟨by decide +kernel, by decide +kernel⟩, List.mem_of_getElem? (i := 479) (by decide +kernel), List.mem_of_getElem? (i := 796) (by decide +kernel), List.mem_of_getElem? (i := 797) (by decide +kernel)⟩
theorem lw_p10 : lw_okq (⟨"RaceByLaps$Reader", "closes", "()Z"⟩, 9) := ⟨⟨by decide +kernel, by decide +kernel⟩, List.mem_of_getElem? (i := 479) (by decide +kernel), List.mem_of_getElem? (i := 804) (by decide +kernel), List.mem_of_getElem? (i := 805) (by decide +kernel)⟩
theorem lw_p11 : lw_okq (⟨"RaceByLaps$Reader", "joins", "(I)Z"⟩, 9) := ⟨⟨by decide +kernel, by decide +kernel⟩, List.mem_of_getElem? (i := 479) (by decide +kernel), List.mem_of_getElem? (i := 808) (by decide +kernel), List.mem_of_getElem? (i := 809) (by decide +kernel)⟩
theorem lw_p12 : lw_okq (⟨"RaceByLaps$Reader", "takesVerdict", "(I)Z"⟩, 9) := ⟨⟨by decide +kernel, by decide +kernel⟩, List.mem_of_getElem? (i := 479) (by decide +kernel), List.mem_of_getElem? (i := 812) (by decide +kernel), List.mem_of_getElem? (i := 813) (by decide +kernel)⟩
theorem lw_p13 : lw_okq (⟨"RaceByLaps$Reader", "takesSeconds", "(I)Z"⟩, 9) := ⟨⟨by decide +kernel, by decide +kernel⟩, List.mem_of_getElem? (i := 479) (by decide +kernel), List.mem_of_getElem? (i := 816) (by decide +kernel), List.mem_of_getElem? (i := 817) (by decide +kernel)⟩
theorem lw_p14 : lw_okq (⟨"RaceByLaps$Reader", "takesAct", "(I)Z"⟩, 9) := ⟨⟨by decide +kernel, by decide +kernel⟩, List.mem_of_getElem? (i := 479) (by decide +kernel), List.mem_of_getElem? (i := 820) (by decide +kernel), List.mem_of_getElem? (i := 821) (by decide +kernel)⟩
theorem lw_p15 : lw_okq (⟨"RaceByLaps$Reader", "takesBox", "(I)Z"⟩, 9) := ⟨⟨by decide +kernel, by decide +kernel⟩, List.mem_of_getElem? (i := 479) (by decide +kernel), List.mem_of_getElem? (i := 828) (by decide +kernel), List.mem_of_getElem? (i := 829) (by decide +kernel)⟩
def lw_privs_1 : List (MethodName × Nat) := [(⟨"RaceByLaps", "takeTape", "()I"⟩, 11), (⟨"RaceByLaps$Reader", "beginLine", "()V"⟩, 9), (⟨"RaceByLaps$Reader", "takes", "(I)Z"⟩, 9), (⟨"RaceByLaps$Reader", "takesOperand", "(I)Z"⟩, 9), (⟨"RaceByLaps$Reader", "isLetter", "(I)Z"⟩, 9), (⟨"RaceByLaps$Reader", "endsCondition", "()Z"⟩, 9), (⟨"RaceByLaps$Reader", "release", "(I)V"⟩, 9), (⟨"RaceByLaps$Reader", "opens", "()Z"⟩, 9), (⟨"RaceByLaps$Reader", "hold", "(I)V"⟩, 9), (⟨"RaceByLaps$Reader", "takesBehindOperand", "(I)Z"⟩, 9), (⟨"RaceByLaps$Reader", "closes", "()Z"⟩, 9), (⟨"RaceByLaps$Reader", "joins", "(I)Z"⟩, 9), (⟨"RaceByLaps$Reader", "takesVerdict", "(I)Z"⟩, 9), (⟨"RaceByLaps$Reader", "takesSeconds", "(I)Z"⟩, 9), (⟨"RaceByLaps$Reader", "takesAct", "(I)Z"⟩, 9), (⟨"RaceByLaps$Reader", "takesBox", "(I)Z"⟩, 9)]
theorem lw_r1 : ∀ q ∈ lw_privs_1, lw_okq q := List.forall_mem_cons.mpr ⟨lw_p0, List.forall_mem_cons.mpr ⟨lw_p1, List.forall_mem_cons.mpr ⟨lw_p2, List.forall_mem_cons.mpr ⟨lw_p3, List.forall_mem_cons.mpr ⟨lw_p4, List.forall_mem_cons.mpr ⟨lw_p5, List.forall_mem_cons.mpr ⟨lw_p6, List.forall_mem_cons.mpr ⟨lw_p7, List.forall_mem_cons.mpr ⟨lw_p8, List.forall_mem_cons.mpr ⟨lw_p9, List.forall_mem_cons.mpr ⟨lw_p10, List.forall_mem_cons.mpr ⟨lw_p11, List.forall_mem_cons.mpr ⟨lw_p12, List.forall_mem_cons.mpr ⟨lw_p13, List.forall_mem_cons.mpr ⟨lw_p14, List.forall_mem_cons.mpr ⟨lw_p15, fun _ h => absurd h List.not_mem_nil⟩⟩⟩⟩⟩⟩⟩⟩⟩⟩⟩⟩⟩⟩⟩⟩
theorem lw_p16 : lw_okq (⟨"RaceByLaps$Race", "nextToGo", "()I"⟩, 8) := ⟨⟨by decide +kernel, by decide +kernel⟩, List.mem_of_getElem? (i := 136) (by decide +kernel), List.mem_of_getElem? (i := 875) (by decide +kernel), List.mem_of_getElem? (i := 876) (by decide +kernel)⟩
theorem lw_p17 : lw_okq (⟨"RaceByLaps$Race", "goOn", "(ILRaceByLaps$Car;LRaceByLaps$Runner;)V"⟩, 8) := ⟨⟨by decide +kernel, by decide +kernel⟩, List.mem_of_getElem? (i := 136) (by decide +kernel), List.mem_of_getElem? (i := 883) (by decide +kernel), List.mem_of_getElem? (i := 884) (by decide +kernel)⟩
theorem lw_p18 : lw_okq (⟨"RaceByLaps$Race", "hear", "(LRaceByLaps$Car;LRaceByLaps$Runner;I)V"⟩, 8) := ⟨⟨by decide +kernel, by decide +kernel⟩, List.mem_of_getElem? (i := 136) (by decide +kernel), List.mem_of_getElem? (i := 891) (by decide +kernel), List.mem_of_getElem? (i := 892) (by decide +kernel)⟩
theorem lw_p19 : lw_okq (⟨"RaceByLaps$Race", "slowTime", "(II)I"⟩, 8) := ⟨⟨by decide +kernel, by decide +kernel⟩, List.mem_of_getElem? (i := 136) (by decide +kernel), List.mem_of_getElem? (i := 905) (by decide +kernel), List.mem_of_getElem? (i := 906) (by decide +kernel)⟩
theorem lw_p20 : lw_okq (⟨"RaceByLaps$Race", "freeTime", "(LRaceByLaps$Car;LRaceByLaps$Runner;II)I"⟩, 8) := ⟨⟨by decide +kernel, by decide +kernel⟩, List.mem_of_getElem? (i := 136) (by decide +kernel), List.mem_of_getElem? (i := 909) (by decide +kernel), List.mem_of_getElem? (i := 910) (by decide +kernel)⟩
theorem lw_p21 : lw_okq (⟨"RaceByLaps$Race", "heldEnd", "(IIII)I"⟩, 8) := ⟨⟨by decide +kernel, by decide +kernel⟩, List.mem_of_getElem? (i := 136) (by decide +kernel), List.mem_of_getElem? (i := 931) (by decide +kernel), List.mem_of_getElem? (i := 932) (by decide +kernel)⟩
theorem lw_p22 : lw_okq (⟨"RaceByLaps$Race", "latestBefore", "(III)I"⟩, 8) := ⟨⟨by decide +kernel, by decide +kernel⟩, List.mem_of_getElem? (i := 136) (by decide +kernel), List.mem_of_getElem? (i := 935) (by decide +kernel), List.mem_of_getElem? (i := 936) (by decide +kernel)⟩
theorem lw_p23 : lw_okq (⟨"RaceByLaps$Race", "passes", "(LRaceByLaps$Runner;LRaceByLaps$Runner;III)Z"⟩, 8) := ⟨⟨by decide +kernel, by decide +kernel⟩, List.mem_of_getElem? (i := 136) (by decide +kernel), List.mem_of_getElem? (i := 939) (by decide +kernel), List.mem_of_getElem? (i := 940) (by decide +kernel)⟩
theorem lw_p24 : lw_okq (⟨"RaceByLaps$Race", "endLap", "(ILRaceByLaps$Car;LRaceByLaps$Runner;II)V"⟩, 8) := ⟨⟨by decide +kernel, by decide +kernel⟩, List.mem_of_getElem? (i := 136) (by decide +kernel), List.mem_of_getElem? (i := 955) (by decide +kernel), List.mem_of_getElem? (i := 956) (by decide +kernel)⟩
theorem lw_p25 : lw_okq (⟨"RaceByLaps$Race", "isRaceWon", "(II)Z"⟩, 8) := ⟨⟨by decide +kernel, by decide +kernel⟩, List.mem_of_getElem? (i := 136) (by decide +kernel), List.mem_of_getElem? (i := 959) (by decide +kernel), List.mem_of_getElem? (i := 960) (by decide +kernel)⟩
theorem lw_p26 : lw_okq (⟨"RaceByLaps$Race", "setLetters", "(ILRaceByLaps$Car;LRaceByLaps$Runner;II)V"⟩, 8) := ⟨⟨by decide +kernel, by decide +kernel⟩, List.mem_of_getElem? (i := 136) (by decide +kernel), List.mem_of_getElem? (i := 975) (by decide +kernel), List.mem_of_getElem? (i := 976) (by decide +kernel)⟩
theorem lw_p27 : lw_okq (⟨"RaceByLaps$Race", "freeFrom", "(I)I"⟩, 8) := ⟨⟨by decide +kernel, by decide +kernel⟩, List.mem_of_getElem? (i := 136) (by decide +kernel), List.mem_of_getElem? (i := 984) (by decide +kernel), List.mem_of_getElem? (i := 985) (by decide +kernel)⟩
theorem lw_p28 : lw_okq (⟨"RaceByLaps$Reckoner", "valueOf", "(I)I"⟩, 2) := ⟨⟨by decide +kernel, by decide +kernel⟩, List.mem_of_getElem? (i := 35) (by decide +kernel), List.mem_of_getElem? (i := 997) (by decide +kernel), List.mem_of_getElem? (i := 998) (by decide +kernel)⟩
theorem lw_p29 : lw_okq (⟨"RaceByLaps$Race", "atBox", "(LRaceByLaps$Car;LRaceByLaps$Runner;III)V"⟩, 8) := ⟨⟨by decide +kernel, by decide +kernel⟩, List.mem_of_getElem? (i := 136) (by decide +kernel), List.mem_of_getElem? (i := 1017) (by decide +kernel), List.mem_of_getElem? (i := 1018) (by decide +kernel)⟩
theorem lw_p30 : lw_okq (⟨"RaceByLaps$Race", "aheadAt", "(III)I"⟩, 8) := ⟨⟨by decide +kernel, by decide +kernel⟩, List.mem_of_getElem? (i := 136) (by decide +kernel), List.mem_of_getElem? (i := 1032) (by decide +kernel), List.mem_of_getElem? (i := 1033) (by decide +kernel)⟩
theorem lw_p31 : lw_okq (⟨"RaceByLaps$Book", "isOf", "(III)Z"⟩, 5) := ⟨⟨by decide +kernel, by decide +kernel⟩, List.mem_of_getElem? (i := 384) (by decide +kernel), List.mem_of_getElem? (i := 1082) (by decide +kernel), List.mem_of_getElem? (i := 1083) (by decide +kernel)⟩
def lw_privs_2 : List (MethodName × Nat) := [(⟨"RaceByLaps$Race", "nextToGo", "()I"⟩, 8), (⟨"RaceByLaps$Race", "goOn", "(ILRaceByLaps$Car;LRaceByLaps$Runner;)V"⟩, 8), (⟨"RaceByLaps$Race", "hear", "(LRaceByLaps$Car;LRaceByLaps$Runner;I)V"⟩, 8), (⟨"RaceByLaps$Race", "slowTime", "(II)I"⟩, 8), (⟨"RaceByLaps$Race", "freeTime", "(LRaceByLaps$Car;LRaceByLaps$Runner;II)I"⟩, 8), (⟨"RaceByLaps$Race", "heldEnd", "(IIII)I"⟩, 8), (⟨"RaceByLaps$Race", "latestBefore", "(III)I"⟩, 8), (⟨"RaceByLaps$Race", "passes", "(LRaceByLaps$Runner;LRaceByLaps$Runner;III)Z"⟩, 8), (⟨"RaceByLaps$Race", "endLap", "(ILRaceByLaps$Car;LRaceByLaps$Runner;II)V"⟩, 8), (⟨"RaceByLaps$Race", "isRaceWon", "(II)Z"⟩, 8), (⟨"RaceByLaps$Race", "setLetters", "(ILRaceByLaps$Car;LRaceByLaps$Runner;II)V"⟩, 8), (⟨"RaceByLaps$Race", "freeFrom", "(I)I"⟩, 8), (⟨"RaceByLaps$Reckoner", "valueOf", "(I)I"⟩, 2), (⟨"RaceByLaps$Race", "atBox", "(LRaceByLaps$Car;LRaceByLaps$Runner;III)V"⟩, 8), (⟨"RaceByLaps$Race", "aheadAt", "(III)I"⟩, 8), (⟨"RaceByLaps$Book", "isOf", "(III)Z"⟩, 5)]
theorem lw_r2 : ∀ q ∈ lw_privs_2, lw_okq q := List.forall_mem_cons.mpr ⟨lw_p16, List.forall_mem_cons.mpr ⟨lw_p17, List.forall_mem_cons.mpr ⟨lw_p18, List.forall_mem_cons.mpr ⟨lw_p19, List.forall_mem_cons.mpr ⟨lw_p20, List.forall_mem_cons.mpr ⟨lw_p21, List.forall_mem_cons.mpr ⟨lw_p22, List.forall_mem_cons.mpr ⟨lw_p23, List.forall_mem_cons.mpr ⟨lw_p24, List.forall_mem_cons.mpr ⟨lw_p25, List.forall_mem_cons.mpr ⟨lw_p26, List.forall_mem_cons.mpr ⟨lw_p27, List.forall_mem_cons.mpr ⟨lw_p28, List.forall_mem_cons.mpr ⟨lw_p29, List.forall_mem_cons.mpr ⟨lw_p30, List.forall_mem_cons.mpr ⟨lw_p31, fun _ h => absurd h List.not_mem_nil⟩⟩⟩⟩⟩⟩⟩⟩⟩⟩⟩⟩⟩⟩⟩⟩
theorem lw_p32 : lw_okq (⟨"RaceByLaps$Result", "isAhead", "(II)Z"⟩, 5) := ⟨⟨by decide +kernel, by decide +kernel⟩, List.mem_of_getElem? (i := 413) (by decide +kernel), List.mem_of_getElem? (i := 1118) (by decide +kernel), List.mem_of_getElem? (i := 1119) (by decide +kernel)⟩
theorem lw_p33 : lw_okq (⟨"RaceByLaps$Tries", "takeWay", "(LRaceByLaps$Car;I)V"⟩, 11) := ⟨⟨by decide +kernel, by decide +kernel⟩, List.mem_of_getElem? (i := 437) (by decide +kernel), List.mem_of_getElem? (i := 1147) (by decide +kernel), List.mem_of_getElem? (i := 1148) (by decide +kernel)⟩
theorem lw_p34 : lw_okq (⟨"RaceByLaps$Tries", "keepWay", "(II)V"⟩, 11) := ⟨⟨by decide +kernel, by decide +kernel⟩, List.mem_of_getElem? (i := 437) (by decide +kernel), List.mem_of_getElem? (i := 1167) (by decide +kernel), List.mem_of_getElem? (i := 1168) (by decide +kernel)⟩
theorem lw_p35 : lw_okq (⟨"RaceByLaps$Tries", "nextSets", "(II)Z"⟩, 11) := ⟨⟨by decide +kernel, by decide +kernel⟩, List.mem_of_getElem? (i := 437) (by decide +kernel), List.mem_of_getElem? (i := 1171) (by decide +kernel), List.mem_of_getElem? (i := 1172) (by decide +kernel)⟩
theorem lw_p36 : lw_okq (⟨"RaceByLaps$Tries", "nextLaps", "(II)Z"⟩, 11) := ⟨⟨by decide +kernel, by decide +kernel⟩, List.mem_of_getElem? (i := 437) (by decide +kernel), List.mem_of_getElem? (i := 1175) (by decide +kernel), List.mem_of_getElem? (i := 1176) (by decide +kernel)⟩
theorem lw_p37 : lw_okq (⟨"RaceByLaps$Tries", "keepPair", "(III)V"⟩, 11) := ⟨⟨by decide +kernel, by decide +kernel⟩, List.mem_of_getElem? (i := 437) (by decide +kernel), List.mem_of_getElem? (i := 1207) (by decide +kernel), List.mem_of_getElem? (i := 1208) (by decide +kernel)⟩
theorem lw_p38 : lw_okq (⟨"RaceByLaps$Tries", "isSettled", "(IIII)Z"⟩, 11) := ⟨⟨by decide +kernel, by decide +kernel⟩, List.mem_of_getElem? (i := 437) (by decide +kernel), List.mem_of_getElem? (i := 1212) (by decide +kernel), List.mem_of_getElem? (i := 1213) (by decide +kernel)⟩
theorem lw_p39 : lw_okq (⟨"java/lang/Throwable", "fillInStackTrace", "(I)Ljava/lang/Throwable;"⟩, 6) := ⟨⟨by decide +kernel, by decide +kernel⟩, List.mem_of_getElem? (i := 1297) (by decide +kernel), List.mem_of_getElem? (i := 1295) (by decide +kernel), List.mem_of_getElem? (i := 1296) (by decide +kernel)⟩
theorem lw_p40 : lw_okq (⟨"RaceByLapsModel", "lays", "(II)V"⟩, 97) := ⟨⟨by decide +kernel, by decide +kernel⟩, List.mem_of_getElem? (i := 1358) (by decide +kernel), List.mem_of_getElem? (i := 1356) (by decide +kernel), List.mem_of_getElem? (i := 1357) (by decide +kernel)⟩
theorem lw_p41 : lw_okq (⟨"RaceByLapsModel", "isSector", "(I)Z"⟩, 97) := ⟨⟨by decide +kernel, by decide +kernel⟩, List.mem_of_getElem? (i := 1358) (by decide +kernel), List.mem_of_getElem? (i := 1365) (by decide +kernel), List.mem_of_getElem? (i := 1366) (by decide +kernel)⟩
theorem lw_p42 : lw_okq (⟨"RaceByLapsModel", "isCar", "(I)Z"⟩, 97) := ⟨⟨by decide +kernel, by decide +kernel⟩, List.mem_of_getElem? (i := 1358) (by decide +kernel), List.mem_of_getElem? (i := 1410) (by decide +kernel), List.mem_of_getElem? (i := 1411) (by decide +kernel)⟩
theorem lw_p43 : lw_okq (⟨"RaceByLapsModel", "isLap", "(I)Z"⟩, 97) := ⟨⟨by decide +kernel, by decide +kernel⟩, List.mem_of_getElem? (i := 1358) (by decide +kernel), List.mem_of_getElem? (i := 1418) (by decide +kernel), List.mem_of_getElem? (i := 1419) (by decide +kernel)⟩
theorem lw_p44 : lw_okq (⟨"RaceByLapsModel", "isStopLap", "(I)Z"⟩, 97) := ⟨⟨by decide +kernel, by decide +kernel⟩, List.mem_of_getElem? (i := 1358) (by decide +kernel), List.mem_of_getElem? (i := 1426) (by decide +kernel), List.mem_of_getElem? (i := 1427) (by decide +kernel)⟩
theorem lw_p45 : lw_okq (⟨"RaceByLapsModel", "puts", "(IIII)V"⟩, 97) := ⟨⟨by decide +kernel, by decide +kernel⟩, List.mem_of_getElem? (i := 1358) (by decide +kernel), List.mem_of_getElem? (i := 1433) (by decide +kernel), List.mem_of_getElem? (i := 1434) (by decide +kernel)⟩
theorem lw_p46 : lw_okq (⟨"RaceByLapsModel", "reads", "(IZ)I"⟩, 97) := ⟨⟨by decide +kernel, by decide +kernel⟩, List.mem_of_getElem? (i := 1358) (by decide +kernel), List.mem_of_getElem? (i := 1461) (by decide +kernel), List.mem_of_getElem? (i := 1462) (by decide +kernel)⟩
theorem lw_p47 : lw_okq (⟨"RaceByLapsModel", "lines", "(I)Z"⟩, 97) := ⟨⟨by decide +kernel, by decide +kernel⟩, List.mem_of_getElem? (i := 1358) (by decide +kernel), List.mem_of_getElem? (i := 1468) (by decide +kernel), List.mem_of_getElem? (i := 1469) (by decide +kernel)⟩
def lw_privs_3 : List (MethodName × Nat) := [(⟨"RaceByLaps$Result", "isAhead", "(II)Z"⟩, 5), (⟨"RaceByLaps$Tries", "takeWay", "(LRaceByLaps$Car;I)V"⟩, 11), (⟨"RaceByLaps$Tries", "keepWay", "(II)V"⟩, 11), (⟨"RaceByLaps$Tries", "nextSets", "(II)Z"⟩, 11), (⟨"RaceByLaps$Tries", "nextLaps", "(II)Z"⟩, 11), (⟨"RaceByLaps$Tries", "keepPair", "(III)V"⟩, 11), (⟨"RaceByLaps$Tries", "isSettled", "(IIII)Z"⟩, 11), (⟨"java/lang/Throwable", "fillInStackTrace", "(I)Ljava/lang/Throwable;"⟩, 6), (⟨"RaceByLapsModel", "lays", "(II)V"⟩, 97), (⟨"RaceByLapsModel", "isSector", "(I)Z"⟩, 97), (⟨"RaceByLapsModel", "isCar", "(I)Z"⟩, 97), (⟨"RaceByLapsModel", "isLap", "(I)Z"⟩, 97), (⟨"RaceByLapsModel", "isStopLap", "(I)Z"⟩, 97), (⟨"RaceByLapsModel", "puts", "(IIII)V"⟩, 97), (⟨"RaceByLapsModel", "reads", "(IZ)I"⟩, 97), (⟨"RaceByLapsModel", "lines", "(I)Z"⟩, 97)]
theorem lw_r3 : ∀ q ∈ lw_privs_3, lw_okq q := List.forall_mem_cons.mpr ⟨lw_p32, List.forall_mem_cons.mpr ⟨lw_p33, List.forall_mem_cons.mpr ⟨lw_p34, List.forall_mem_cons.mpr ⟨lw_p35, List.forall_mem_cons.mpr ⟨lw_p36, List.forall_mem_cons.mpr ⟨lw_p37, List.forall_mem_cons.mpr ⟨lw_p38, List.forall_mem_cons.mpr ⟨lw_p39, List.forall_mem_cons.mpr ⟨lw_p40, List.forall_mem_cons.mpr ⟨lw_p41, List.forall_mem_cons.mpr ⟨lw_p42, List.forall_mem_cons.mpr ⟨lw_p43, List.forall_mem_cons.mpr ⟨lw_p44, List.forall_mem_cons.mpr ⟨lw_p45, List.forall_mem_cons.mpr ⟨lw_p46, List.forall_mem_cons.mpr ⟨lw_p47, fun _ h => absurd h List.not_mem_nil⟩⟩⟩⟩⟩⟩⟩⟩⟩⟩⟩⟩⟩⟩⟩⟩
theorem lw_p48 : lw_okq (⟨"RaceByLapsModel", "line", "(I)Z"⟩, 97) := ⟨⟨by decide +kernel, by decide +kernel⟩, List.mem_of_getElem? (i := 1358) (by decide +kernel), List.mem_of_getElem? (i := 1472) (by decide +kernel), List.mem_of_getElem? (i := 1473) (by decide +kernel)⟩
theorem lw_p49 : lw_okq (⟨"RaceByLapsModel", "isSign", "(IC)Z"⟩, 97) := ⟨⟨by decide +kernel, by decide +kernel⟩, List.mem_of_getElem? (i := 1358) (by decide +kernel), List.mem_of_getElem? (i := 1476) (by decide +kernel), List.mem_of_getElem? (i := 1477) (by decide +kernel)⟩
theorem lw_p50 : lw_okq (⟨"RaceByLapsModel", "marks", "(I)V"⟩, 97) := ⟨⟨by decide +kernel, by decide +kernel⟩, List.mem_of_getElem? (i := 1358) (by decide +kernel), List.mem_of_getElem? (i := 1480) (by decide +kernel), List.mem_of_getElem? (i := 1481) (by decide +kernel)⟩
theorem lw_p51 : lw_okq (⟨"RaceByLapsModel", "some", "(I)Z"⟩, 97) := ⟨⟨by decide +kernel, by decide +kernel⟩, List.mem_of_getElem? (i := 1358) (by decide +kernel), List.mem_of_getElem? (i := 1484) (by decide +kernel), List.mem_of_getElem? (i := 1485) (by decide +kernel)⟩
theorem lw_p52 : lw_okq (⟨"RaceByLapsModel", "every", "(I)Z"⟩, 97) := ⟨⟨by decide +kernel, by decide +kernel⟩, List.mem_of_getElem? (i := 1358) (by decide +kernel), List.mem_of_getElem? (i := 1488) (by decide +kernel), List.mem_of_getElem? (i := 1489) (by decide +kernel)⟩
theorem lw_p53 : lw_okq (⟨"RaceByLapsModel", "compared", "(I)Z"⟩, 97) := ⟨⟨by decide +kernel, by decide +kernel⟩, List.mem_of_getElem? (i := 1358) (by decide +kernel), List.mem_of_getElem? (i := 1492) (by decide +kernel), List.mem_of_getElem? (i := 1493) (by decide +kernel)⟩
theorem lw_p54 : lw_okq (⟨"RaceByLapsModel", "total", "(I)Z"⟩, 97) := ⟨⟨by decide +kernel, by decide +kernel⟩, List.mem_of_getElem? (i := 1358) (by decide +kernel), List.mem_of_getElem? (i := 1496) (by decide +kernel), List.mem_of_getElem? (i := 1497) (by decide +kernel)⟩
theorem lw_p55 : lw_okq (⟨"RaceByLapsModel", "product", "(I)Z"⟩, 97) := ⟨⟨by decide +kernel, by decide +kernel⟩, List.mem_of_getElem? (i := 1358) (by decide +kernel), List.mem_of_getElem? (i := 1500) (by decide +kernel), List.mem_of_getElem? (i := 1501) (by decide +kernel)⟩
theorem lw_p56 : lw_okq (⟨"RaceByLapsModel", "unary", "(I)Z"⟩, 97) := ⟨⟨by decide +kernel, by decide +kernel⟩, List.mem_of_getElem? (i := 1358) (by decide +kernel), List.mem_of_getElem? (i := 1504) (by decide +kernel), List.mem_of_getElem? (i := 1505) (by decide +kernel)⟩
theorem lw_p57 : lw_okq (⟨"RaceByLapsModel", "isOf", "(ILjava/lang/String;)Z"⟩, 97) := ⟨⟨by decide +kernel, by decide +kernel⟩, List.mem_of_getElem? (i := 1358) (by decide +kernel), List.mem_of_getElem? (i := 1509) (by decide +kernel), List.mem_of_getElem? (i := 1510) (by decide +kernel)⟩
theorem lw_p58 : lw_okq (⟨"RaceByLapsModel", "thing", "(I)Z"⟩, 97) := ⟨⟨by decide +kernel, by decide +kernel⟩, List.mem_of_getElem? (i := 1358) (by decide +kernel), List.mem_of_getElem? (i := 1514) (by decide +kernel), List.mem_of_getElem? (i := 1515) (by decide +kernel)⟩
theorem lw_p59 : lw_okq (⟨"RaceByLapsModel", "numeral", "(I)Z"⟩, 97) := ⟨⟨by decide +kernel, by decide +kernel⟩, List.mem_of_getElem? (i := 1358) (by decide +kernel), List.mem_of_getElem? (i := 1519) (by decide +kernel), List.mem_of_getElem? (i := 1520) (by decide +kernel)⟩
theorem lw_p60 : lw_okq (⟨"RaceByLapsModel", "law", "(I)Z"⟩, 97) := ⟨⟨by decide +kernel, by decide +kernel⟩, List.mem_of_getElem? (i := 1358) (by decide +kernel), List.mem_of_getElem? (i := 1530) (by decide +kernel), List.mem_of_getElem? (i := 1531) (by decide +kernel)⟩
theorem lw_p61 : lw_okq (⟨"RaceByLapsModel", "refuse", "()I"⟩, 97) := ⟨⟨by decide +kernel, by decide +kernel⟩, List.mem_of_getElem? (i := 1358) (by decide +kernel), List.mem_of_getElem? (i := 1539) (by decide +kernel), List.mem_of_getElem? (i := 1540) (by decide +kernel)⟩
theorem lw_p62 : lw_okq (⟨"RaceByLapsModel", "runs", "()V"⟩, 97) := ⟨⟨by decide +kernel, by decide +kernel⟩, List.mem_of_getElem? (i := 1358) (by decide +kernel), List.mem_of_getElem? (i := 1543) (by decide +kernel), List.mem_of_getElem? (i := 1544) (by decide +kernel)⟩
theorem lw_p63 : lw_okq (⟨"RaceByLapsModel", "starts", "()V"⟩, 97) := ⟨⟨by decide +kernel, by decide +kernel⟩, List.mem_of_getElem? (i := 1358) (by decide +kernel), List.mem_of_getElem? (i := 1547) (by decide +kernel), List.mem_of_getElem? (i := 1548) (by decide +kernel)⟩
def lw_privs_4 : List (MethodName × Nat) := [(⟨"RaceByLapsModel", "line", "(I)Z"⟩, 97), (⟨"RaceByLapsModel", "isSign", "(IC)Z"⟩, 97), (⟨"RaceByLapsModel", "marks", "(I)V"⟩, 97), (⟨"RaceByLapsModel", "some", "(I)Z"⟩, 97), (⟨"RaceByLapsModel", "every", "(I)Z"⟩, 97), (⟨"RaceByLapsModel", "compared", "(I)Z"⟩, 97), (⟨"RaceByLapsModel", "total", "(I)Z"⟩, 97), (⟨"RaceByLapsModel", "product", "(I)Z"⟩, 97), (⟨"RaceByLapsModel", "unary", "(I)Z"⟩, 97), (⟨"RaceByLapsModel", "isOf", "(ILjava/lang/String;)Z"⟩, 97), (⟨"RaceByLapsModel", "thing", "(I)Z"⟩, 97), (⟨"RaceByLapsModel", "numeral", "(I)Z"⟩, 97), (⟨"RaceByLapsModel", "law", "(I)Z"⟩, 97), (⟨"RaceByLapsModel", "refuse", "()I"⟩, 97), (⟨"RaceByLapsModel", "runs", "()V"⟩, 97), (⟨"RaceByLapsModel", "starts", "()V"⟩, 97)]
theorem lw_r4 : ∀ q ∈ lw_privs_4, lw_okq q := List.forall_mem_cons.mpr ⟨lw_p48, List.forall_mem_cons.mpr ⟨lw_p49, List.forall_mem_cons.mpr ⟨lw_p50, List.forall_mem_cons.mpr ⟨lw_p51, List.forall_mem_cons.mpr ⟨lw_p52, List.forall_mem_cons.mpr ⟨lw_p53, List.forall_mem_cons.mpr ⟨lw_p54, List.forall_mem_cons.mpr ⟨lw_p55, List.forall_mem_cons.mpr ⟨lw_p56, List.forall_mem_cons.mpr ⟨lw_p57, List.forall_mem_cons.mpr ⟨lw_p58, List.forall_mem_cons.mpr ⟨lw_p59, List.forall_mem_cons.mpr ⟨lw_p60, List.forall_mem_cons.mpr ⟨lw_p61, List.forall_mem_cons.mpr ⟨lw_p62, List.forall_mem_cons.mpr ⟨lw_p63, fun _ h => absurd h List.not_mem_nil⟩⟩⟩⟩⟩⟩⟩⟩⟩⟩⟩⟩⟩⟩⟩⟩
theorem lw_p64 : lw_okq (⟨"RaceByLapsModel", "next", "()I"⟩, 97) := ⟨⟨by decide +kernel, by decide +kernel⟩, List.mem_of_getElem? (i := 1358) (by decide +kernel), List.mem_of_getElem? (i := 1551) (by decide +kernel), List.mem_of_getElem? (i := 1552) (by decide +kernel)⟩
theorem lw_p65 : lw_okq (⟨"RaceByLapsModel", "goesOn", "(I)Z"⟩, 97) := ⟨⟨by decide +kernel, by decide +kernel⟩, List.mem_of_getElem? (i := 1358) (by decide +kernel), List.mem_of_getElem? (i := 1555) (by decide +kernel), List.mem_of_getElem? (i := 1556) (by decide +kernel)⟩
theorem lw_p66 : lw_okq (⟨"RaceByLapsModel", "goes", "(II)V"⟩, 97) := ⟨⟨by decide +kernel, by decide +kernel⟩, List.mem_of_getElem? (i := 1358) (by decide +kernel), List.mem_of_getElem? (i := 1559) (by decide +kernel), List.mem_of_getElem? (i := 1560) (by decide +kernel)⟩
theorem lw_p67 : lw_okq (⟨"RaceByLapsModel", "hears", "(II)V"⟩, 97) := ⟨⟨by decide +kernel, by decide +kernel⟩, List.mem_of_getElem? (i := 1358) (by decide +kernel), List.mem_of_getElem? (i := 1563) (by decide +kernel), List.mem_of_getElem? (i := 1564) (by decide +kernel)⟩
theorem lw_p68 : lw_okq (⟨"RaceByLapsModel", "isSlow", "(I)Z"⟩, 97) := ⟨⟨by decide +kernel, by decide +kernel⟩, List.mem_of_getElem? (i := 1358) (by decide +kernel), List.mem_of_getElem? (i := 1567) (by decide +kernel), List.mem_of_getElem? (i := 1568) (by decide +kernel)⟩
theorem lw_p69 : lw_okq (⟨"RaceByLapsModel", "takes", "(IIIZ)I"⟩, 97) := ⟨⟨by decide +kernel, by decide +kernel⟩, List.mem_of_getElem? (i := 1358) (by decide +kernel), List.mem_of_getElem? (i := 1571) (by decide +kernel), List.mem_of_getElem? (i := 1572) (by decide +kernel)⟩
theorem lw_p70 : lw_okq (⟨"RaceByLapsModel", "isFront", "(I)Z"⟩, 97) := ⟨⟨by decide +kernel, by decide +kernel⟩, List.mem_of_getElem? (i := 1358) (by decide +kernel), List.mem_of_getElem? (i := 1575) (by decide +kernel), List.mem_of_getElem? (i := 1576) (by decide +kernel)⟩
theorem lw_p71 : lw_okq (⟨"RaceByLapsModel", "wet", "(II)I"⟩, 97) := ⟨⟨by decide +kernel, by decide +kernel⟩, List.mem_of_getElem? (i := 1358) (by decide +kernel), List.mem_of_getElem? (i := 1579) (by decide +kernel), List.mem_of_getElem? (i := 1580) (by decide +kernel)⟩
theorem lw_p72 : lw_okq (⟨"RaceByLapsModel", "held", "(IIIIZ)I"⟩, 97) := ⟨⟨by decide +kernel, by decide +kernel⟩, List.mem_of_getElem? (i := 1358) (by decide +kernel), List.mem_of_getElem? (i := 1585) (by decide +kernel), List.mem_of_getElem? (i := 1586) (by decide +kernel)⟩
theorem lw_p73 : lw_okq (⟨"RaceByLapsModel", "isYellow", "(II)Z"⟩, 97) := ⟨⟨by decide +kernel, by decide +kernel⟩, List.mem_of_getElem? (i := 1358) (by decide +kernel), List.mem_of_getElem? (i := 1589) (by decide +kernel), List.mem_of_getElem? (i := 1590) (by decide +kernel)⟩
theorem lw_p74 : lw_okq (⟨"RaceByLapsModel", "latest", "(III)I"⟩, 97) := ⟨⟨by decide +kernel, by decide +kernel⟩, List.mem_of_getElem? (i := 1358) (by decide +kernel), List.mem_of_getElem? (i := 1593) (by decide +kernel), List.mem_of_getElem? (i := 1594) (by decide +kernel)⟩
theorem lw_p75 : lw_okq (⟨"RaceByLapsModel", "endsLap", "(III)V"⟩, 97) := ⟨⟨by decide +kernel, by decide +kernel⟩, List.mem_of_getElem? (i := 1358) (by decide +kernel), List.mem_of_getElem? (i := 1597) (by decide +kernel), List.mem_of_getElem? (i := 1598) (by decide +kernel)⟩
theorem lw_p76 : lw_okq (⟨"RaceByLapsModel", "isOver", "(II)Z"⟩, 97) := ⟨⟨by decide +kernel, by decide +kernel⟩, List.mem_of_getElem? (i := 1358) (by decide +kernel), List.mem_of_getElem? (i := 1601) (by decide +kernel), List.mem_of_getElem? (i := 1602) (by decide +kernel)⟩
theorem lw_p77 : lw_okq (⟨"RaceByLapsModel", "asks", "(III)I"⟩, 97) := ⟨⟨by decide +kernel, by decide +kernel⟩, List.mem_of_getElem? (i := 1358) (by decide +kernel), List.mem_of_getElem? (i := 1605) (by decide +kernel), List.mem_of_getElem? (i := 1606) (by decide +kernel)⟩
theorem lw_p78 : lw_okq (⟨"RaceByLapsModel", "speaks", "(III)V"⟩, 97) := ⟨⟨by decide +kernel, by decide +kernel⟩, List.mem_of_getElem? (i := 1358) (by decide +kernel), List.mem_of_getElem? (i := 1609) (by decide +kernel), List.mem_of_getElem? (i := 1610) (by decide +kernel)⟩
theorem lw_p79 : lw_okq (⟨"RaceByLapsModel", "gives", "(II)I"⟩, 97) := ⟨⟨by decide +kernel, by decide +kernel⟩, List.mem_of_getElem? (i := 1358) (by decide +kernel), List.mem_of_getElem? (i := 1616) (by decide +kernel), List.mem_of_getElem? (i := 1617) (by decide +kernel)⟩
def lw_privs_5 : List (MethodName × Nat) := [(⟨"RaceByLapsModel", "next", "()I"⟩, 97), (⟨"RaceByLapsModel", "goesOn", "(I)Z"⟩, 97), (⟨"RaceByLapsModel", "goes", "(II)V"⟩, 97), (⟨"RaceByLapsModel", "hears", "(II)V"⟩, 97), (⟨"RaceByLapsModel", "isSlow", "(I)Z"⟩, 97), (⟨"RaceByLapsModel", "takes", "(IIIZ)I"⟩, 97), (⟨"RaceByLapsModel", "isFront", "(I)Z"⟩, 97), (⟨"RaceByLapsModel", "wet", "(II)I"⟩, 97), (⟨"RaceByLapsModel", "held", "(IIIIZ)I"⟩, 97), (⟨"RaceByLapsModel", "isYellow", "(II)Z"⟩, 97), (⟨"RaceByLapsModel", "latest", "(III)I"⟩, 97), (⟨"RaceByLapsModel", "endsLap", "(III)V"⟩, 97), (⟨"RaceByLapsModel", "isOver", "(II)Z"⟩, 97), (⟨"RaceByLapsModel", "asks", "(III)I"⟩, 97), (⟨"RaceByLapsModel", "speaks", "(III)V"⟩, 97), (⟨"RaceByLapsModel", "gives", "(II)I"⟩, 97)]
theorem lw_r5 : ∀ q ∈ lw_privs_5, lw_okq q := List.forall_mem_cons.mpr ⟨lw_p64, List.forall_mem_cons.mpr ⟨lw_p65, List.forall_mem_cons.mpr ⟨lw_p66, List.forall_mem_cons.mpr ⟨lw_p67, List.forall_mem_cons.mpr ⟨lw_p68, List.forall_mem_cons.mpr ⟨lw_p69, List.forall_mem_cons.mpr ⟨lw_p70, List.forall_mem_cons.mpr ⟨lw_p71, List.forall_mem_cons.mpr ⟨lw_p72, List.forall_mem_cons.mpr ⟨lw_p73, List.forall_mem_cons.mpr ⟨lw_p74, List.forall_mem_cons.mpr ⟨lw_p75, List.forall_mem_cons.mpr ⟨lw_p76, List.forall_mem_cons.mpr ⟨lw_p77, List.forall_mem_cons.mpr ⟨lw_p78, List.forall_mem_cons.mpr ⟨lw_p79, fun _ h => absurd h List.not_mem_nil⟩⟩⟩⟩⟩⟩⟩⟩⟩⟩⟩⟩⟩⟩⟩⟩
theorem lw_p80 : lw_okq (⟨"RaceByLapsModel", "boxes", "(IIII)V"⟩, 97) := ⟨⟨by decide +kernel, by decide +kernel⟩, List.mem_of_getElem? (i := 1358) (by decide +kernel), List.mem_of_getElem? (i := 1623) (by decide +kernel), List.mem_of_getElem? (i := 1624) (by decide +kernel)⟩
theorem lw_p81 : lw_okq (⟨"RaceByLapsModel", "ledBy", "(II)I"⟩, 97) := ⟨⟨by decide +kernel, by decide +kernel⟩, List.mem_of_getElem? (i := 1358) (by decide +kernel), List.mem_of_getElem? (i := 1636) (by decide +kernel), List.mem_of_getElem? (i := 1637) (by decide +kernel)⟩
theorem lw_p82 : lw_okq (⟨"RaceByLapsModel", "secondsOf", "(II)I"⟩, 97) := ⟨⟨by decide +kernel, by decide +kernel⟩, List.mem_of_getElem? (i := 1358) (by decide +kernel), List.mem_of_getElem? (i := 1666) (by decide +kernel), List.mem_of_getElem? (i := 1667) (by decide +kernel)⟩
theorem lw_p83 : lw_okq (⟨"RaceByLapsModel", "weight", "(II)I"⟩, 97) := ⟨⟨by decide +kernel, by decide +kernel⟩, List.mem_of_getElem? (i := 1358) (by decide +kernel), List.mem_of_getElem? (i := 1670) (by decide +kernel), List.mem_of_getElem? (i := 1671) (by decide +kernel)⟩
theorem lw_p84 : lw_okq (⟨"RaceByLapsModel", "judges", "(I)V"⟩, 97) := ⟨⟨by decide +kernel, by decide +kernel⟩, List.mem_of_getElem? (i := 1358) (by decide +kernel), List.mem_of_getElem? (i := 1678) (by decide +kernel), List.mem_of_getElem? (i := 1679) (by decide +kernel)⟩
theorem lw_p85 : lw_okq (⟨"RaceByLapsModel", "timeFound", "(II)I"⟩, 97) := ⟨⟨by decide +kernel, by decide +kernel⟩, List.mem_of_getElem? (i := 1358) (by decide +kernel), List.mem_of_getElem? (i := 1682) (by decide +kernel), List.mem_of_getElem? (i := 1683) (by decide +kernel)⟩
theorem lw_p86 : lw_okq (⟨"RaceByLapsModel", "placeOf", "(IZ)I"⟩, 97) := ⟨⟨by decide +kernel, by decide +kernel⟩, List.mem_of_getElem? (i := 1358) (by decide +kernel), List.mem_of_getElem? (i := 1686) (by decide +kernel), List.mem_of_getElem? (i := 1687) (by decide +kernel)⟩
theorem lw_p87 : lw_okq (⟨"RaceByLapsModel", "isBetter", "(II)Z"⟩, 97) := ⟨⟨by decide +kernel, by decide +kernel⟩, List.mem_of_getElem? (i := 1358) (by decide +kernel), List.mem_of_getElem? (i := 1690) (by decide +kernel), List.mem_of_getElem? (i := 1691) (by decide +kernel)⟩
theorem lw_p88 : lw_okq (⟨"RaceByLapsModel", "isAsked", "(III)Z"⟩, 97) := ⟨⟨by decide +kernel, by decide +kernel⟩, List.mem_of_getElem? (i := 1358) (by decide +kernel), List.mem_of_getElem? (i := 1714) (by decide +kernel), List.mem_of_getElem? (i := 1715) (by decide +kernel)⟩
theorem lw_p89 : lw_okq (⟨"RaceByLapsModel", "bests", "(III)Z"⟩, 97) := ⟨⟨by decide +kernel, by decide +kernel⟩, List.mem_of_getElem? (i := 1358) (by decide +kernel), List.mem_of_getElem? (i := 1718) (by decide +kernel), List.mem_of_getElem? (i := 1719) (by decide +kernel)⟩
theorem lw_p90 : lw_okq (⟨"RaceByLapsModel", "clears", "(I)V"⟩, 97) := ⟨⟨by decide +kernel, by decide +kernel⟩, List.mem_of_getElem? (i := 1358) (by decide +kernel), List.mem_of_getElem? (i := 1722) (by decide +kernel), List.mem_of_getElem? (i := 1723) (by decide +kernel)⟩
theorem lw_p91 : lw_okq (⟨"RaceByLapsModel", "tries", "(IIIIIII)V"⟩, 97) := ⟨⟨by decide +kernel, by decide +kernel⟩, List.mem_of_getElem? (i := 1358) (by decide +kernel), List.mem_of_getElem? (i := 1726) (by decide +kernel), List.mem_of_getElem? (i := 1727) (by decide +kernel)⟩
theorem lw_p92 : lw_okq (⟨"RaceByLapsModel", "putsBack", "(I)V"⟩, 97) := ⟨⟨by decide +kernel, by decide +kernel⟩, List.mem_of_getElem? (i := 1358) (by decide +kernel), List.mem_of_getElem? (i := 1733) (by decide +kernel), List.mem_of_getElem? (i := 1734) (by decide +kernel)⟩
theorem lw_p93 : lw_okq (⟨"RaceByLapsModel", "chooses", "(II)V"⟩, 97) := ⟨⟨by decide +kernel, by decide +kernel⟩, List.mem_of_getElem? (i := 1358) (by decide +kernel), List.mem_of_getElem? (i := 1753) (by decide +kernel), List.mem_of_getElem? (i := 1754) (by decide +kernel)⟩
theorem lw_p94 : lw_okq (⟨"RaceByLapsModel", "isSettled", "(IIII)Z"⟩, 97) := ⟨⟨by decide +kernel, by decide +kernel⟩, List.mem_of_getElem? (i := 1358) (by decide +kernel), List.mem_of_getElem? (i := 1757) (by decide +kernel), List.mem_of_getElem? (i := 1758) (by decide +kernel)⟩
theorem lw_p95 : lw_okq (⟨"RaceByLapsModel", "knownOf", "(III)I"⟩, 97) := ⟨⟨by decide +kernel, by decide +kernel⟩, List.mem_of_getElem? (i := 1358) (by decide +kernel), List.mem_of_getElem? (i := 1769) (by decide +kernel), List.mem_of_getElem? (i := 1770) (by decide +kernel)⟩
def lw_privs_6 : List (MethodName × Nat) := [(⟨"RaceByLapsModel", "boxes", "(IIII)V"⟩, 97), (⟨"RaceByLapsModel", "ledBy", "(II)I"⟩, 97), (⟨"RaceByLapsModel", "secondsOf", "(II)I"⟩, 97), (⟨"RaceByLapsModel", "weight", "(II)I"⟩, 97), (⟨"RaceByLapsModel", "judges", "(I)V"⟩, 97), (⟨"RaceByLapsModel", "timeFound", "(II)I"⟩, 97), (⟨"RaceByLapsModel", "placeOf", "(IZ)I"⟩, 97), (⟨"RaceByLapsModel", "isBetter", "(II)Z"⟩, 97), (⟨"RaceByLapsModel", "isAsked", "(III)Z"⟩, 97), (⟨"RaceByLapsModel", "bests", "(III)Z"⟩, 97), (⟨"RaceByLapsModel", "clears", "(I)V"⟩, 97), (⟨"RaceByLapsModel", "tries", "(IIIIIII)V"⟩, 97), (⟨"RaceByLapsModel", "putsBack", "(I)V"⟩, 97), (⟨"RaceByLapsModel", "chooses", "(II)V"⟩, 97), (⟨"RaceByLapsModel", "isSettled", "(IIII)Z"⟩, 97), (⟨"RaceByLapsModel", "knownOf", "(III)I"⟩, 97)]
theorem lw_r6 : ∀ q ∈ lw_privs_6, lw_okq q := List.forall_mem_cons.mpr ⟨lw_p80, List.forall_mem_cons.mpr ⟨lw_p81, List.forall_mem_cons.mpr ⟨lw_p82, List.forall_mem_cons.mpr ⟨lw_p83, List.forall_mem_cons.mpr ⟨lw_p84, List.forall_mem_cons.mpr ⟨lw_p85, List.forall_mem_cons.mpr ⟨lw_p86, List.forall_mem_cons.mpr ⟨lw_p87, List.forall_mem_cons.mpr ⟨lw_p88, List.forall_mem_cons.mpr ⟨lw_p89, List.forall_mem_cons.mpr ⟨lw_p90, List.forall_mem_cons.mpr ⟨lw_p91, List.forall_mem_cons.mpr ⟨lw_p92, List.forall_mem_cons.mpr ⟨lw_p93, List.forall_mem_cons.mpr ⟨lw_p94, List.forall_mem_cons.mpr ⟨lw_p95, fun _ h => absurd h List.not_mem_nil⟩⟩⟩⟩⟩⟩⟩⟩⟩⟩⟩⟩⟩⟩⟩⟩
theorem lw_p96 : lw_okq (⟨"RaceByLapsModel", "toldLine", "(II)I"⟩, 97) := ⟨⟨by decide +kernel, by decide +kernel⟩, List.mem_of_getElem? (i := 1358) (by decide +kernel), List.mem_of_getElem? (i := 1781) (by decide +kernel), List.mem_of_getElem? (i := 1782) (by decide +kernel)⟩
def lw_privs_7 : List (MethodName × Nat) := [(⟨"RaceByLapsModel", "toldLine", "(II)I"⟩, 97)]
theorem lw_r7 : ∀ q ∈ lw_privs_7, lw_okq q := List.forall_mem_cons.mpr ⟨lw_p96, fun _ h => absurd h List.not_mem_nil⟩
def lw_privs : List (MethodName × Nat) := lw_privs_1 ++ (lw_privs_2 ++ (lw_privs_3 ++ (lw_privs_4 ++ (lw_privs_5 ++ (lw_privs_6 ++ (lw_privs_7))))))
def lw_tbl : List Cond := k2_sels lw_privs ++ tables_1
theorem lw_privs_ok : ∀ q ∈ lw_privs, lw_okq q := by
  show ∀ q ∈ lw_privs_1 ++ (lw_privs_2 ++ (lw_privs_3 ++ (lw_privs_4 ++ (lw_privs_5 ++ (lw_privs_6 ++ (lw_privs_7)))))), lw_okq q
  exact List.forall_mem_append.mpr ⟨lw_r1, List.forall_mem_append.mpr ⟨lw_r2, List.forall_mem_append.mpr ⟨lw_r3, List.forall_mem_append.mpr ⟨lw_r4, List.forall_mem_append.mpr ⟨lw_r5, List.forall_mem_append.mpr ⟨lw_r6, lw_r7⟩⟩⟩⟩⟩⟩
theorem tw_tb {w : Cond} (h : w ∈ tables_1) : w ∈ lw_tbl := List.mem_append_right _ h
theorem tw_tb1 {w : Cond} (h : w ∈ tables_1_1) : w ∈ lw_tbl := tw_tb (List.mem_append_left _ h)
theorem tw_tb2 {w : Cond} (h : w ∈ tables_1_2) : w ∈ lw_tbl := tw_tb (List.mem_append_right _ (List.mem_append_left _ h))
theorem tw_tb3 {w : Cond} (h : w ∈ tables_1_3) : w ∈ lw_tbl := tw_tb (List.mem_append_right _ (List.mem_append_right _ (List.mem_append_left _ h)))
theorem tw_tb4 {w : Cond} (h : w ∈ tables_1_4) : w ∈ lw_tbl := tw_tb (List.mem_append_right _ (List.mem_append_right _ (List.mem_append_right _ (List.mem_append_left _ h))))
theorem tw_tb5 {w : Cond} (h : w ∈ tables_1_5) : w ∈ lw_tbl := tw_tb (List.mem_append_right _ (List.mem_append_right _ (List.mem_append_right _ (List.mem_append_right _ (List.mem_append_left _ h)))))
theorem tw_tb6 {w : Cond} (h : w ∈ tables_1_6) : w ∈ lw_tbl := tw_tb (List.mem_append_right _ (List.mem_append_right _ (List.mem_append_right _ (List.mem_append_right _ (List.mem_append_right _ (List.mem_append_left _ h))))))
theorem tw_tb7 {w : Cond} (h : w ∈ tables_1_7) : w ∈ lw_tbl := tw_tb (List.mem_append_right _ (List.mem_append_right _ (List.mem_append_right _ (List.mem_append_right _ (List.mem_append_right _ (List.mem_append_right _ (List.mem_append_left _ h)))))))
theorem tw_tb8 {w : Cond} (h : w ∈ tables_1_8) : w ∈ lw_tbl := tw_tb (List.mem_append_right _ (List.mem_append_right _ (List.mem_append_right _ (List.mem_append_right _ (List.mem_append_right _ (List.mem_append_right _ (List.mem_append_right _ (List.mem_append_left _ h))))))))
theorem tw_tb9 {w : Cond} (h : w ∈ tables_1_9) : w ∈ lw_tbl := tw_tb (List.mem_append_right _ (List.mem_append_right _ (List.mem_append_right _ (List.mem_append_right _ (List.mem_append_right _ (List.mem_append_right _ (List.mem_append_right _ (List.mem_append_right _ (h)))))))))
theorem kw_0 : (Jvm.Cond.initialized "RaceByLapsLaw") ∈ lw_tbl := tw_tb1 (List.mem_of_getElem? (i := 0) rfl)
theorem kw_1 : (Jvm.Cond.initialized "RaceByLaps") ∈ lw_tbl := tw_tb1 (List.mem_of_getElem? (i := 1) rfl)
theorem kw_2 : (Jvm.Cond.initialized "RaceByLaps$Reckoner") ∈ lw_tbl := tw_tb1 (List.mem_of_getElem? (i := 2) rfl)
theorem kw_3 : (Jvm.Cond.initialized "RaceByLaps$Track") ∈ lw_tbl := tw_tb1 (List.mem_of_getElem? (i := 3) rfl)
theorem kw_4 : (Jvm.Cond.initialized "RaceByLaps$Table") ∈ lw_tbl := tw_tb1 (List.mem_of_getElem? (i := 4) rfl)
theorem kw_5 : (Jvm.Cond.initialized "java/lang/Math") ∈ lw_tbl := tw_tb1 (List.mem_of_getElem? (i := 5) rfl)
theorem kw_6 : (Jvm.Cond.initialized "RaceByLaps$Race") ∈ lw_tbl := tw_tb1 (List.mem_of_getElem? (i := 6) rfl)
theorem kw_7 : (Jvm.Cond.initialized "RaceByLaps$Car") ∈ lw_tbl := tw_tb1 (List.mem_of_getElem? (i := 7) rfl)
theorem kw_8 : (Jvm.Cond.initialized "RaceByLaps$Text") ∈ lw_tbl := tw_tb1 (List.mem_of_getElem? (i := 8) rfl)
theorem kw_9 : (Jvm.Cond.initialized "RaceByLaps$Runner") ∈ lw_tbl := tw_tb1 (List.mem_of_getElem? (i := 9) rfl)
theorem kw_10 : (Jvm.Cond.initialized "RaceByLaps$Book") ∈ lw_tbl := tw_tb1 (List.mem_of_getElem? (i := 10) rfl)
theorem kw_11 : (Jvm.Cond.initialized "RaceByLaps$Result") ∈ lw_tbl := tw_tb1 (List.mem_of_getElem? (i := 11) rfl)
theorem kw_12 : (Jvm.Cond.initialized "RaceByLaps$Tries") ∈ lw_tbl := tw_tb1 (List.mem_of_getElem? (i := 12) rfl)
theorem kw_13 : (Jvm.Cond.initialized "RaceByLaps$Reader") ∈ lw_tbl := tw_tb1 (List.mem_of_getElem? (i := 13) rfl)
theorem kw_14 : (Jvm.Cond.initialized "RaceByLapsModel") ∈ lw_tbl := tw_tb1 (List.mem_of_getElem? (i := 14) rfl)
theorem kw_15 : (Jvm.Cond.initialized "java/lang/String") ∈ lw_tbl := tw_tb1 (List.mem_of_getElem? (i := 15) rfl)
theorem kw_16 : (Jvm.Cond.initialized "java/lang/StringLatin1") ∈ lw_tbl := tw_tb1 (List.mem_of_getElem? (i := 16) rfl)
theorem kw_17 : (Jvm.Cond.initialized "java/lang/StringUTF16") ∈ lw_tbl := tw_tb1 (List.mem_of_getElem? (i := 17) rfl)
theorem kw_18 : (Jvm.Cond.initialized "jdk/internal/util/Preconditions") ∈ lw_tbl := tw_tb1 (List.mem_of_getElem? (i := 18) rfl)
theorem kw_19 : (Jvm.Cond.initialized "java/lang/Character") ∈ lw_tbl := tw_tb1 (List.mem_of_getElem? (i := 19) rfl)
theorem kw_20 : (Jvm.Cond.initialized "java/lang/Throwable") ∈ lw_tbl := tw_tb1 (List.mem_of_getElem? (i := 20) rfl)
theorem kw_21 : (Jvm.Cond.initialized "java/lang/Exception") ∈ lw_tbl := tw_tb1 (List.mem_of_getElem? (i := 21) rfl)
theorem kw_22 : (Jvm.Cond.initialized "java/lang/RuntimeException") ∈ lw_tbl := tw_tb1 (List.mem_of_getElem? (i := 22) rfl)
theorem kw_23 : (Jvm.Cond.initialized "java/util/NoSuchElementException") ∈ lw_tbl := tw_tb1 (List.mem_of_getElem? (i := 23) rfl)
theorem kw_24 : (Jvm.Cond.initialized "java/util/Arrays") ∈ lw_tbl := tw_tb1 (List.mem_of_getElem? (i := 24) rfl)
theorem kw_25 : (Jvm.Cond.initialized "java/lang/Integer") ∈ lw_tbl := tw_tb1 (List.mem_of_getElem? (i := 25) rfl)
theorem kw_26 : (Jvm.Cond.classLink "RaceByLapsLaw" (8 : Nat) "RaceByLaps") ∈ lw_tbl := tw_tb1 (List.mem_of_getElem? (i := 26) rfl)
theorem kw_27 : (Jvm.Cond.instantiable "RaceByLaps" (11 : Nat)) ∈ lw_tbl := tw_tb1 (List.mem_of_getElem? (i := 27) rfl)
theorem kw_28 : (Jvm.Cond.methodLink "RaceByLapsLaw" (22 : Nat) ({ cls := "RaceByLaps", name := "<init>", desc := "()V" } : Jvm.MethodName)) ∈ lw_tbl := tw_tb1 (List.mem_of_getElem? (i := 28) rfl)
theorem kw_29 : (Jvm.Cond.instanceMethod ({ cls := "RaceByLaps", name := "<init>", desc := "()V" } : Jvm.MethodName)) ∈ lw_tbl := tw_tb1 (List.mem_of_getElem? (i := 29) rfl)
theorem kw_30 : (Jvm.Cond.code ({ cls := "RaceByLaps", name := "<init>", desc := "()V" } : Jvm.MethodName) prog_1_method_1_code (2 : Nat) (Option.none : Option Jvm.ClassFile.FieldType)) ∈ lw_tbl := tw_tb1 (List.mem_of_getElem? (i := 30) rfl)
theorem kw_31 : (Jvm.Cond.methodLink "RaceByLaps" (3 : Nat) ({ cls := "java/lang/Object", name := "<init>", desc := "()V" } : Jvm.MethodName)) ∈ lw_tbl := tw_tb1 (List.mem_of_getElem? (i := 31) rfl)
theorem kw_32 : (Jvm.Cond.instanceMethod ({ cls := "java/lang/Object", name := "<init>", desc := "()V" } : Jvm.MethodName)) ∈ lw_tbl := tw_tb1 (List.mem_of_getElem? (i := 32) rfl)
theorem kw_33 : (Jvm.Cond.code ({ cls := "java/lang/Object", name := "<init>", desc := "()V" } : Jvm.MethodName) object_method_1_code (1 : Nat) (Option.none : Option Jvm.ClassFile.FieldType)) ∈ lw_tbl := tw_tb1 (List.mem_of_getElem? (i := 33) rfl)
theorem kw_34 : (Jvm.Cond.classLink "RaceByLaps" (9 : Nat) "RaceByLaps$Reckoner") ∈ lw_tbl := tw_tb1 (List.mem_of_getElem? (i := 34) rfl)
theorem kw_35 : (Jvm.Cond.instantiable "RaceByLaps$Reckoner" (2 : Nat)) ∈ lw_tbl := tw_tb1 (List.mem_of_getElem? (i := 35) rfl)
theorem kw_36 : (Jvm.Cond.methodLink "RaceByLaps" (11 : Nat) ({ cls := "RaceByLaps$Reckoner", name := "<init>", desc := "()V" } : Jvm.MethodName)) ∈ lw_tbl := tw_tb1 (List.mem_of_getElem? (i := 36) rfl)
theorem kw_37 : (Jvm.Cond.instanceMethod ({ cls := "RaceByLaps$Reckoner", name := "<init>", desc := "()V" } : Jvm.MethodName)) ∈ lw_tbl := tw_tb1 (List.mem_of_getElem? (i := 37) rfl)
theorem kw_38 : (Jvm.Cond.code ({ cls := "RaceByLaps$Reckoner", name := "<init>", desc := "()V" } : Jvm.MethodName) prog_6_method_1_code (1 : Nat) (Option.none : Option Jvm.ClassFile.FieldType)) ∈ lw_tbl := tw_tb1 (List.mem_of_getElem? (i := 38) rfl)
theorem kw_39 : (Jvm.Cond.methodLink "RaceByLaps$Reckoner" (3 : Nat) ({ cls := "java/lang/Object", name := "<init>", desc := "()V" } : Jvm.MethodName)) ∈ lw_tbl := tw_tb1 (List.mem_of_getElem? (i := 39) rfl)
theorem kw_40 : (Jvm.Cond.fieldLink "RaceByLaps$Reckoner" (11 : Nat) "RaceByLaps$Reckoner" "letters" "[I") ∈ lw_tbl := tw_tb1 (List.mem_of_getElem? (i := 40) rfl)
theorem kw_41 : (Jvm.Cond.fieldLink "RaceByLaps$Reckoner" (15 : Nat) "RaceByLaps$Reckoner" "stack" "[I") ∈ lw_tbl := tw_tb1 (List.mem_of_getElem? (i := 41) rfl)
theorem kw_42 : (Jvm.Cond.laysFinal "RaceByLaps$Reckoner" "RaceByLaps$Reckoner" "letters" "[I") ∈ lw_tbl := tw_tb1 (List.mem_of_getElem? (i := 42) rfl)
theorem kw_43 : (Jvm.Cond.soleField "RaceByLaps$Reckoner" "letters") ∈ lw_tbl := tw_tb1 (List.mem_of_getElem? (i := 43) rfl)
theorem kw_44 : (Jvm.Cond.laysFinal "RaceByLaps$Reckoner" "RaceByLaps$Reckoner" "stack" "[I") ∈ lw_tbl := tw_tb1 (List.mem_of_getElem? (i := 44) rfl)
theorem kw_45 : (Jvm.Cond.soleField "RaceByLaps$Reckoner" "stack") ∈ lw_tbl := tw_tb1 (List.mem_of_getElem? (i := 45) rfl)
theorem kw_46 : (Jvm.Cond.superclass "RaceByLaps$Reckoner" "java/lang/Object") ∈ lw_tbl := tw_tb1 (List.mem_of_getElem? (i := 46) rfl)
theorem kw_47 : (Jvm.Cond.arrayClass Jvm.ClassFile.FieldType.int) ∈ lw_tbl := tw_tb1 (List.mem_of_getElem? (i := 47) rfl)
theorem kw_48 : (Jvm.Cond.classLink "RaceByLaps" (12 : Nat) "RaceByLaps$Track") ∈ lw_tbl := tw_tb1 (List.mem_of_getElem? (i := 48) rfl)
theorem kw_49 : (Jvm.Cond.instantiable "RaceByLaps$Track" (9 : Nat)) ∈ lw_tbl := tw_tb1 (List.mem_of_getElem? (i := 49) rfl)
theorem kw_50 : (Jvm.Cond.methodLink "RaceByLaps" (14 : Nat) ({ cls := "RaceByLaps$Track", name := "<init>", desc := "()V" } : Jvm.MethodName)) ∈ lw_tbl := tw_tb1 (List.mem_of_getElem? (i := 50) rfl)
theorem kw_51 : (Jvm.Cond.instanceMethod ({ cls := "RaceByLaps$Track", name := "<init>", desc := "()V" } : Jvm.MethodName)) ∈ lw_tbl := tw_tb1 (List.mem_of_getElem? (i := 51) rfl)
theorem kw_52 : (Jvm.Cond.code ({ cls := "RaceByLaps$Track", name := "<init>", desc := "()V" } : Jvm.MethodName) prog_11_method_1_code (3 : Nat) (Option.none : Option Jvm.ClassFile.FieldType)) ∈ lw_tbl := tw_tb1 (List.mem_of_getElem? (i := 52) rfl)
theorem kw_53 : (Jvm.Cond.methodLink "RaceByLaps$Track" (3 : Nat) ({ cls := "java/lang/Object", name := "<init>", desc := "()V" } : Jvm.MethodName)) ∈ lw_tbl := tw_tb1 (List.mem_of_getElem? (i := 53) rfl)
theorem kw_54 : (Jvm.Cond.classLink "RaceByLaps$Track" (28 : Nat) "RaceByLaps$Table") ∈ lw_tbl := tw_tb1 (List.mem_of_getElem? (i := 54) rfl)
theorem kw_55 : (Jvm.Cond.instantiable "RaceByLaps$Table" (4 : Nat)) ∈ lw_tbl := tw_tb1 (List.mem_of_getElem? (i := 55) rfl)
theorem kw_56 : (Jvm.Cond.methodLink "RaceByLaps$Track" (30 : Nat) ({ cls := "RaceByLaps$Table", name := "<init>", desc := "(II)V" } : Jvm.MethodName)) ∈ lw_tbl := tw_tb1 (List.mem_of_getElem? (i := 56) rfl)
theorem kw_57 : (Jvm.Cond.instanceMethod ({ cls := "RaceByLaps$Table", name := "<init>", desc := "(II)V" } : Jvm.MethodName)) ∈ lw_tbl := tw_tb1 (List.mem_of_getElem? (i := 57) rfl)
theorem kw_58 : (Jvm.Cond.code ({ cls := "RaceByLaps$Table", name := "<init>", desc := "(II)V" } : Jvm.MethodName) prog_9_method_1_code (3 : Nat) (Option.none : Option Jvm.ClassFile.FieldType)) ∈ lw_tbl := tw_tb1 (List.mem_of_getElem? (i := 58) rfl)
theorem kw_59 : (Jvm.Cond.methodLink "RaceByLaps$Table" (3 : Nat) ({ cls := "java/lang/Object", name := "<init>", desc := "()V" } : Jvm.MethodName)) ∈ lw_tbl := tw_tb1 (List.mem_of_getElem? (i := 59) rfl)
theorem kw_60 : (Jvm.Cond.methodLink "RaceByLaps$Table" (18 : Nat) ({ cls := "java/lang/Math", name := "max", desc := "(II)I" } : Jvm.MethodName)) ∈ lw_tbl := tw_tb1 (List.mem_of_getElem? (i := 60) rfl)
theorem kw_61 : (Jvm.Cond.static ({ cls := "java/lang/Math", name := "max", desc := "(II)I" } : Jvm.MethodName)) ∈ lw_tbl := tw_tb1 (List.mem_of_getElem? (i := 61) rfl)
theorem kw_62 : (Jvm.Cond.code ({ cls := "java/lang/Math", name := "max", desc := "(II)I" } : Jvm.MethodName) prog_21_method_65_code (2 : Nat) (Option.some Jvm.ClassFile.FieldType.int)) ∈ lw_tbl := tw_tb1 (List.mem_of_getElem? (i := 62) rfl)
theorem kw_63 : (Jvm.Cond.fieldLink "RaceByLaps$Table" (9 : Nat) "RaceByLaps$Table" "limit" "I") ∈ lw_tbl := tw_tb1 (List.mem_of_getElem? (i := 63) rfl)
theorem kw_64 : (Jvm.Cond.fieldLink "RaceByLaps$Table" (15 : Nat) "RaceByLaps$Table" "width" "I") ∈ lw_tbl := tw_tb1 (List.mem_of_getElem? (i := 64) rfl)
theorem kw_65 : (Jvm.Cond.fieldLink "RaceByLaps$Table" (24 : Nat) "RaceByLaps$Table" "cells" "[I") ∈ lw_tbl := tw_tb1 (List.mem_of_getElem? (i := 65) rfl)
theorem kw_66 : (Jvm.Cond.fieldLink "RaceByLaps$Table" (28 : Nat) "RaceByLaps$Table" "size" "I") ∈ lw_tbl := tw_tb1 (List.mem_of_getElem? (i := 66) rfl)
theorem kw_67 : (Jvm.Cond.fieldLink "RaceByLaps$Car" (39 : Nat) "RaceByLaps$Table" "size" "I") ∈ lw_tbl := tw_tb1 (List.mem_of_getElem? (i := 67) rfl)
theorem kw_68 : (Jvm.Cond.fieldLink "RaceByLaps$Runner" (43 : Nat) "RaceByLaps$Table" "size" "I") ∈ lw_tbl := tw_tb1 (List.mem_of_getElem? (i := 68) rfl)
theorem kw_69 : (Jvm.Cond.fieldLink "RaceByLaps$Track" (56 : Nat) "RaceByLaps$Table" "size" "I") ∈ lw_tbl := tw_tb1 (List.mem_of_getElem? (i := 69) rfl)
theorem kw_70 : (Jvm.Cond.fieldLink "RaceByLaps$Tries" (71 : Nat) "RaceByLaps$Table" "size" "I") ∈ lw_tbl := tw_tb1 (List.mem_of_getElem? (i := 70) rfl)
theorem kw_71 : (Jvm.Cond.fieldLink "RaceByLaps" (95 : Nat) "RaceByLaps$Table" "size" "I") ∈ lw_tbl := tw_tb1 (List.mem_of_getElem? (i := 71) rfl)
theorem kw_72 : (Jvm.Cond.fieldLink "RaceByLaps$Book" (43 : Nat) "RaceByLaps$Table" "size" "I") ∈ lw_tbl := tw_tb1 (List.mem_of_getElem? (i := 72) rfl)
theorem kw_73 : (Jvm.Cond.fieldLink "RaceByLaps$Race" (49 : Nat) "RaceByLaps$Table" "size" "I") ∈ lw_tbl := tw_tb1 (List.mem_of_getElem? (i := 73) rfl)
theorem kw_74 : (Jvm.Cond.laysFinal "RaceByLaps$Table" "RaceByLaps$Table" "limit" "I") ∈ lw_tbl := tw_tb1 (List.mem_of_getElem? (i := 74) rfl)
theorem kw_75 : (Jvm.Cond.soleField "RaceByLaps$Table" "limit") ∈ lw_tbl := tw_tb1 (List.mem_of_getElem? (i := 75) rfl)
theorem kw_76 : (Jvm.Cond.laysFinal "RaceByLaps$Table" "RaceByLaps$Table" "width" "I") ∈ lw_tbl := tw_tb1 (List.mem_of_getElem? (i := 76) rfl)
theorem kw_77 : (Jvm.Cond.soleField "RaceByLaps$Table" "width") ∈ lw_tbl := tw_tb1 (List.mem_of_getElem? (i := 77) rfl)
theorem kw_78 : (Jvm.Cond.laysFinal "RaceByLaps$Table" "RaceByLaps$Table" "cells" "[I") ∈ lw_tbl := tw_tb1 (List.mem_of_getElem? (i := 78) rfl)
theorem kw_79 : (Jvm.Cond.soleField "RaceByLaps$Table" "cells") ∈ lw_tbl := tw_tb1 (List.mem_of_getElem? (i := 79) rfl)
theorem kw_80 : (Jvm.Cond.lays "RaceByLaps$Table" "RaceByLaps$Table" "size" "I") ∈ lw_tbl := tw_tb1 (List.mem_of_getElem? (i := 80) rfl)
theorem kw_81 : (Jvm.Cond.soleField "RaceByLaps$Table" "size") ∈ lw_tbl := tw_tb1 (List.mem_of_getElem? (i := 81) rfl)
theorem kw_82 : (Jvm.Cond.superclass "RaceByLaps$Table" "java/lang/Object") ∈ lw_tbl := tw_tb1 (List.mem_of_getElem? (i := 82) rfl)
theorem kw_83 : (Jvm.Cond.arrayClass Jvm.ClassFile.FieldType.boolean) ∈ lw_tbl := tw_tb1 (List.mem_of_getElem? (i := 83) rfl)
theorem kw_84 : (Jvm.Cond.fieldLinkNest "RaceByLaps$Track" (40 : Nat) "RaceByLaps" "TYRES_AT_FIRST" "[I" "RaceByLaps") ∈ lw_tbl := tw_tb1 (List.mem_of_getElem? (i := 84) rfl)
theorem kw_85 : (Jvm.Cond.laysStatic "RaceByLaps" "TYRES_AT_FIRST" "[I") ∈ lw_tbl := tw_tb1 (List.mem_of_getElem? (i := 85) rfl)
theorem kw_86 : (Jvm.Cond.fieldLinkNest "RaceByLaps$Track" (43 : Nat) "RaceByLaps" "NUMBERS_AT_FIRST" "[I" "RaceByLaps") ∈ lw_tbl := tw_tb1 (List.mem_of_getElem? (i := 86) rfl)
theorem kw_87 : (Jvm.Cond.laysStatic "RaceByLaps" "NUMBERS_AT_FIRST" "[I") ∈ lw_tbl := tw_tb1 (List.mem_of_getElem? (i := 87) rfl)
theorem kw_88 : (Jvm.Cond.methodLink "RaceByLaps$Track" (46 : Nat) ({ cls := "RaceByLaps$Track", name := "layAnew", desc := "(II)V" } : Jvm.MethodName)) ∈ lw_tbl := tw_tb1 (List.mem_of_getElem? (i := 88) rfl)
theorem kw_89 : (Jvm.Cond.instanceMethod ({ cls := "RaceByLaps$Track", name := "layAnew", desc := "(II)V" } : Jvm.MethodName)) ∈ lw_tbl := tw_tb1 (List.mem_of_getElem? (i := 89) rfl)
theorem kw_90 : (Jvm.Cond.selects "RaceByLaps$Track" ({ cls := "RaceByLaps$Track", name := "layAnew", desc := "(II)V" } : Jvm.MethodName) ({ cls := "RaceByLaps$Track", name := "layAnew", desc := "(II)V" } : Jvm.MethodName)) ∈ lw_tbl := tw_tb1 (List.mem_of_getElem? (i := 90) rfl)
theorem kw_91 : (Jvm.Cond.code ({ cls := "RaceByLaps$Track", name := "layAnew", desc := "(II)V" } : Jvm.MethodName) prog_11_method_2_code (4 : Nat) (Option.none : Option Jvm.ClassFile.FieldType)) ∈ lw_tbl := tw_tb1 (List.mem_of_getElem? (i := 91) rfl)
theorem kw_92 : (Jvm.Cond.fieldLink "RaceByLaps$Track" (49 : Nat) "RaceByLaps$Track" "sectors" "I") ∈ lw_tbl := tw_tb1 (List.mem_of_getElem? (i := 92) rfl)
theorem kw_93 : (Jvm.Cond.fieldLink "RaceByLaps$Race" (159 : Nat) "RaceByLaps$Track" "sectors" "I") ∈ lw_tbl := tw_tb1 (List.mem_of_getElem? (i := 93) rfl)
theorem kw_94 : (Jvm.Cond.fieldLink "RaceByLaps" (212 : Nat) "RaceByLaps$Track" "sectors" "I") ∈ lw_tbl := tw_tb1 (List.mem_of_getElem? (i := 94) rfl)
theorem kw_95 : (Jvm.Cond.fieldLink "RaceByLaps$Track" (53 : Nat) "RaceByLaps$Track" "laps" "I") ∈ lw_tbl := tw_tb1 (List.mem_of_getElem? (i := 95) rfl)
theorem kw_96 : (Jvm.Cond.fieldLink "RaceByLaps$Tries" (59 : Nat) "RaceByLaps$Track" "laps" "I") ∈ lw_tbl := tw_tb1 (List.mem_of_getElem? (i := 96) rfl)
theorem kw_97 : (Jvm.Cond.fieldLink "RaceByLaps" (185 : Nat) "RaceByLaps$Track" "laps" "I") ∈ lw_tbl := tw_tb1 (List.mem_of_getElem? (i := 97) rfl)
theorem kw_98 : (Jvm.Cond.fieldLink "RaceByLaps$Race" (227 : Nat) "RaceByLaps$Track" "laps" "I") ∈ lw_tbl := tw_tb1 (List.mem_of_getElem? (i := 98) rfl)
theorem kw_99 : (Jvm.Cond.fieldLink "RaceByLaps$Track" (9 : Nat) "RaceByLaps$Track" "lengths" "[I") ∈ lw_tbl := tw_tb1 (List.mem_of_getElem? (i := 99) rfl)
theorem kw_100 : (Jvm.Cond.fieldLink "RaceByLaps" (109 : Nat) "RaceByLaps$Track" "lengths" "[I") ∈ lw_tbl := tw_tb1 (List.mem_of_getElem? (i := 100) rfl)
theorem kw_101 : (Jvm.Cond.fieldLink "RaceByLaps$Race" (175 : Nat) "RaceByLaps$Track" "lengths" "[I") ∈ lw_tbl := tw_tb1 (List.mem_of_getElem? (i := 101) rfl)
theorem kw_102 : (Jvm.Cond.fieldLink "RaceByLaps$Track" (15 : Nat) "RaceByLaps$Track" "eases" "[I") ∈ lw_tbl := tw_tb1 (List.mem_of_getElem? (i := 102) rfl)
theorem kw_103 : (Jvm.Cond.fieldLink "RaceByLaps" (112 : Nat) "RaceByLaps$Track" "eases" "[I") ∈ lw_tbl := tw_tb1 (List.mem_of_getElem? (i := 103) rfl)
theorem kw_104 : (Jvm.Cond.fieldLink "RaceByLaps$Race" (215 : Nat) "RaceByLaps$Track" "eases" "[I") ∈ lw_tbl := tw_tb1 (List.mem_of_getElem? (i := 104) rfl)
theorem kw_105 : (Jvm.Cond.fieldLink "RaceByLaps$Track" (18 : Nat) "RaceByLaps$Track" "lostLines" "[Z") ∈ lw_tbl := tw_tb1 (List.mem_of_getElem? (i := 105) rfl)
theorem kw_106 : (Jvm.Cond.fieldLink "RaceByLaps" (320 : Nat) "RaceByLaps$Track" "lostLines" "[Z") ∈ lw_tbl := tw_tb1 (List.mem_of_getElem? (i := 106) rfl)
theorem kw_107 : (Jvm.Cond.fieldLink "RaceByLaps$Track" (22 : Nat) "RaceByLaps$Track" "tyreNumbers" "[I") ∈ lw_tbl := tw_tb1 (List.mem_of_getElem? (i := 107) rfl)
theorem kw_108 : (Jvm.Cond.fieldLink "RaceByLaps" (126 : Nat) "RaceByLaps$Track" "tyreNumbers" "[I") ∈ lw_tbl := tw_tb1 (List.mem_of_getElem? (i := 108) rfl)
theorem kw_109 : (Jvm.Cond.fieldLink "RaceByLaps$Track" (25 : Nat) "RaceByLaps$Track" "numbers" "[I") ∈ lw_tbl := tw_tb1 (List.mem_of_getElem? (i := 109) rfl)
theorem kw_110 : (Jvm.Cond.fieldLink "RaceByLaps" (135 : Nat) "RaceByLaps$Track" "numbers" "[I") ∈ lw_tbl := tw_tb1 (List.mem_of_getElem? (i := 110) rfl)
theorem kw_111 : (Jvm.Cond.fieldLink "RaceByLaps$Race" (70 : Nat) "RaceByLaps$Track" "numbers" "[I") ∈ lw_tbl := tw_tb1 (List.mem_of_getElem? (i := 111) rfl)
theorem kw_112 : (Jvm.Cond.fieldLink "RaceByLaps$Track" (33 : Nat) "RaceByLaps$Track" "rains" "LRaceByLaps$Table;") ∈ lw_tbl := tw_tb1 (List.mem_of_getElem? (i := 112) rfl)
theorem kw_113 : (Jvm.Cond.fieldLink "RaceByLaps" (138 : Nat) "RaceByLaps$Track" "rains" "LRaceByLaps$Table;") ∈ lw_tbl := tw_tb1 (List.mem_of_getElem? (i := 113) rfl)
theorem kw_114 : (Jvm.Cond.fieldLink "RaceByLaps$Track" (37 : Nat) "RaceByLaps$Track" "flags" "LRaceByLaps$Table;") ∈ lw_tbl := tw_tb1 (List.mem_of_getElem? (i := 114) rfl)
theorem kw_115 : (Jvm.Cond.fieldLink "RaceByLaps" (145 : Nat) "RaceByLaps$Track" "flags" "LRaceByLaps$Table;") ∈ lw_tbl := tw_tb1 (List.mem_of_getElem? (i := 115) rfl)
theorem kw_116 : (Jvm.Cond.lays "RaceByLaps$Track" "RaceByLaps$Track" "sectors" "I") ∈ lw_tbl := tw_tb1 (List.mem_of_getElem? (i := 116) rfl)
theorem kw_117 : (Jvm.Cond.soleField "RaceByLaps$Track" "sectors") ∈ lw_tbl := tw_tb1 (List.mem_of_getElem? (i := 117) rfl)
theorem kw_118 : (Jvm.Cond.lays "RaceByLaps$Track" "RaceByLaps$Track" "laps" "I") ∈ lw_tbl := tw_tb1 (List.mem_of_getElem? (i := 118) rfl)
theorem kw_119 : (Jvm.Cond.soleField "RaceByLaps$Track" "laps") ∈ lw_tbl := tw_tb1 (List.mem_of_getElem? (i := 119) rfl)
theorem kw_120 : (Jvm.Cond.laysFinal "RaceByLaps$Track" "RaceByLaps$Track" "lengths" "[I") ∈ lw_tbl := tw_tb1 (List.mem_of_getElem? (i := 120) rfl)
theorem kw_121 : (Jvm.Cond.soleField "RaceByLaps$Track" "lengths") ∈ lw_tbl := tw_tb1 (List.mem_of_getElem? (i := 121) rfl)
theorem kw_122 : (Jvm.Cond.laysFinal "RaceByLaps$Track" "RaceByLaps$Track" "eases" "[I") ∈ lw_tbl := tw_tb1 (List.mem_of_getElem? (i := 122) rfl)
theorem kw_123 : (Jvm.Cond.soleField "RaceByLaps$Track" "eases") ∈ lw_tbl := tw_tb1 (List.mem_of_getElem? (i := 123) rfl)
theorem kw_124 : (Jvm.Cond.laysFinal "RaceByLaps$Track" "RaceByLaps$Track" "lostLines" "[Z") ∈ lw_tbl := tw_tb1 (List.mem_of_getElem? (i := 124) rfl)
theorem kw_125 : (Jvm.Cond.soleField "RaceByLaps$Track" "lostLines") ∈ lw_tbl := tw_tb1 (List.mem_of_getElem? (i := 125) rfl)
theorem kw_126 : (Jvm.Cond.laysFinal "RaceByLaps$Track" "RaceByLaps$Track" "tyreNumbers" "[I") ∈ lw_tbl := tw_tb1 (List.mem_of_getElem? (i := 126) rfl)
theorem kw_127 : (Jvm.Cond.soleField "RaceByLaps$Track" "tyreNumbers") ∈ lw_tbl := tw_tb1 (List.mem_of_getElem? (i := 127) rfl)
theorem kw_128 : (Jvm.Cond.laysFinal "RaceByLaps$Track" "RaceByLaps$Track" "numbers" "[I") ∈ lw_tbl := tw_tb1 (List.mem_of_getElem? (i := 128) rfl)
theorem kw_129 : (Jvm.Cond.soleField "RaceByLaps$Track" "numbers") ∈ lw_tbl := tw_tb1 (List.mem_of_getElem? (i := 129) rfl)
theorem kw_130 : (Jvm.Cond.laysFinal "RaceByLaps$Track" "RaceByLaps$Track" "rains" "LRaceByLaps$Table;") ∈ lw_tbl := tw_tb1 (List.mem_of_getElem? (i := 130) rfl)
theorem kw_131 : (Jvm.Cond.soleField "RaceByLaps$Track" "rains") ∈ lw_tbl := tw_tb1 (List.mem_of_getElem? (i := 131) rfl)
theorem kw_132 : (Jvm.Cond.laysFinal "RaceByLaps$Track" "RaceByLaps$Track" "flags" "LRaceByLaps$Table;") ∈ lw_tbl := tw_tb1 (List.mem_of_getElem? (i := 132) rfl)
theorem kw_133 : (Jvm.Cond.soleField "RaceByLaps$Track" "flags") ∈ lw_tbl := tw_tb1 (List.mem_of_getElem? (i := 133) rfl)
theorem kw_134 : (Jvm.Cond.superclass "RaceByLaps$Track" "java/lang/Object") ∈ lw_tbl := tw_tb1 (List.mem_of_getElem? (i := 134) rfl)
theorem kw_135 : (Jvm.Cond.classLink "RaceByLaps" (19 : Nat) "RaceByLaps$Race") ∈ lw_tbl := tw_tb1 (List.mem_of_getElem? (i := 135) rfl)
theorem kw_136 : (Jvm.Cond.instantiable "RaceByLaps$Race" (8 : Nat)) ∈ lw_tbl := tw_tb1 (List.mem_of_getElem? (i := 136) rfl)
theorem kw_137 : (Jvm.Cond.methodLink "RaceByLaps" (21 : Nat) ({ cls := "RaceByLaps$Race", name := "<init>", desc := "(LRaceByLaps$Track;LRaceByLaps$Reckoner;)V" } : Jvm.MethodName)) ∈ lw_tbl := tw_tb1 (List.mem_of_getElem? (i := 137) rfl)
theorem kw_138 : (Jvm.Cond.instanceMethod ({ cls := "RaceByLaps$Race", name := "<init>", desc := "(LRaceByLaps$Track;LRaceByLaps$Reckoner;)V" } : Jvm.MethodName)) ∈ lw_tbl := tw_tb1 (List.mem_of_getElem? (i := 138) rfl)
theorem kw_139 : (Jvm.Cond.code ({ cls := "RaceByLaps$Race", name := "<init>", desc := "(LRaceByLaps$Track;LRaceByLaps$Reckoner;)V" } : Jvm.MethodName) prog_4_method_1_code (4 : Nat) (Option.none : Option Jvm.ClassFile.FieldType)) ∈ lw_tbl := tw_tb1 (List.mem_of_getElem? (i := 139) rfl)
theorem kw_140 : (Jvm.Cond.methodLink "RaceByLaps$Race" (3 : Nat) ({ cls := "java/lang/Object", name := "<init>", desc := "()V" } : Jvm.MethodName)) ∈ lw_tbl := tw_tb1 (List.mem_of_getElem? (i := 140) rfl)
theorem kw_141 : (Jvm.Cond.classLink "RaceByLaps$Race" (19 : Nat) "RaceByLaps$Car") ∈ lw_tbl := tw_tb1 (List.mem_of_getElem? (i := 141) rfl)
theorem kw_142 : (Jvm.Cond.arrayOver (Jvm.ClassFile.FieldType.object "RaceByLaps$Car")) ∈ lw_tbl := tw_tb1 (List.mem_of_getElem? (i := 142) rfl)
theorem kw_143 : (Jvm.Cond.classLink "RaceByLaps$Race" (25 : Nat) "RaceByLaps$Runner") ∈ lw_tbl := tw_tb1 (List.mem_of_getElem? (i := 143) rfl)
theorem kw_144 : (Jvm.Cond.arrayOver (Jvm.ClassFile.FieldType.object "RaceByLaps$Runner")) ∈ lw_tbl := tw_tb1 (List.mem_of_getElem? (i := 144) rfl)
theorem kw_145 : (Jvm.Cond.instantiable "RaceByLaps$Car" (14 : Nat)) ∈ lw_tbl := tw_tb1 (List.mem_of_getElem? (i := 145) rfl)
theorem kw_146 : (Jvm.Cond.methodLink "RaceByLaps$Race" (35 : Nat) ({ cls := "RaceByLaps$Car", name := "<init>", desc := "()V" } : Jvm.MethodName)) ∈ lw_tbl := tw_tb1 (List.mem_of_getElem? (i := 146) rfl)
theorem kw_147 : (Jvm.Cond.instanceMethod ({ cls := "RaceByLaps$Car", name := "<init>", desc := "()V" } : Jvm.MethodName)) ∈ lw_tbl := tw_tb1 (List.mem_of_getElem? (i := 147) rfl)
theorem kw_148 : (Jvm.Cond.code ({ cls := "RaceByLaps$Car", name := "<init>", desc := "()V" } : Jvm.MethodName) prog_3_method_1_code (1 : Nat) (Option.none : Option Jvm.ClassFile.FieldType)) ∈ lw_tbl := tw_tb1 (List.mem_of_getElem? (i := 148) rfl)
theorem kw_149 : (Jvm.Cond.methodLink "RaceByLaps$Car" (3 : Nat) ({ cls := "java/lang/Object", name := "<init>", desc := "()V" } : Jvm.MethodName)) ∈ lw_tbl := tw_tb1 (List.mem_of_getElem? (i := 149) rfl)
theorem kw_150 : (Jvm.Cond.classLink "RaceByLaps$Car" (9 : Nat) "RaceByLaps$Table") ∈ lw_tbl := tw_tb1 (List.mem_of_getElem? (i := 150) rfl)
theorem kw_151 : (Jvm.Cond.methodLink "RaceByLaps$Car" (11 : Nat) ({ cls := "RaceByLaps$Table", name := "<init>", desc := "(II)V" } : Jvm.MethodName)) ∈ lw_tbl := tw_tb1 (List.mem_of_getElem? (i := 151) rfl)
theorem kw_152 : (Jvm.Cond.classLink "RaceByLaps$Car" (32 : Nat) "RaceByLaps$Text") ∈ lw_tbl := tw_tb1 (List.mem_of_getElem? (i := 152) rfl)
theorem kw_153 : (Jvm.Cond.instantiable "RaceByLaps$Text" (8 : Nat)) ∈ lw_tbl := tw_tb1 (List.mem_of_getElem? (i := 153) rfl)
theorem kw_154 : (Jvm.Cond.methodLink "RaceByLaps$Car" (34 : Nat) ({ cls := "RaceByLaps$Text", name := "<init>", desc := "()V" } : Jvm.MethodName)) ∈ lw_tbl := tw_tb1 (List.mem_of_getElem? (i := 154) rfl)
theorem kw_155 : (Jvm.Cond.instanceMethod ({ cls := "RaceByLaps$Text", name := "<init>", desc := "()V" } : Jvm.MethodName)) ∈ lw_tbl := tw_tb1 (List.mem_of_getElem? (i := 155) rfl)
theorem kw_156 : (Jvm.Cond.code ({ cls := "RaceByLaps$Text", name := "<init>", desc := "()V" } : Jvm.MethodName) prog_10_method_1_code (1 : Nat) (Option.none : Option Jvm.ClassFile.FieldType)) ∈ lw_tbl := tw_tb1 (List.mem_of_getElem? (i := 156) rfl)
theorem kw_157 : (Jvm.Cond.methodLink "RaceByLaps$Text" (3 : Nat) ({ cls := "java/lang/Object", name := "<init>", desc := "()V" } : Jvm.MethodName)) ∈ lw_tbl := tw_tb1 (List.mem_of_getElem? (i := 157) rfl)
theorem kw_158 : (Jvm.Cond.fieldLink "RaceByLaps$Text" (9 : Nat) "RaceByLaps$Text" "code" "[I") ∈ lw_tbl := tw_tb1 (List.mem_of_getElem? (i := 158) rfl)
theorem kw_159 : (Jvm.Cond.fieldLink "RaceByLaps$Reckoner" (41 : Nat) "RaceByLaps$Text" "code" "[I") ∈ lw_tbl := tw_tb1 (List.mem_of_getElem? (i := 159) rfl)
theorem kw_160 : (Jvm.Cond.fieldLink "RaceByLaps$Text" (27 : Nat) "RaceByLaps$Text" "codeLength" "I") ∈ lw_tbl := tw_tb1 (List.mem_of_getElem? (i := 160) rfl)
theorem kw_161 : (Jvm.Cond.fieldLink "RaceByLaps$Text" (15 : Nat) "RaceByLaps$Text" "conditionEnd" "[I") ∈ lw_tbl := tw_tb1 (List.mem_of_getElem? (i := 161) rfl)
theorem kw_162 : (Jvm.Cond.fieldLink "RaceByLaps$Reckoner" (32 : Nat) "RaceByLaps$Text" "conditionEnd" "[I") ∈ lw_tbl := tw_tb1 (List.mem_of_getElem? (i := 162) rfl)
theorem kw_163 : (Jvm.Cond.fieldLink "RaceByLaps$Text" (18 : Nat) "RaceByLaps$Text" "mode" "[I") ∈ lw_tbl := tw_tb1 (List.mem_of_getElem? (i := 163) rfl)
theorem kw_164 : (Jvm.Cond.fieldLink "RaceByLaps$Race" (290 : Nat) "RaceByLaps$Text" "mode" "[I") ∈ lw_tbl := tw_tb1 (List.mem_of_getElem? (i := 164) rfl)
theorem kw_165 : (Jvm.Cond.fieldLink "RaceByLaps$Text" (21 : Nat) "RaceByLaps$Text" "bold" "[I") ∈ lw_tbl := tw_tb1 (List.mem_of_getElem? (i := 165) rfl)
theorem kw_166 : (Jvm.Cond.fieldLink "RaceByLaps$Race" (294 : Nat) "RaceByLaps$Text" "bold" "[I") ∈ lw_tbl := tw_tb1 (List.mem_of_getElem? (i := 166) rfl)
theorem kw_167 : (Jvm.Cond.fieldLink "RaceByLaps$Text" (24 : Nat) "RaceByLaps$Text" "box" "[I") ∈ lw_tbl := tw_tb1 (List.mem_of_getElem? (i := 167) rfl)
theorem kw_168 : (Jvm.Cond.fieldLink "RaceByLaps$Race" (296 : Nat) "RaceByLaps$Text" "box" "[I") ∈ lw_tbl := tw_tb1 (List.mem_of_getElem? (i := 168) rfl)
theorem kw_169 : (Jvm.Cond.fieldLink "RaceByLaps$Text" (31 : Nat) "RaceByLaps$Text" "lines" "I") ∈ lw_tbl := tw_tb1 (List.mem_of_getElem? (i := 169) rfl)
theorem kw_170 : (Jvm.Cond.fieldLink "RaceByLaps$Reckoner" (22 : Nat) "RaceByLaps$Text" "lines" "I") ∈ lw_tbl := tw_tb1 (List.mem_of_getElem? (i := 170) rfl)
theorem kw_171 : (Jvm.Cond.fieldLink "RaceByLaps$Text" (34 : Nat) "RaceByLaps$Text" "seconds" "I") ∈ lw_tbl := tw_tb1 (List.mem_of_getElem? (i := 171) rfl)
theorem kw_172 : (Jvm.Cond.fieldLink "RaceByLaps$Book" (95 : Nat) "RaceByLaps$Text" "seconds" "I") ∈ lw_tbl := tw_tb1 (List.mem_of_getElem? (i := 172) rfl)
theorem kw_173 : (Jvm.Cond.fieldLink "RaceByLaps$Reader" (116 : Nat) "RaceByLaps$Text" "seconds" "I") ∈ lw_tbl := tw_tb1 (List.mem_of_getElem? (i := 173) rfl)
theorem kw_174 : (Jvm.Cond.laysFinal "RaceByLaps$Text" "RaceByLaps$Text" "code" "[I") ∈ lw_tbl := tw_tb1 (List.mem_of_getElem? (i := 174) rfl)
theorem kw_175 : (Jvm.Cond.soleField "RaceByLaps$Text" "code") ∈ lw_tbl := tw_tb1 (List.mem_of_getElem? (i := 175) rfl)
theorem kw_176 : (Jvm.Cond.lays "RaceByLaps$Text" "RaceByLaps$Text" "codeLength" "I") ∈ lw_tbl := tw_tb1 (List.mem_of_getElem? (i := 176) rfl)
theorem kw_177 : (Jvm.Cond.soleField "RaceByLaps$Text" "codeLength") ∈ lw_tbl := tw_tb1 (List.mem_of_getElem? (i := 177) rfl)
theorem kw_178 : (Jvm.Cond.laysFinal "RaceByLaps$Text" "RaceByLaps$Text" "conditionEnd" "[I") ∈ lw_tbl := tw_tb1 (List.mem_of_getElem? (i := 178) rfl)
theorem kw_179 : (Jvm.Cond.soleField "RaceByLaps$Text" "conditionEnd") ∈ lw_tbl := tw_tb1 (List.mem_of_getElem? (i := 179) rfl)
theorem kw_180 : (Jvm.Cond.laysFinal "RaceByLaps$Text" "RaceByLaps$Text" "mode" "[I") ∈ lw_tbl := tw_tb1 (List.mem_of_getElem? (i := 180) rfl)
theorem kw_181 : (Jvm.Cond.soleField "RaceByLaps$Text" "mode") ∈ lw_tbl := tw_tb1 (List.mem_of_getElem? (i := 181) rfl)
theorem kw_182 : (Jvm.Cond.laysFinal "RaceByLaps$Text" "RaceByLaps$Text" "bold" "[I") ∈ lw_tbl := tw_tb1 (List.mem_of_getElem? (i := 182) rfl)
theorem kw_183 : (Jvm.Cond.soleField "RaceByLaps$Text" "bold") ∈ lw_tbl := tw_tb1 (List.mem_of_getElem? (i := 183) rfl)
theorem kw_184 : (Jvm.Cond.laysFinal "RaceByLaps$Text" "RaceByLaps$Text" "box" "[I") ∈ lw_tbl := tw_tb1 (List.mem_of_getElem? (i := 184) rfl)
theorem kw_185 : (Jvm.Cond.soleField "RaceByLaps$Text" "box") ∈ lw_tbl := tw_tb1 (List.mem_of_getElem? (i := 185) rfl)
theorem kw_186 : (Jvm.Cond.lays "RaceByLaps$Text" "RaceByLaps$Text" "lines" "I") ∈ lw_tbl := tw_tb1 (List.mem_of_getElem? (i := 186) rfl)
theorem kw_187 : (Jvm.Cond.soleField "RaceByLaps$Text" "lines") ∈ lw_tbl := tw_tb1 (List.mem_of_getElem? (i := 187) rfl)
theorem kw_188 : (Jvm.Cond.lays "RaceByLaps$Text" "RaceByLaps$Text" "seconds" "I") ∈ lw_tbl := tw_tb1 (List.mem_of_getElem? (i := 188) rfl)
theorem kw_189 : (Jvm.Cond.soleField "RaceByLaps$Text" "seconds") ∈ lw_tbl := tw_tb1 (List.mem_of_getElem? (i := 189) rfl)
theorem kw_190 : (Jvm.Cond.superclass "RaceByLaps$Text" "java/lang/Object") ∈ lw_tbl := tw_tb1 (List.mem_of_getElem? (i := 190) rfl)
theorem kw_191 : (Jvm.Cond.fieldLink "RaceByLaps" (157 : Nat) "RaceByLaps$Car" "off" "I") ∈ lw_tbl := tw_tb1 (List.mem_of_getElem? (i := 191) rfl)
theorem kw_192 : (Jvm.Cond.fieldLink "RaceByLaps$Race" (192 : Nat) "RaceByLaps$Car" "off" "I") ∈ lw_tbl := tw_tb1 (List.mem_of_getElem? (i := 192) rfl)
theorem kw_193 : (Jvm.Cond.fieldLink "RaceByLaps" (160 : Nat) "RaceByLaps$Car" "tank" "I") ∈ lw_tbl := tw_tb1 (List.mem_of_getElem? (i := 193) rfl)
theorem kw_194 : (Jvm.Cond.fieldLink "RaceByLaps$Race" (299 : Nat) "RaceByLaps$Car" "tank" "I") ∈ lw_tbl := tw_tb1 (List.mem_of_getElem? (i := 194) rfl)
theorem kw_195 : (Jvm.Cond.fieldLink "RaceByLaps$Race" (125 : Nat) "RaceByLaps$Car" "burn" "I") ∈ lw_tbl := tw_tb1 (List.mem_of_getElem? (i := 195) rfl)
theorem kw_196 : (Jvm.Cond.fieldLink "RaceByLaps" (163 : Nat) "RaceByLaps$Car" "burn" "I") ∈ lw_tbl := tw_tb1 (List.mem_of_getElem? (i := 196) rfl)
theorem kw_197 : (Jvm.Cond.fieldLink "RaceByLaps$Book" (88 : Nat) "RaceByLaps$Car" "team" "I") ∈ lw_tbl := tw_tb1 (List.mem_of_getElem? (i := 197) rfl)
theorem kw_198 : (Jvm.Cond.fieldLink "RaceByLaps" (166 : Nat) "RaceByLaps$Car" "team" "I") ∈ lw_tbl := tw_tb1 (List.mem_of_getElem? (i := 198) rfl)
theorem kw_199 : (Jvm.Cond.fieldLink "RaceByLaps$Race" (281 : Nat) "RaceByLaps$Car" "team" "I") ∈ lw_tbl := tw_tb1 (List.mem_of_getElem? (i := 199) rfl)
theorem kw_200 : (Jvm.Cond.fieldLink "RaceByLaps$Result" (73 : Nat) "RaceByLaps$Car" "clas" "I") ∈ lw_tbl := tw_tb1 (List.mem_of_getElem? (i := 200) rfl)
theorem kw_201 : (Jvm.Cond.fieldLink "RaceByLaps$Book" (77 : Nat) "RaceByLaps$Car" "clas" "I") ∈ lw_tbl := tw_tb1 (List.mem_of_getElem? (i := 201) rfl)
theorem kw_202 : (Jvm.Cond.fieldLink "RaceByLaps" (169 : Nat) "RaceByLaps$Car" "clas" "I") ∈ lw_tbl := tw_tb1 (List.mem_of_getElem? (i := 202) rfl)
theorem kw_203 : (Jvm.Cond.fieldLink "RaceByLaps$Runner" (63 : Nat) "RaceByLaps$Car" "fuel" "I") ∈ lw_tbl := tw_tb1 (List.mem_of_getElem? (i := 203) rfl)
theorem kw_204 : (Jvm.Cond.fieldLink "RaceByLaps" (172 : Nat) "RaceByLaps$Car" "fuel" "I") ∈ lw_tbl := tw_tb1 (List.mem_of_getElem? (i := 204) rfl)
theorem kw_205 : (Jvm.Cond.fieldLink "RaceByLaps$Car" (14 : Nat) "RaceByLaps$Car" "sets" "LRaceByLaps$Table;") ∈ lw_tbl := tw_tb1 (List.mem_of_getElem? (i := 205) rfl)
theorem kw_206 : (Jvm.Cond.fieldLink "RaceByLaps$Runner" (37 : Nat) "RaceByLaps$Car" "sets" "LRaceByLaps$Table;") ∈ lw_tbl := tw_tb1 (List.mem_of_getElem? (i := 206) rfl)
theorem kw_207 : (Jvm.Cond.fieldLink "RaceByLaps$Tries" (65 : Nat) "RaceByLaps$Car" "sets" "LRaceByLaps$Table;") ∈ lw_tbl := tw_tb1 (List.mem_of_getElem? (i := 207) rfl)
theorem kw_208 : (Jvm.Cond.fieldLink "RaceByLaps$Race" (115 : Nat) "RaceByLaps$Car" "sets" "LRaceByLaps$Table;") ∈ lw_tbl := tw_tb1 (List.mem_of_getElem? (i := 208) rfl)
theorem kw_209 : (Jvm.Cond.fieldLink "RaceByLaps" (178 : Nat) "RaceByLaps$Car" "sets" "LRaceByLaps$Table;") ∈ lw_tbl := tw_tb1 (List.mem_of_getElem? (i := 209) rfl)
theorem kw_210 : (Jvm.Cond.fieldLink "RaceByLaps$Car" (20 : Nat) "RaceByLaps$Car" "orders" "LRaceByLaps$Table;") ∈ lw_tbl := tw_tb1 (List.mem_of_getElem? (i := 210) rfl)
theorem kw_211 : (Jvm.Cond.fieldLink "RaceByLaps$Race" (169 : Nat) "RaceByLaps$Car" "orders" "LRaceByLaps$Table;") ∈ lw_tbl := tw_tb1 (List.mem_of_getElem? (i := 211) rfl)
theorem kw_212 : (Jvm.Cond.fieldLink "RaceByLaps" (188 : Nat) "RaceByLaps$Car" "orders" "LRaceByLaps$Table;") ∈ lw_tbl := tw_tb1 (List.mem_of_getElem? (i := 212) rfl)
theorem kw_213 : (Jvm.Cond.fieldLink "RaceByLaps$Car" (23 : Nat) "RaceByLaps$Car" "stops" "LRaceByLaps$Table;") ∈ lw_tbl := tw_tb1 (List.mem_of_getElem? (i := 213) rfl)
theorem kw_214 : (Jvm.Cond.fieldLink "RaceByLaps" (191 : Nat) "RaceByLaps$Car" "stops" "LRaceByLaps$Table;") ∈ lw_tbl := tw_tb1 (List.mem_of_getElem? (i := 214) rfl)
theorem kw_215 : (Jvm.Cond.fieldLink "RaceByLaps$Car" (26 : Nat) "RaceByLaps$Car" "options" "LRaceByLaps$Table;") ∈ lw_tbl := tw_tb1 (List.mem_of_getElem? (i := 215) rfl)
theorem kw_216 : (Jvm.Cond.fieldLink "RaceByLaps$Race" (45 : Nat) "RaceByLaps$Car" "options" "LRaceByLaps$Table;") ∈ lw_tbl := tw_tb1 (List.mem_of_getElem? (i := 216) rfl)
theorem kw_217 : (Jvm.Cond.fieldLink "RaceByLaps$Tries" (128 : Nat) "RaceByLaps$Car" "options" "LRaceByLaps$Table;") ∈ lw_tbl := tw_tb1 (List.mem_of_getElem? (i := 217) rfl)
theorem kw_218 : (Jvm.Cond.fieldLink "RaceByLaps" (313 : Nat) "RaceByLaps$Car" "options" "LRaceByLaps$Table;") ∈ lw_tbl := tw_tb1 (List.mem_of_getElem? (i := 218) rfl)
theorem kw_219 : (Jvm.Cond.fieldLink "RaceByLaps$Car" (29 : Nat) "RaceByLaps$Car" "triedStops" "LRaceByLaps$Table;") ∈ lw_tbl := tw_tb1 (List.mem_of_getElem? (i := 219) rfl)
theorem kw_220 : (Jvm.Cond.fieldLink "RaceByLaps$Tries" (121 : Nat) "RaceByLaps$Car" "triedStops" "LRaceByLaps$Table;") ∈ lw_tbl := tw_tb1 (List.mem_of_getElem? (i := 220) rfl)
theorem kw_221 : (Jvm.Cond.fieldLink "RaceByLaps$Car" (35 : Nat) "RaceByLaps$Car" "plan" "LRaceByLaps$Text;") ∈ lw_tbl := tw_tb1 (List.mem_of_getElem? (i := 221) rfl)
theorem kw_222 : (Jvm.Cond.fieldLink "RaceByLaps" (206 : Nat) "RaceByLaps$Car" "plan" "LRaceByLaps$Text;") ∈ lw_tbl := tw_tb1 (List.mem_of_getElem? (i := 222) rfl)
theorem kw_223 : (Jvm.Cond.fieldLink "RaceByLaps$Race" (240 : Nat) "RaceByLaps$Car" "plan" "LRaceByLaps$Text;") ∈ lw_tbl := tw_tb1 (List.mem_of_getElem? (i := 223) rfl)
theorem kw_224 : (Jvm.Cond.fieldLink "RaceByLaps$Car" (43 : Nat) "RaceByLaps$Car" "hasPlan" "Z") ∈ lw_tbl := tw_tb1 (List.mem_of_getElem? (i := 224) rfl)
theorem kw_225 : (Jvm.Cond.fieldLink "RaceByLaps" (209 : Nat) "RaceByLaps$Car" "hasPlan" "Z") ∈ lw_tbl := tw_tb1 (List.mem_of_getElem? (i := 225) rfl)
theorem kw_226 : (Jvm.Cond.fieldLink "RaceByLaps$Car" (47 : Nat) "RaceByLaps$Car" "isTried" "Z") ∈ lw_tbl := tw_tb1 (List.mem_of_getElem? (i := 226) rfl)
theorem kw_227 : (Jvm.Cond.fieldLink "RaceByLaps$Tries" (76 : Nat) "RaceByLaps$Car" "isTried" "Z") ∈ lw_tbl := tw_tb1 (List.mem_of_getElem? (i := 227) rfl)
theorem kw_228 : (Jvm.Cond.lays "RaceByLaps$Car" "RaceByLaps$Car" "off" "I") ∈ lw_tbl := tw_tb1 (List.mem_of_getElem? (i := 228) rfl)
theorem kw_229 : (Jvm.Cond.soleField "RaceByLaps$Car" "off") ∈ lw_tbl := tw_tb1 (List.mem_of_getElem? (i := 229) rfl)
theorem kw_230 : (Jvm.Cond.lays "RaceByLaps$Car" "RaceByLaps$Car" "tank" "I") ∈ lw_tbl := tw_tb1 (List.mem_of_getElem? (i := 230) rfl)
theorem kw_231 : (Jvm.Cond.soleField "RaceByLaps$Car" "tank") ∈ lw_tbl := tw_tb1 (List.mem_of_getElem? (i := 231) rfl)
theorem kw_232 : (Jvm.Cond.lays "RaceByLaps$Car" "RaceByLaps$Car" "burn" "I") ∈ lw_tbl := tw_tb1 (List.mem_of_getElem? (i := 232) rfl)
theorem kw_233 : (Jvm.Cond.soleField "RaceByLaps$Car" "burn") ∈ lw_tbl := tw_tb1 (List.mem_of_getElem? (i := 233) rfl)
theorem kw_234 : (Jvm.Cond.lays "RaceByLaps$Car" "RaceByLaps$Car" "team" "I") ∈ lw_tbl := tw_tb1 (List.mem_of_getElem? (i := 234) rfl)
theorem kw_235 : (Jvm.Cond.soleField "RaceByLaps$Car" "team") ∈ lw_tbl := tw_tb1 (List.mem_of_getElem? (i := 235) rfl)
theorem kw_236 : (Jvm.Cond.lays "RaceByLaps$Car" "RaceByLaps$Car" "clas" "I") ∈ lw_tbl := tw_tb1 (List.mem_of_getElem? (i := 236) rfl)
theorem kw_237 : (Jvm.Cond.soleField "RaceByLaps$Car" "clas") ∈ lw_tbl := tw_tb1 (List.mem_of_getElem? (i := 237) rfl)
theorem kw_238 : (Jvm.Cond.lays "RaceByLaps$Car" "RaceByLaps$Car" "fuel" "I") ∈ lw_tbl := tw_tb1 (List.mem_of_getElem? (i := 238) rfl)
theorem kw_239 : (Jvm.Cond.soleField "RaceByLaps$Car" "fuel") ∈ lw_tbl := tw_tb1 (List.mem_of_getElem? (i := 239) rfl)
theorem kw_240 : (Jvm.Cond.laysFinal "RaceByLaps$Car" "RaceByLaps$Car" "sets" "LRaceByLaps$Table;") ∈ lw_tbl := tw_tb2 (List.mem_of_getElem? (i := 0) rfl)
theorem kw_241 : (Jvm.Cond.soleField "RaceByLaps$Car" "sets") ∈ lw_tbl := tw_tb2 (List.mem_of_getElem? (i := 1) rfl)
theorem kw_242 : (Jvm.Cond.laysFinal "RaceByLaps$Car" "RaceByLaps$Car" "orders" "LRaceByLaps$Table;") ∈ lw_tbl := tw_tb2 (List.mem_of_getElem? (i := 2) rfl)
theorem kw_243 : (Jvm.Cond.soleField "RaceByLaps$Car" "orders") ∈ lw_tbl := tw_tb2 (List.mem_of_getElem? (i := 3) rfl)
theorem kw_244 : (Jvm.Cond.laysFinal "RaceByLaps$Car" "RaceByLaps$Car" "stops" "LRaceByLaps$Table;") ∈ lw_tbl := tw_tb2 (List.mem_of_getElem? (i := 4) rfl)
theorem kw_245 : (Jvm.Cond.soleField "RaceByLaps$Car" "stops") ∈ lw_tbl := tw_tb2 (List.mem_of_getElem? (i := 5) rfl)
theorem kw_246 : (Jvm.Cond.laysFinal "RaceByLaps$Car" "RaceByLaps$Car" "options" "LRaceByLaps$Table;") ∈ lw_tbl := tw_tb2 (List.mem_of_getElem? (i := 6) rfl)
theorem kw_247 : (Jvm.Cond.soleField "RaceByLaps$Car" "options") ∈ lw_tbl := tw_tb2 (List.mem_of_getElem? (i := 7) rfl)
theorem kw_248 : (Jvm.Cond.laysFinal "RaceByLaps$Car" "RaceByLaps$Car" "triedStops" "LRaceByLaps$Table;") ∈ lw_tbl := tw_tb2 (List.mem_of_getElem? (i := 8) rfl)
theorem kw_249 : (Jvm.Cond.soleField "RaceByLaps$Car" "triedStops") ∈ lw_tbl := tw_tb2 (List.mem_of_getElem? (i := 9) rfl)
theorem kw_250 : (Jvm.Cond.lays "RaceByLaps$Car" "RaceByLaps$Car" "plan" "LRaceByLaps$Text;") ∈ lw_tbl := tw_tb2 (List.mem_of_getElem? (i := 10) rfl)
theorem kw_251 : (Jvm.Cond.soleField "RaceByLaps$Car" "plan") ∈ lw_tbl := tw_tb2 (List.mem_of_getElem? (i := 11) rfl)
theorem kw_252 : (Jvm.Cond.lays "RaceByLaps$Car" "RaceByLaps$Car" "hasPlan" "Z") ∈ lw_tbl := tw_tb2 (List.mem_of_getElem? (i := 12) rfl)
theorem kw_253 : (Jvm.Cond.soleField "RaceByLaps$Car" "hasPlan") ∈ lw_tbl := tw_tb2 (List.mem_of_getElem? (i := 13) rfl)
theorem kw_254 : (Jvm.Cond.lays "RaceByLaps$Car" "RaceByLaps$Car" "isTried" "Z") ∈ lw_tbl := tw_tb2 (List.mem_of_getElem? (i := 14) rfl)
theorem kw_255 : (Jvm.Cond.soleField "RaceByLaps$Car" "isTried") ∈ lw_tbl := tw_tb2 (List.mem_of_getElem? (i := 15) rfl)
theorem kw_256 : (Jvm.Cond.superclass "RaceByLaps$Car" "java/lang/Object") ∈ lw_tbl := tw_tb2 (List.mem_of_getElem? (i := 16) rfl)
theorem kw_257 : (Jvm.Cond.instantiable "RaceByLaps$Runner" (20 : Nat)) ∈ lw_tbl := tw_tb2 (List.mem_of_getElem? (i := 17) rfl)
theorem kw_258 : (Jvm.Cond.methodLink "RaceByLaps$Race" (36 : Nat) ({ cls := "RaceByLaps$Runner", name := "<init>", desc := "()V" } : Jvm.MethodName)) ∈ lw_tbl := tw_tb2 (List.mem_of_getElem? (i := 18) rfl)
theorem kw_259 : (Jvm.Cond.instanceMethod ({ cls := "RaceByLaps$Runner", name := "<init>", desc := "()V" } : Jvm.MethodName)) ∈ lw_tbl := tw_tb2 (List.mem_of_getElem? (i := 19) rfl)
theorem kw_260 : (Jvm.Cond.code ({ cls := "RaceByLaps$Runner", name := "<init>", desc := "()V" } : Jvm.MethodName) prog_8_method_1_code (1 : Nat) (Option.none : Option Jvm.ClassFile.FieldType)) ∈ lw_tbl := tw_tb2 (List.mem_of_getElem? (i := 20) rfl)
theorem kw_261 : (Jvm.Cond.methodLink "RaceByLaps$Runner" (3 : Nat) ({ cls := "java/lang/Object", name := "<init>", desc := "()V" } : Jvm.MethodName)) ∈ lw_tbl := tw_tb2 (List.mem_of_getElem? (i := 21) rfl)
theorem kw_262 : (Jvm.Cond.fieldLink "RaceByLaps$Runner" (27 : Nat) "RaceByLaps$Runner" "next" "I") ∈ lw_tbl := tw_tb2 (List.mem_of_getElem? (i := 22) rfl)
theorem kw_263 : (Jvm.Cond.fieldLink "RaceByLaps$Race" (98 : Nat) "RaceByLaps$Runner" "next" "I") ∈ lw_tbl := tw_tb2 (List.mem_of_getElem? (i := 23) rfl)
theorem kw_264 : (Jvm.Cond.fieldLink "RaceByLaps$Runner" (31 : Nat) "RaceByLaps$Runner" "begun" "I") ∈ lw_tbl := tw_tb2 (List.mem_of_getElem? (i := 24) rfl)
theorem kw_265 : (Jvm.Cond.fieldLink "RaceByLaps$Race" (101 : Nat) "RaceByLaps$Runner" "begun" "I") ∈ lw_tbl := tw_tb2 (List.mem_of_getElem? (i := 25) rfl)
theorem kw_266 : (Jvm.Cond.fieldLink "RaceByLaps$Runner" (34 : Nat) "RaceByLaps$Runner" "ended" "I") ∈ lw_tbl := tw_tb2 (List.mem_of_getElem? (i := 26) rfl)
theorem kw_267 : (Jvm.Cond.fieldLink "RaceByLaps$Race" (275 : Nat) "RaceByLaps$Runner" "ended" "I") ∈ lw_tbl := tw_tb2 (List.mem_of_getElem? (i := 27) rfl)
theorem kw_268 : (Jvm.Cond.fieldLink "RaceByLaps$Runner" (48 : Nat) "RaceByLaps$Runner" "state" "I") ∈ lw_tbl := tw_tb2 (List.mem_of_getElem? (i := 28) rfl)
theorem kw_269 : (Jvm.Cond.fieldLink "RaceByLaps$Result" (58 : Nat) "RaceByLaps$Runner" "state" "I") ∈ lw_tbl := tw_tb2 (List.mem_of_getElem? (i := 29) rfl)
theorem kw_270 : (Jvm.Cond.fieldLink "RaceByLaps$Race" (91 : Nat) "RaceByLaps$Runner" "state" "I") ∈ lw_tbl := tw_tb2 (List.mem_of_getElem? (i := 30) rfl)
theorem kw_271 : (Jvm.Cond.fieldLink "RaceByLaps$Book" (82 : Nat) "RaceByLaps$Runner" "state" "I") ∈ lw_tbl := tw_tb2 (List.mem_of_getElem? (i := 31) rfl)
theorem kw_272 : (Jvm.Cond.fieldLink "RaceByLaps$Runner" (51 : Nat) "RaceByLaps$Runner" "stateTime" "I") ∈ lw_tbl := tw_tb2 (List.mem_of_getElem? (i := 32) rfl)
theorem kw_273 : (Jvm.Cond.fieldLink "RaceByLaps$Result" (63 : Nat) "RaceByLaps$Runner" "stateTime" "I") ∈ lw_tbl := tw_tb2 (List.mem_of_getElem? (i := 33) rfl)
theorem kw_274 : (Jvm.Cond.fieldLink "RaceByLaps$Runner" (54 : Nat) "RaceByLaps$Runner" "stopsMade" "I") ∈ lw_tbl := tw_tb2 (List.mem_of_getElem? (i := 34) rfl)
theorem kw_275 : (Jvm.Cond.fieldLink "RaceByLaps$Book" (54 : Nat) "RaceByLaps$Runner" "stopsMade" "I") ∈ lw_tbl := tw_tb2 (List.mem_of_getElem? (i := 35) rfl)
theorem kw_276 : (Jvm.Cond.fieldLink "RaceByLaps$Race" (278 : Nat) "RaceByLaps$Runner" "stopsMade" "I") ∈ lw_tbl := tw_tb2 (List.mem_of_getElem? (i := 36) rfl)
theorem kw_277 : (Jvm.Cond.fieldLink "RaceByLaps$Runner" (57 : Nat) "RaceByLaps$Runner" "kinds" "I") ∈ lw_tbl := tw_tb2 (List.mem_of_getElem? (i := 37) rfl)
theorem kw_278 : (Jvm.Cond.fieldLink "RaceByLaps$Book" (65 : Nat) "RaceByLaps$Runner" "kinds" "I") ∈ lw_tbl := tw_tb2 (List.mem_of_getElem? (i := 38) rfl)
theorem kw_279 : (Jvm.Cond.fieldLink "RaceByLaps$Race" (112 : Nat) "RaceByLaps$Runner" "kinds" "I") ∈ lw_tbl := tw_tb2 (List.mem_of_getElem? (i := 39) rfl)
theorem kw_280 : (Jvm.Cond.fieldLink "RaceByLaps$Runner" (60 : Nat) "RaceByLaps$Runner" "offences" "I") ∈ lw_tbl := tw_tb2 (List.mem_of_getElem? (i := 40) rfl)
theorem kw_281 : (Jvm.Cond.fieldLink "RaceByLaps$Book" (74 : Nat) "RaceByLaps$Runner" "offences" "I") ∈ lw_tbl := tw_tb2 (List.mem_of_getElem? (i := 41) rfl)
theorem kw_282 : (Jvm.Cond.fieldLink "RaceByLaps$Race" (221 : Nat) "RaceByLaps$Runner" "offences" "I") ∈ lw_tbl := tw_tb2 (List.mem_of_getElem? (i := 42) rfl)
theorem kw_283 : (Jvm.Cond.fieldLink "RaceByLaps$Runner" (66 : Nat) "RaceByLaps$Runner" "fuel" "I") ∈ lw_tbl := tw_tb2 (List.mem_of_getElem? (i := 43) rfl)
theorem kw_284 : (Jvm.Cond.fieldLink "RaceByLaps$Book" (85 : Nat) "RaceByLaps$Runner" "fuel" "I") ∈ lw_tbl := tw_tb2 (List.mem_of_getElem? (i := 44) rfl)
theorem kw_285 : (Jvm.Cond.fieldLink "RaceByLaps$Race" (131 : Nat) "RaceByLaps$Runner" "fuel" "I") ∈ lw_tbl := tw_tb2 (List.mem_of_getElem? (i := 45) rfl)
theorem kw_286 : (Jvm.Cond.fieldLink "RaceByLaps$Runner" (67 : Nat) "RaceByLaps$Runner" "setOn" "I") ∈ lw_tbl := tw_tb2 (List.mem_of_getElem? (i := 46) rfl)
theorem kw_287 : (Jvm.Cond.fieldLink "RaceByLaps$Race" (118 : Nat) "RaceByLaps$Runner" "setOn" "I") ∈ lw_tbl := tw_tb2 (List.mem_of_getElem? (i := 47) rfl)
theorem kw_288 : (Jvm.Cond.fieldLink "RaceByLaps$Runner" (70 : Nat) "RaceByLaps$Runner" "passed" "I") ∈ lw_tbl := tw_tb2 (List.mem_of_getElem? (i := 48) rfl)
theorem kw_289 : (Jvm.Cond.fieldLink "RaceByLaps$Race" (224 : Nat) "RaceByLaps$Runner" "passed" "I") ∈ lw_tbl := tw_tb2 (List.mem_of_getElem? (i := 49) rfl)
theorem kw_290 : (Jvm.Cond.fieldLink "RaceByLaps$Runner" (73 : Nat) "RaceByLaps$Runner" "held" "I") ∈ lw_tbl := tw_tb2 (List.mem_of_getElem? (i := 50) rfl)
theorem kw_291 : (Jvm.Cond.fieldLink "RaceByLaps$Race" (209 : Nat) "RaceByLaps$Runner" "held" "I") ∈ lw_tbl := tw_tb2 (List.mem_of_getElem? (i := 51) rfl)
theorem kw_292 : (Jvm.Cond.fieldLink "RaceByLaps$Runner" (76 : Nat) "RaceByLaps$Runner" "lostAtBox" "I") ∈ lw_tbl := tw_tb2 (List.mem_of_getElem? (i := 52) rfl)
theorem kw_293 : (Jvm.Cond.fieldLink "RaceByLaps" (251 : Nat) "RaceByLaps$Runner" "lostAtBox" "I") ∈ lw_tbl := tw_tb2 (List.mem_of_getElem? (i := 53) rfl)
theorem kw_294 : (Jvm.Cond.fieldLink "RaceByLaps$Race" (305 : Nat) "RaceByLaps$Runner" "lostAtBox" "I") ∈ lw_tbl := tw_tb2 (List.mem_of_getElem? (i := 54) rfl)
theorem kw_295 : (Jvm.Cond.fieldLink "RaceByLaps$Runner" (79 : Nat) "RaceByLaps$Runner" "mode" "I") ∈ lw_tbl := tw_tb2 (List.mem_of_getElem? (i := 55) rfl)
theorem kw_296 : (Jvm.Cond.fieldLink "RaceByLaps$Race" (128 : Nat) "RaceByLaps$Runner" "mode" "I") ∈ lw_tbl := tw_tb2 (List.mem_of_getElem? (i := 56) rfl)
theorem kw_297 : (Jvm.Cond.fieldLink "RaceByLaps$Runner" (82 : Nat) "RaceByLaps$Runner" "bold" "I") ∈ lw_tbl := tw_tb2 (List.mem_of_getElem? (i := 57) rfl)
theorem kw_298 : (Jvm.Cond.fieldLink "RaceByLaps$Race" (172 : Nat) "RaceByLaps$Runner" "bold" "I") ∈ lw_tbl := tw_tb2 (List.mem_of_getElem? (i := 58) rfl)
theorem kw_299 : (Jvm.Cond.fieldLink "RaceByLaps$Runner" (9 : Nat) "RaceByLaps$Runner" "ages" "[I") ∈ lw_tbl := tw_tb2 (List.mem_of_getElem? (i := 59) rfl)
theorem kw_300 : (Jvm.Cond.fieldLink "RaceByLaps$Runner" (15 : Nat) "RaceByLaps$Runner" "times" "[I") ∈ lw_tbl := tw_tb2 (List.mem_of_getElem? (i := 60) rfl)
theorem kw_301 : (Jvm.Cond.fieldLink "RaceByLaps$Runner" (18 : Nat) "RaceByLaps$Runner" "linesDone" "[I") ∈ lw_tbl := tw_tb2 (List.mem_of_getElem? (i := 61) rfl)
theorem kw_302 : (Jvm.Cond.fieldLink "RaceByLaps$Race" (287 : Nat) "RaceByLaps$Runner" "linesDone" "[I") ∈ lw_tbl := tw_tb2 (List.mem_of_getElem? (i := 62) rfl)
theorem kw_303 : (Jvm.Cond.fieldLink "RaceByLaps" (333 : Nat) "RaceByLaps$Runner" "linesDone" "[I") ∈ lw_tbl := tw_tb2 (List.mem_of_getElem? (i := 63) rfl)
theorem kw_304 : (Jvm.Cond.fieldLink "RaceByLaps$Runner" (21 : Nat) "RaceByLaps$Runner" "turnIn" "[I") ∈ lw_tbl := tw_tb2 (List.mem_of_getElem? (i := 64) rfl)
theorem kw_305 : (Jvm.Cond.fieldLink "RaceByLaps$Race" (212 : Nat) "RaceByLaps$Runner" "turnIn" "[I") ∈ lw_tbl := tw_tb2 (List.mem_of_getElem? (i := 65) rfl)
theorem kw_306 : (Jvm.Cond.fieldLink "RaceByLaps$Runner" (24 : Nat) "RaceByLaps$Runner" "endIn" "[I") ∈ lw_tbl := tw_tb2 (List.mem_of_getElem? (i := 66) rfl)
theorem kw_307 : (Jvm.Cond.fieldLink "RaceByLaps$Race" (202 : Nat) "RaceByLaps$Runner" "endIn" "[I") ∈ lw_tbl := tw_tb2 (List.mem_of_getElem? (i := 67) rfl)
theorem kw_308 : (Jvm.Cond.lays "RaceByLaps$Runner" "RaceByLaps$Runner" "next" "I") ∈ lw_tbl := tw_tb2 (List.mem_of_getElem? (i := 68) rfl)
theorem kw_309 : (Jvm.Cond.soleField "RaceByLaps$Runner" "next") ∈ lw_tbl := tw_tb2 (List.mem_of_getElem? (i := 69) rfl)
theorem kw_310 : (Jvm.Cond.lays "RaceByLaps$Runner" "RaceByLaps$Runner" "begun" "I") ∈ lw_tbl := tw_tb2 (List.mem_of_getElem? (i := 70) rfl)
theorem kw_311 : (Jvm.Cond.soleField "RaceByLaps$Runner" "begun") ∈ lw_tbl := tw_tb2 (List.mem_of_getElem? (i := 71) rfl)
theorem kw_312 : (Jvm.Cond.lays "RaceByLaps$Runner" "RaceByLaps$Runner" "ended" "I") ∈ lw_tbl := tw_tb2 (List.mem_of_getElem? (i := 72) rfl)
theorem kw_313 : (Jvm.Cond.soleField "RaceByLaps$Runner" "ended") ∈ lw_tbl := tw_tb2 (List.mem_of_getElem? (i := 73) rfl)
theorem kw_314 : (Jvm.Cond.lays "RaceByLaps$Runner" "RaceByLaps$Runner" "state" "I") ∈ lw_tbl := tw_tb2 (List.mem_of_getElem? (i := 74) rfl)
theorem kw_315 : (Jvm.Cond.soleField "RaceByLaps$Runner" "state") ∈ lw_tbl := tw_tb2 (List.mem_of_getElem? (i := 75) rfl)
theorem kw_316 : (Jvm.Cond.lays "RaceByLaps$Runner" "RaceByLaps$Runner" "stateTime" "I") ∈ lw_tbl := tw_tb2 (List.mem_of_getElem? (i := 76) rfl)
theorem kw_317 : (Jvm.Cond.soleField "RaceByLaps$Runner" "stateTime") ∈ lw_tbl := tw_tb2 (List.mem_of_getElem? (i := 77) rfl)
theorem kw_318 : (Jvm.Cond.lays "RaceByLaps$Runner" "RaceByLaps$Runner" "stopsMade" "I") ∈ lw_tbl := tw_tb2 (List.mem_of_getElem? (i := 78) rfl)
theorem kw_319 : (Jvm.Cond.soleField "RaceByLaps$Runner" "stopsMade") ∈ lw_tbl := tw_tb2 (List.mem_of_getElem? (i := 79) rfl)
theorem kw_320 : (Jvm.Cond.lays "RaceByLaps$Runner" "RaceByLaps$Runner" "kinds" "I") ∈ lw_tbl := tw_tb2 (List.mem_of_getElem? (i := 80) rfl)
theorem kw_321 : (Jvm.Cond.soleField "RaceByLaps$Runner" "kinds") ∈ lw_tbl := tw_tb2 (List.mem_of_getElem? (i := 81) rfl)
theorem kw_322 : (Jvm.Cond.lays "RaceByLaps$Runner" "RaceByLaps$Runner" "offences" "I") ∈ lw_tbl := tw_tb2 (List.mem_of_getElem? (i := 82) rfl)
theorem kw_323 : (Jvm.Cond.soleField "RaceByLaps$Runner" "offences") ∈ lw_tbl := tw_tb2 (List.mem_of_getElem? (i := 83) rfl)
theorem kw_324 : (Jvm.Cond.lays "RaceByLaps$Runner" "RaceByLaps$Runner" "fuel" "I") ∈ lw_tbl := tw_tb2 (List.mem_of_getElem? (i := 84) rfl)
theorem kw_325 : (Jvm.Cond.soleField "RaceByLaps$Runner" "fuel") ∈ lw_tbl := tw_tb2 (List.mem_of_getElem? (i := 85) rfl)
theorem kw_326 : (Jvm.Cond.lays "RaceByLaps$Runner" "RaceByLaps$Runner" "setOn" "I") ∈ lw_tbl := tw_tb2 (List.mem_of_getElem? (i := 86) rfl)
theorem kw_327 : (Jvm.Cond.soleField "RaceByLaps$Runner" "setOn") ∈ lw_tbl := tw_tb2 (List.mem_of_getElem? (i := 87) rfl)
theorem kw_328 : (Jvm.Cond.lays "RaceByLaps$Runner" "RaceByLaps$Runner" "passed" "I") ∈ lw_tbl := tw_tb2 (List.mem_of_getElem? (i := 88) rfl)
theorem kw_329 : (Jvm.Cond.soleField "RaceByLaps$Runner" "passed") ∈ lw_tbl := tw_tb2 (List.mem_of_getElem? (i := 89) rfl)
theorem kw_330 : (Jvm.Cond.lays "RaceByLaps$Runner" "RaceByLaps$Runner" "held" "I") ∈ lw_tbl := tw_tb2 (List.mem_of_getElem? (i := 90) rfl)
theorem kw_331 : (Jvm.Cond.soleField "RaceByLaps$Runner" "held") ∈ lw_tbl := tw_tb2 (List.mem_of_getElem? (i := 91) rfl)
theorem kw_332 : (Jvm.Cond.lays "RaceByLaps$Runner" "RaceByLaps$Runner" "lostAtBox" "I") ∈ lw_tbl := tw_tb2 (List.mem_of_getElem? (i := 92) rfl)
theorem kw_333 : (Jvm.Cond.soleField "RaceByLaps$Runner" "lostAtBox") ∈ lw_tbl := tw_tb2 (List.mem_of_getElem? (i := 93) rfl)
theorem kw_334 : (Jvm.Cond.lays "RaceByLaps$Runner" "RaceByLaps$Runner" "mode" "I") ∈ lw_tbl := tw_tb2 (List.mem_of_getElem? (i := 94) rfl)
theorem kw_335 : (Jvm.Cond.soleField "RaceByLaps$Runner" "mode") ∈ lw_tbl := tw_tb2 (List.mem_of_getElem? (i := 95) rfl)
theorem kw_336 : (Jvm.Cond.lays "RaceByLaps$Runner" "RaceByLaps$Runner" "bold" "I") ∈ lw_tbl := tw_tb2 (List.mem_of_getElem? (i := 96) rfl)
theorem kw_337 : (Jvm.Cond.soleField "RaceByLaps$Runner" "bold") ∈ lw_tbl := tw_tb2 (List.mem_of_getElem? (i := 97) rfl)
theorem kw_338 : (Jvm.Cond.laysFinal "RaceByLaps$Runner" "RaceByLaps$Runner" "ages" "[I") ∈ lw_tbl := tw_tb2 (List.mem_of_getElem? (i := 98) rfl)
theorem kw_339 : (Jvm.Cond.soleField "RaceByLaps$Runner" "ages") ∈ lw_tbl := tw_tb2 (List.mem_of_getElem? (i := 99) rfl)
theorem kw_340 : (Jvm.Cond.laysFinal "RaceByLaps$Runner" "RaceByLaps$Runner" "times" "[I") ∈ lw_tbl := tw_tb2 (List.mem_of_getElem? (i := 100) rfl)
theorem kw_341 : (Jvm.Cond.soleField "RaceByLaps$Runner" "times") ∈ lw_tbl := tw_tb2 (List.mem_of_getElem? (i := 101) rfl)
theorem kw_342 : (Jvm.Cond.laysFinal "RaceByLaps$Runner" "RaceByLaps$Runner" "linesDone" "[I") ∈ lw_tbl := tw_tb2 (List.mem_of_getElem? (i := 102) rfl)
theorem kw_343 : (Jvm.Cond.soleField "RaceByLaps$Runner" "linesDone") ∈ lw_tbl := tw_tb2 (List.mem_of_getElem? (i := 103) rfl)
theorem kw_344 : (Jvm.Cond.laysFinal "RaceByLaps$Runner" "RaceByLaps$Runner" "turnIn" "[I") ∈ lw_tbl := tw_tb2 (List.mem_of_getElem? (i := 104) rfl)
theorem kw_345 : (Jvm.Cond.soleField "RaceByLaps$Runner" "turnIn") ∈ lw_tbl := tw_tb2 (List.mem_of_getElem? (i := 105) rfl)
theorem kw_346 : (Jvm.Cond.laysFinal "RaceByLaps$Runner" "RaceByLaps$Runner" "endIn" "[I") ∈ lw_tbl := tw_tb2 (List.mem_of_getElem? (i := 106) rfl)
theorem kw_347 : (Jvm.Cond.soleField "RaceByLaps$Runner" "endIn") ∈ lw_tbl := tw_tb2 (List.mem_of_getElem? (i := 107) rfl)
theorem kw_348 : (Jvm.Cond.superclass "RaceByLaps$Runner" "java/lang/Object") ∈ lw_tbl := tw_tb2 (List.mem_of_getElem? (i := 108) rfl)
theorem kw_349 : (Jvm.Cond.fieldLink "RaceByLaps$Race" (9 : Nat) "RaceByLaps$Race" "track" "LRaceByLaps$Track;") ∈ lw_tbl := tw_tb2 (List.mem_of_getElem? (i := 109) rfl)
theorem kw_350 : (Jvm.Cond.fieldLink "RaceByLaps$Tries" (55 : Nat) "RaceByLaps$Race" "track" "LRaceByLaps$Track;") ∈ lw_tbl := tw_tb2 (List.mem_of_getElem? (i := 110) rfl)
theorem kw_351 : (Jvm.Cond.fieldLink "RaceByLaps$Race" (15 : Nat) "RaceByLaps$Race" "reckoner" "LRaceByLaps$Reckoner;") ∈ lw_tbl := tw_tb2 (List.mem_of_getElem? (i := 111) rfl)
theorem kw_352 : (Jvm.Cond.fieldLink "RaceByLaps$Race" (21 : Nat) "RaceByLaps$Race" "cars" "[LRaceByLaps$Car;") ∈ lw_tbl := tw_tb2 (List.mem_of_getElem? (i := 112) rfl)
theorem kw_353 : (Jvm.Cond.fieldLink "RaceByLaps$Tries" (51 : Nat) "RaceByLaps$Race" "cars" "[LRaceByLaps$Car;") ∈ lw_tbl := tw_tb2 (List.mem_of_getElem? (i := 113) rfl)
theorem kw_354 : (Jvm.Cond.fieldLink "RaceByLaps$Result" (44 : Nat) "RaceByLaps$Race" "cars" "[LRaceByLaps$Car;") ∈ lw_tbl := tw_tb2 (List.mem_of_getElem? (i := 114) rfl)
theorem kw_355 : (Jvm.Cond.fieldLink "RaceByLaps" (148 : Nat) "RaceByLaps$Race" "cars" "[LRaceByLaps$Car;") ∈ lw_tbl := tw_tb2 (List.mem_of_getElem? (i := 115) rfl)
theorem kw_356 : (Jvm.Cond.fieldLink "RaceByLaps$Race" (27 : Nat) "RaceByLaps$Race" "runners" "[LRaceByLaps$Runner;") ∈ lw_tbl := tw_tb2 (List.mem_of_getElem? (i := 116) rfl)
theorem kw_357 : (Jvm.Cond.fieldLink "RaceByLaps$Result" (36 : Nat) "RaceByLaps$Race" "runners" "[LRaceByLaps$Runner;") ∈ lw_tbl := tw_tb2 (List.mem_of_getElem? (i := 117) rfl)
theorem kw_358 : (Jvm.Cond.fieldLink "RaceByLaps" (230 : Nat) "RaceByLaps$Race" "runners" "[LRaceByLaps$Runner;") ∈ lw_tbl := tw_tb2 (List.mem_of_getElem? (i := 118) rfl)
theorem kw_359 : (Jvm.Cond.fieldLink "RaceByLaps$Race" (31 : Nat) "RaceByLaps$Race" "boxFree" "[I") ∈ lw_tbl := tw_tb2 (List.mem_of_getElem? (i := 119) rfl)
theorem kw_360 : (Jvm.Cond.fieldLink "RaceByLaps$Race" (37 : Nat) "RaceByLaps$Race" "count" "I") ∈ lw_tbl := tw_tb2 (List.mem_of_getElem? (i := 120) rfl)
theorem kw_361 : (Jvm.Cond.fieldLink "RaceByLaps$Result" (30 : Nat) "RaceByLaps$Race" "count" "I") ∈ lw_tbl := tw_tb2 (List.mem_of_getElem? (i := 121) rfl)
theorem kw_362 : (Jvm.Cond.fieldLink "RaceByLaps" (80 : Nat) "RaceByLaps$Race" "count" "I") ∈ lw_tbl := tw_tb2 (List.mem_of_getElem? (i := 122) rfl)
theorem kw_363 : (Jvm.Cond.fieldLink "RaceByLaps$Race" (61 : Nat) "RaceByLaps$Race" "turn" "I") ∈ lw_tbl := tw_tb2 (List.mem_of_getElem? (i := 123) rfl)
theorem kw_364 : (Jvm.Cond.fieldLink "RaceByLaps" (84 : Nat) "RaceByLaps$Race" "fresh" "Z") ∈ lw_tbl := tw_tb2 (List.mem_of_getElem? (i := 124) rfl)
theorem kw_365 : (Jvm.Cond.fieldLink "RaceByLaps$Race" (54 : Nat) "RaceByLaps$Race" "fresh" "Z") ∈ lw_tbl := tw_tb2 (List.mem_of_getElem? (i := 125) rfl)
theorem kw_366 : (Jvm.Cond.laysFinal "RaceByLaps$Race" "RaceByLaps$Race" "track" "LRaceByLaps$Track;") ∈ lw_tbl := tw_tb2 (List.mem_of_getElem? (i := 126) rfl)
theorem kw_367 : (Jvm.Cond.soleField "RaceByLaps$Race" "track") ∈ lw_tbl := tw_tb2 (List.mem_of_getElem? (i := 127) rfl)
theorem kw_368 : (Jvm.Cond.laysFinal "RaceByLaps$Race" "RaceByLaps$Race" "reckoner" "LRaceByLaps$Reckoner;") ∈ lw_tbl := tw_tb2 (List.mem_of_getElem? (i := 128) rfl)
theorem kw_369 : (Jvm.Cond.soleField "RaceByLaps$Race" "reckoner") ∈ lw_tbl := tw_tb2 (List.mem_of_getElem? (i := 129) rfl)
theorem kw_370 : (Jvm.Cond.laysFinal "RaceByLaps$Race" "RaceByLaps$Race" "cars" "[LRaceByLaps$Car;") ∈ lw_tbl := tw_tb2 (List.mem_of_getElem? (i := 130) rfl)
theorem kw_371 : (Jvm.Cond.soleField "RaceByLaps$Race" "cars") ∈ lw_tbl := tw_tb2 (List.mem_of_getElem? (i := 131) rfl)
theorem kw_372 : (Jvm.Cond.laysFinal "RaceByLaps$Race" "RaceByLaps$Race" "runners" "[LRaceByLaps$Runner;") ∈ lw_tbl := tw_tb2 (List.mem_of_getElem? (i := 132) rfl)
theorem kw_373 : (Jvm.Cond.soleField "RaceByLaps$Race" "runners") ∈ lw_tbl := tw_tb2 (List.mem_of_getElem? (i := 133) rfl)
theorem kw_374 : (Jvm.Cond.laysFinal "RaceByLaps$Race" "RaceByLaps$Race" "boxFree" "[I") ∈ lw_tbl := tw_tb2 (List.mem_of_getElem? (i := 134) rfl)
theorem kw_375 : (Jvm.Cond.soleField "RaceByLaps$Race" "boxFree") ∈ lw_tbl := tw_tb2 (List.mem_of_getElem? (i := 135) rfl)
theorem kw_376 : (Jvm.Cond.lays "RaceByLaps$Race" "RaceByLaps$Race" "count" "I") ∈ lw_tbl := tw_tb2 (List.mem_of_getElem? (i := 136) rfl)
theorem kw_377 : (Jvm.Cond.soleField "RaceByLaps$Race" "count") ∈ lw_tbl := tw_tb2 (List.mem_of_getElem? (i := 137) rfl)
theorem kw_378 : (Jvm.Cond.lays "RaceByLaps$Race" "RaceByLaps$Race" "turn" "I") ∈ lw_tbl := tw_tb2 (List.mem_of_getElem? (i := 138) rfl)
theorem kw_379 : (Jvm.Cond.soleField "RaceByLaps$Race" "turn") ∈ lw_tbl := tw_tb2 (List.mem_of_getElem? (i := 139) rfl)
theorem kw_380 : (Jvm.Cond.lays "RaceByLaps$Race" "RaceByLaps$Race" "fresh" "Z") ∈ lw_tbl := tw_tb2 (List.mem_of_getElem? (i := 140) rfl)
theorem kw_381 : (Jvm.Cond.soleField "RaceByLaps$Race" "fresh") ∈ lw_tbl := tw_tb2 (List.mem_of_getElem? (i := 141) rfl)
theorem kw_382 : (Jvm.Cond.superclass "RaceByLaps$Race" "java/lang/Object") ∈ lw_tbl := tw_tb2 (List.mem_of_getElem? (i := 142) rfl)
theorem kw_383 : (Jvm.Cond.classLink "RaceByLaps" (28 : Nat) "RaceByLaps$Book") ∈ lw_tbl := tw_tb2 (List.mem_of_getElem? (i := 143) rfl)
theorem kw_384 : (Jvm.Cond.instantiable "RaceByLaps$Book" (5 : Nat)) ∈ lw_tbl := tw_tb2 (List.mem_of_getElem? (i := 144) rfl)
theorem kw_385 : (Jvm.Cond.methodLink "RaceByLaps" (30 : Nat) ({ cls := "RaceByLaps$Book", name := "<init>", desc := "(LRaceByLaps$Reckoner;)V" } : Jvm.MethodName)) ∈ lw_tbl := tw_tb2 (List.mem_of_getElem? (i := 145) rfl)
theorem kw_386 : (Jvm.Cond.instanceMethod ({ cls := "RaceByLaps$Book", name := "<init>", desc := "(LRaceByLaps$Reckoner;)V" } : Jvm.MethodName)) ∈ lw_tbl := tw_tb2 (List.mem_of_getElem? (i := 146) rfl)
theorem kw_387 : (Jvm.Cond.code ({ cls := "RaceByLaps$Book", name := "<init>", desc := "(LRaceByLaps$Reckoner;)V" } : Jvm.MethodName) prog_2_method_1_code (3 : Nat) (Option.none : Option Jvm.ClassFile.FieldType)) ∈ lw_tbl := tw_tb2 (List.mem_of_getElem? (i := 147) rfl)
theorem kw_388 : (Jvm.Cond.methodLink "RaceByLaps$Book" (3 : Nat) ({ cls := "java/lang/Object", name := "<init>", desc := "()V" } : Jvm.MethodName)) ∈ lw_tbl := tw_tb2 (List.mem_of_getElem? (i := 148) rfl)
theorem kw_389 : (Jvm.Cond.classLink "RaceByLaps$Book" (15 : Nat) "RaceByLaps$Text") ∈ lw_tbl := tw_tb2 (List.mem_of_getElem? (i := 149) rfl)
theorem kw_390 : (Jvm.Cond.arrayOver (Jvm.ClassFile.FieldType.object "RaceByLaps$Text")) ∈ lw_tbl := tw_tb2 (List.mem_of_getElem? (i := 150) rfl)
theorem kw_391 : (Jvm.Cond.classLink "RaceByLaps$Book" (25 : Nat) "RaceByLaps$Table") ∈ lw_tbl := tw_tb2 (List.mem_of_getElem? (i := 151) rfl)
theorem kw_392 : (Jvm.Cond.methodLink "RaceByLaps$Book" (27 : Nat) ({ cls := "RaceByLaps$Table", name := "<init>", desc := "(II)V" } : Jvm.MethodName)) ∈ lw_tbl := tw_tb2 (List.mem_of_getElem? (i := 152) rfl)
theorem kw_393 : (Jvm.Cond.methodLink "RaceByLaps$Book" (34 : Nat) ({ cls := "RaceByLaps$Text", name := "<init>", desc := "()V" } : Jvm.MethodName)) ∈ lw_tbl := tw_tb2 (List.mem_of_getElem? (i := 153) rfl)
theorem kw_394 : (Jvm.Cond.fieldLink "RaceByLaps$Book" (9 : Nat) "RaceByLaps$Book" "reckoner" "LRaceByLaps$Reckoner;") ∈ lw_tbl := tw_tb2 (List.mem_of_getElem? (i := 154) rfl)
theorem kw_395 : (Jvm.Cond.fieldLink "RaceByLaps$Book" (17 : Nat) "RaceByLaps$Book" "rules" "[LRaceByLaps$Text;") ∈ lw_tbl := tw_tb2 (List.mem_of_getElem? (i := 155) rfl)
theorem kw_396 : (Jvm.Cond.fieldLink "RaceByLaps$Book" (21 : Nat) "RaceByLaps$Book" "fromDay" "[I") ∈ lw_tbl := tw_tb2 (List.mem_of_getElem? (i := 156) rfl)
theorem kw_397 : (Jvm.Cond.fieldLink "RaceByLaps$Book" (35 : Nat) "RaceByLaps$Book" "ruleCount" "I") ∈ lw_tbl := tw_tb2 (List.mem_of_getElem? (i := 157) rfl)
theorem kw_398 : (Jvm.Cond.fieldLink "RaceByLaps" (88 : Nat) "RaceByLaps$Book" "ruleCount" "I") ∈ lw_tbl := tw_tb2 (List.mem_of_getElem? (i := 158) rfl)
theorem kw_399 : (Jvm.Cond.fieldLink "RaceByLaps$Book" (30 : Nat) "RaceByLaps$Book" "findings" "LRaceByLaps$Table;") ∈ lw_tbl := tw_tb2 (List.mem_of_getElem? (i := 159) rfl)
theorem kw_400 : (Jvm.Cond.fieldLink "RaceByLaps" (91 : Nat) "RaceByLaps$Book" "findings" "LRaceByLaps$Table;") ∈ lw_tbl := tw_tb2 (List.mem_of_getElem? (i := 160) rfl)
theorem kw_401 : (Jvm.Cond.laysFinal "RaceByLaps$Book" "RaceByLaps$Book" "reckoner" "LRaceByLaps$Reckoner;") ∈ lw_tbl := tw_tb2 (List.mem_of_getElem? (i := 161) rfl)
theorem kw_402 : (Jvm.Cond.soleField "RaceByLaps$Book" "reckoner") ∈ lw_tbl := tw_tb2 (List.mem_of_getElem? (i := 162) rfl)
theorem kw_403 : (Jvm.Cond.laysFinal "RaceByLaps$Book" "RaceByLaps$Book" "rules" "[LRaceByLaps$Text;") ∈ lw_tbl := tw_tb2 (List.mem_of_getElem? (i := 163) rfl)
theorem kw_404 : (Jvm.Cond.soleField "RaceByLaps$Book" "rules") ∈ lw_tbl := tw_tb2 (List.mem_of_getElem? (i := 164) rfl)
theorem kw_405 : (Jvm.Cond.laysFinal "RaceByLaps$Book" "RaceByLaps$Book" "fromDay" "[I") ∈ lw_tbl := tw_tb2 (List.mem_of_getElem? (i := 165) rfl)
theorem kw_406 : (Jvm.Cond.soleField "RaceByLaps$Book" "fromDay") ∈ lw_tbl := tw_tb2 (List.mem_of_getElem? (i := 166) rfl)
theorem kw_407 : (Jvm.Cond.lays "RaceByLaps$Book" "RaceByLaps$Book" "ruleCount" "I") ∈ lw_tbl := tw_tb2 (List.mem_of_getElem? (i := 167) rfl)
theorem kw_408 : (Jvm.Cond.soleField "RaceByLaps$Book" "ruleCount") ∈ lw_tbl := tw_tb2 (List.mem_of_getElem? (i := 168) rfl)
theorem kw_409 : (Jvm.Cond.laysFinal "RaceByLaps$Book" "RaceByLaps$Book" "findings" "LRaceByLaps$Table;") ∈ lw_tbl := tw_tb2 (List.mem_of_getElem? (i := 169) rfl)
theorem kw_410 : (Jvm.Cond.soleField "RaceByLaps$Book" "findings") ∈ lw_tbl := tw_tb2 (List.mem_of_getElem? (i := 170) rfl)
theorem kw_411 : (Jvm.Cond.superclass "RaceByLaps$Book" "java/lang/Object") ∈ lw_tbl := tw_tb2 (List.mem_of_getElem? (i := 171) rfl)
theorem kw_412 : (Jvm.Cond.classLink "RaceByLaps" (37 : Nat) "RaceByLaps$Result") ∈ lw_tbl := tw_tb2 (List.mem_of_getElem? (i := 172) rfl)
theorem kw_413 : (Jvm.Cond.instantiable "RaceByLaps$Result" (5 : Nat)) ∈ lw_tbl := tw_tb2 (List.mem_of_getElem? (i := 173) rfl)
theorem kw_414 : (Jvm.Cond.methodLink "RaceByLaps" (39 : Nat) ({ cls := "RaceByLaps$Result", name := "<init>", desc := "(LRaceByLaps$Race;LRaceByLaps$Book;)V" } : Jvm.MethodName)) ∈ lw_tbl := tw_tb2 (List.mem_of_getElem? (i := 174) rfl)
theorem kw_415 : (Jvm.Cond.instanceMethod ({ cls := "RaceByLaps$Result", name := "<init>", desc := "(LRaceByLaps$Race;LRaceByLaps$Book;)V" } : Jvm.MethodName)) ∈ lw_tbl := tw_tb2 (List.mem_of_getElem? (i := 175) rfl)
theorem kw_416 : (Jvm.Cond.code ({ cls := "RaceByLaps$Result", name := "<init>", desc := "(LRaceByLaps$Race;LRaceByLaps$Book;)V" } : Jvm.MethodName) prog_7_method_1_code (3 : Nat) (Option.none : Option Jvm.ClassFile.FieldType)) ∈ lw_tbl := tw_tb2 (List.mem_of_getElem? (i := 176) rfl)
theorem kw_417 : (Jvm.Cond.methodLink "RaceByLaps$Result" (3 : Nat) ({ cls := "java/lang/Object", name := "<init>", desc := "()V" } : Jvm.MethodName)) ∈ lw_tbl := tw_tb2 (List.mem_of_getElem? (i := 177) rfl)
theorem kw_418 : (Jvm.Cond.fieldLink "RaceByLaps$Result" (9 : Nat) "RaceByLaps$Result" "race" "LRaceByLaps$Race;") ∈ lw_tbl := tw_tb2 (List.mem_of_getElem? (i := 178) rfl)
theorem kw_419 : (Jvm.Cond.fieldLink "RaceByLaps$Result" (15 : Nat) "RaceByLaps$Result" "book" "LRaceByLaps$Book;") ∈ lw_tbl := tw_tb2 (List.mem_of_getElem? (i := 179) rfl)
theorem kw_420 : (Jvm.Cond.fieldLink "RaceByLaps$Result" (19 : Nat) "RaceByLaps$Result" "counted" "[Z") ∈ lw_tbl := tw_tb2 (List.mem_of_getElem? (i := 180) rfl)
theorem kw_421 : (Jvm.Cond.fieldLink "RaceByLaps" (279 : Nat) "RaceByLaps$Result" "counted" "[Z") ∈ lw_tbl := tw_tb2 (List.mem_of_getElem? (i := 181) rfl)
theorem kw_422 : (Jvm.Cond.fieldLink "RaceByLaps$Result" (23 : Nat) "RaceByLaps$Result" "laps" "[I") ∈ lw_tbl := tw_tb2 (List.mem_of_getElem? (i := 182) rfl)
theorem kw_423 : (Jvm.Cond.fieldLink "RaceByLaps$Result" (27 : Nat) "RaceByLaps$Result" "sums" "[I") ∈ lw_tbl := tw_tb2 (List.mem_of_getElem? (i := 183) rfl)
theorem kw_424 : (Jvm.Cond.fieldLink "RaceByLaps" (283 : Nat) "RaceByLaps$Result" "sums" "[I") ∈ lw_tbl := tw_tb2 (List.mem_of_getElem? (i := 184) rfl)
theorem kw_425 : (Jvm.Cond.laysFinal "RaceByLaps$Result" "RaceByLaps$Result" "race" "LRaceByLaps$Race;") ∈ lw_tbl := tw_tb2 (List.mem_of_getElem? (i := 185) rfl)
theorem kw_426 : (Jvm.Cond.soleField "RaceByLaps$Result" "race") ∈ lw_tbl := tw_tb2 (List.mem_of_getElem? (i := 186) rfl)
theorem kw_427 : (Jvm.Cond.laysFinal "RaceByLaps$Result" "RaceByLaps$Result" "book" "LRaceByLaps$Book;") ∈ lw_tbl := tw_tb2 (List.mem_of_getElem? (i := 187) rfl)
theorem kw_428 : (Jvm.Cond.soleField "RaceByLaps$Result" "book") ∈ lw_tbl := tw_tb2 (List.mem_of_getElem? (i := 188) rfl)
theorem kw_429 : (Jvm.Cond.laysFinal "RaceByLaps$Result" "RaceByLaps$Result" "counted" "[Z") ∈ lw_tbl := tw_tb2 (List.mem_of_getElem? (i := 189) rfl)
theorem kw_430 : (Jvm.Cond.soleField "RaceByLaps$Result" "counted") ∈ lw_tbl := tw_tb2 (List.mem_of_getElem? (i := 190) rfl)
theorem kw_431 : (Jvm.Cond.laysFinal "RaceByLaps$Result" "RaceByLaps$Result" "laps" "[I") ∈ lw_tbl := tw_tb2 (List.mem_of_getElem? (i := 191) rfl)
theorem kw_432 : (Jvm.Cond.soleField "RaceByLaps$Result" "laps") ∈ lw_tbl := tw_tb2 (List.mem_of_getElem? (i := 192) rfl)
theorem kw_433 : (Jvm.Cond.laysFinal "RaceByLaps$Result" "RaceByLaps$Result" "sums" "[I") ∈ lw_tbl := tw_tb2 (List.mem_of_getElem? (i := 193) rfl)
theorem kw_434 : (Jvm.Cond.soleField "RaceByLaps$Result" "sums") ∈ lw_tbl := tw_tb2 (List.mem_of_getElem? (i := 194) rfl)
theorem kw_435 : (Jvm.Cond.superclass "RaceByLaps$Result" "java/lang/Object") ∈ lw_tbl := tw_tb2 (List.mem_of_getElem? (i := 195) rfl)
theorem kw_436 : (Jvm.Cond.classLink "RaceByLaps" (46 : Nat) "RaceByLaps$Tries") ∈ lw_tbl := tw_tb2 (List.mem_of_getElem? (i := 196) rfl)
theorem kw_437 : (Jvm.Cond.instantiable "RaceByLaps$Tries" (11 : Nat)) ∈ lw_tbl := tw_tb2 (List.mem_of_getElem? (i := 197) rfl)
theorem kw_438 : (Jvm.Cond.methodLink "RaceByLaps" (48 : Nat) ({ cls := "RaceByLaps$Tries", name := "<init>", desc := "(LRaceByLaps$Race;LRaceByLaps$Result;)V" } : Jvm.MethodName)) ∈ lw_tbl := tw_tb2 (List.mem_of_getElem? (i := 198) rfl)
theorem kw_439 : (Jvm.Cond.instanceMethod ({ cls := "RaceByLaps$Tries", name := "<init>", desc := "(LRaceByLaps$Race;LRaceByLaps$Result;)V" } : Jvm.MethodName)) ∈ lw_tbl := tw_tb2 (List.mem_of_getElem? (i := 199) rfl)
theorem kw_440 : (Jvm.Cond.code ({ cls := "RaceByLaps$Tries", name := "<init>", desc := "(LRaceByLaps$Race;LRaceByLaps$Result;)V" } : Jvm.MethodName) prog_12_method_1_code (3 : Nat) (Option.none : Option Jvm.ClassFile.FieldType)) ∈ lw_tbl := tw_tb2 (List.mem_of_getElem? (i := 200) rfl)
theorem kw_441 : (Jvm.Cond.methodLink "RaceByLaps$Tries" (3 : Nat) ({ cls := "java/lang/Object", name := "<init>", desc := "()V" } : Jvm.MethodName)) ∈ lw_tbl := tw_tb2 (List.mem_of_getElem? (i := 201) rfl)
theorem kw_442 : (Jvm.Cond.fieldLink "RaceByLaps$Tries" (9 : Nat) "RaceByLaps$Tries" "race" "LRaceByLaps$Race;") ∈ lw_tbl := tw_tb2 (List.mem_of_getElem? (i := 202) rfl)
theorem kw_443 : (Jvm.Cond.fieldLink "RaceByLaps$Tries" (15 : Nat) "RaceByLaps$Tries" "result" "LRaceByLaps$Result;") ∈ lw_tbl := tw_tb2 (List.mem_of_getElem? (i := 203) rfl)
theorem kw_444 : (Jvm.Cond.fieldLink "RaceByLaps$Tries" (19 : Nat) "RaceByLaps$Tries" "lapOf" "[I") ∈ lw_tbl := tw_tb2 (List.mem_of_getElem? (i := 204) rfl)
theorem kw_445 : (Jvm.Cond.fieldLink "RaceByLaps$Tries" (23 : Nat) "RaceByLaps$Tries" "setOf" "[I") ∈ lw_tbl := tw_tb2 (List.mem_of_getElem? (i := 205) rfl)
theorem kw_446 : (Jvm.Cond.fieldLink "RaceByLaps$Tries" (26 : Nat) "RaceByLaps$Tries" "bestWay" "[I") ∈ lw_tbl := tw_tb2 (List.mem_of_getElem? (i := 206) rfl)
theorem kw_447 : (Jvm.Cond.fieldLink "RaceByLaps" (299 : Nat) "RaceByLaps$Tries" "bestWay" "[I") ∈ lw_tbl := tw_tb2 (List.mem_of_getElem? (i := 207) rfl)
theorem kw_448 : (Jvm.Cond.fieldLink "RaceByLaps$Tries" (100 : Nat) "RaceByLaps$Tries" "bestPlace" "I") ∈ lw_tbl := tw_tb2 (List.mem_of_getElem? (i := 208) rfl)
theorem kw_449 : (Jvm.Cond.fieldLink "RaceByLaps" (302 : Nat) "RaceByLaps$Tries" "bestPlace" "I") ∈ lw_tbl := tw_tb2 (List.mem_of_getElem? (i := 209) rfl)
theorem kw_450 : (Jvm.Cond.fieldLink "RaceByLaps$Tries" (103 : Nat) "RaceByLaps$Tries" "bestSum" "I") ∈ lw_tbl := tw_tb2 (List.mem_of_getElem? (i := 210) rfl)
theorem kw_451 : (Jvm.Cond.fieldLink "RaceByLaps$Tries" (29 : Nat) "RaceByLaps$Tries" "placeOfA" "[I") ∈ lw_tbl := tw_tb2 (List.mem_of_getElem? (i := 211) rfl)
theorem kw_452 : (Jvm.Cond.fieldLink "RaceByLaps$Tries" (32 : Nat) "RaceByLaps$Tries" "sumOfA" "[I") ∈ lw_tbl := tw_tb2 (List.mem_of_getElem? (i := 212) rfl)
theorem kw_453 : (Jvm.Cond.fieldLink "RaceByLaps$Tries" (35 : Nat) "RaceByLaps$Tries" "placeOfB" "[I") ∈ lw_tbl := tw_tb2 (List.mem_of_getElem? (i := 213) rfl)
theorem kw_454 : (Jvm.Cond.fieldLink "RaceByLaps$Tries" (38 : Nat) "RaceByLaps$Tries" "sumOfB" "[I") ∈ lw_tbl := tw_tb2 (List.mem_of_getElem? (i := 214) rfl)
theorem kw_455 : (Jvm.Cond.laysFinal "RaceByLaps$Tries" "RaceByLaps$Tries" "race" "LRaceByLaps$Race;") ∈ lw_tbl := tw_tb2 (List.mem_of_getElem? (i := 215) rfl)
theorem kw_456 : (Jvm.Cond.soleField "RaceByLaps$Tries" "race") ∈ lw_tbl := tw_tb2 (List.mem_of_getElem? (i := 216) rfl)
theorem kw_457 : (Jvm.Cond.laysFinal "RaceByLaps$Tries" "RaceByLaps$Tries" "result" "LRaceByLaps$Result;") ∈ lw_tbl := tw_tb2 (List.mem_of_getElem? (i := 217) rfl)
theorem kw_458 : (Jvm.Cond.soleField "RaceByLaps$Tries" "result") ∈ lw_tbl := tw_tb2 (List.mem_of_getElem? (i := 218) rfl)
theorem kw_459 : (Jvm.Cond.laysFinal "RaceByLaps$Tries" "RaceByLaps$Tries" "lapOf" "[I") ∈ lw_tbl := tw_tb2 (List.mem_of_getElem? (i := 219) rfl)
theorem kw_460 : (Jvm.Cond.soleField "RaceByLaps$Tries" "lapOf") ∈ lw_tbl := tw_tb2 (List.mem_of_getElem? (i := 220) rfl)
theorem kw_461 : (Jvm.Cond.laysFinal "RaceByLaps$Tries" "RaceByLaps$Tries" "setOf" "[I") ∈ lw_tbl := tw_tb2 (List.mem_of_getElem? (i := 221) rfl)
theorem kw_462 : (Jvm.Cond.soleField "RaceByLaps$Tries" "setOf") ∈ lw_tbl := tw_tb2 (List.mem_of_getElem? (i := 222) rfl)
theorem kw_463 : (Jvm.Cond.laysFinal "RaceByLaps$Tries" "RaceByLaps$Tries" "bestWay" "[I") ∈ lw_tbl := tw_tb2 (List.mem_of_getElem? (i := 223) rfl)
theorem kw_464 : (Jvm.Cond.soleField "RaceByLaps$Tries" "bestWay") ∈ lw_tbl := tw_tb2 (List.mem_of_getElem? (i := 224) rfl)
theorem kw_465 : (Jvm.Cond.lays "RaceByLaps$Tries" "RaceByLaps$Tries" "bestPlace" "I") ∈ lw_tbl := tw_tb2 (List.mem_of_getElem? (i := 225) rfl)
theorem kw_466 : (Jvm.Cond.soleField "RaceByLaps$Tries" "bestPlace") ∈ lw_tbl := tw_tb2 (List.mem_of_getElem? (i := 226) rfl)
theorem kw_467 : (Jvm.Cond.lays "RaceByLaps$Tries" "RaceByLaps$Tries" "bestSum" "I") ∈ lw_tbl := tw_tb2 (List.mem_of_getElem? (i := 227) rfl)
theorem kw_468 : (Jvm.Cond.soleField "RaceByLaps$Tries" "bestSum") ∈ lw_tbl := tw_tb2 (List.mem_of_getElem? (i := 228) rfl)
theorem kw_469 : (Jvm.Cond.laysFinal "RaceByLaps$Tries" "RaceByLaps$Tries" "placeOfA" "[I") ∈ lw_tbl := tw_tb2 (List.mem_of_getElem? (i := 229) rfl)
theorem kw_470 : (Jvm.Cond.soleField "RaceByLaps$Tries" "placeOfA") ∈ lw_tbl := tw_tb2 (List.mem_of_getElem? (i := 230) rfl)
theorem kw_471 : (Jvm.Cond.laysFinal "RaceByLaps$Tries" "RaceByLaps$Tries" "sumOfA" "[I") ∈ lw_tbl := tw_tb2 (List.mem_of_getElem? (i := 231) rfl)
theorem kw_472 : (Jvm.Cond.soleField "RaceByLaps$Tries" "sumOfA") ∈ lw_tbl := tw_tb2 (List.mem_of_getElem? (i := 232) rfl)
theorem kw_473 : (Jvm.Cond.laysFinal "RaceByLaps$Tries" "RaceByLaps$Tries" "placeOfB" "[I") ∈ lw_tbl := tw_tb2 (List.mem_of_getElem? (i := 233) rfl)
theorem kw_474 : (Jvm.Cond.soleField "RaceByLaps$Tries" "placeOfB") ∈ lw_tbl := tw_tb2 (List.mem_of_getElem? (i := 234) rfl)
theorem kw_475 : (Jvm.Cond.laysFinal "RaceByLaps$Tries" "RaceByLaps$Tries" "sumOfB" "[I") ∈ lw_tbl := tw_tb2 (List.mem_of_getElem? (i := 235) rfl)
theorem kw_476 : (Jvm.Cond.soleField "RaceByLaps$Tries" "sumOfB") ∈ lw_tbl := tw_tb2 (List.mem_of_getElem? (i := 236) rfl)
theorem kw_477 : (Jvm.Cond.superclass "RaceByLaps$Tries" "java/lang/Object") ∈ lw_tbl := tw_tb2 (List.mem_of_getElem? (i := 237) rfl)
theorem kw_478 : (Jvm.Cond.classLink "RaceByLaps" (55 : Nat) "RaceByLaps$Reader") ∈ lw_tbl := tw_tb2 (List.mem_of_getElem? (i := 238) rfl)
theorem kw_479 : (Jvm.Cond.instantiable "RaceByLaps$Reader" (9 : Nat)) ∈ lw_tbl := tw_tb2 (List.mem_of_getElem? (i := 239) rfl)
theorem kw_480 : (Jvm.Cond.methodLink "RaceByLaps" (57 : Nat) ({ cls := "RaceByLaps$Reader", name := "<init>", desc := "()V" } : Jvm.MethodName)) ∈ lw_tbl := tw_tb3 (List.mem_of_getElem? (i := 0) rfl)
theorem kw_481 : (Jvm.Cond.instanceMethod ({ cls := "RaceByLaps$Reader", name := "<init>", desc := "()V" } : Jvm.MethodName)) ∈ lw_tbl := tw_tb3 (List.mem_of_getElem? (i := 1) rfl)
theorem kw_482 : (Jvm.Cond.code ({ cls := "RaceByLaps$Reader", name := "<init>", desc := "()V" } : Jvm.MethodName) prog_5_method_1_code (1 : Nat) (Option.none : Option Jvm.ClassFile.FieldType)) ∈ lw_tbl := tw_tb3 (List.mem_of_getElem? (i := 2) rfl)
theorem kw_483 : (Jvm.Cond.methodLink "RaceByLaps$Reader" (3 : Nat) ({ cls := "java/lang/Object", name := "<init>", desc := "()V" } : Jvm.MethodName)) ∈ lw_tbl := tw_tb3 (List.mem_of_getElem? (i := 3) rfl)
theorem kw_484 : (Jvm.Cond.fieldLink "RaceByLaps$Reader" (9 : Nat) "RaceByLaps$Reader" "waiting" "[I") ∈ lw_tbl := tw_tb3 (List.mem_of_getElem? (i := 4) rfl)
theorem kw_485 : (Jvm.Cond.fieldLink "RaceByLaps$Reader" (46 : Nat) "RaceByLaps$Reader" "waitingCount" "I") ∈ lw_tbl := tw_tb3 (List.mem_of_getElem? (i := 5) rfl)
theorem kw_486 : (Jvm.Cond.fieldLink "RaceByLaps$Reader" (15 : Nat) "RaceByLaps$Reader" "comparedOutside" "[Z") ∈ lw_tbl := tw_tb3 (List.mem_of_getElem? (i := 6) rfl)
theorem kw_487 : (Jvm.Cond.fieldLink "RaceByLaps$Reader" (49 : Nat) "RaceByLaps$Reader" "depth" "I") ∈ lw_tbl := tw_tb3 (List.mem_of_getElem? (i := 7) rfl)
theorem kw_488 : (Jvm.Cond.fieldLink "RaceByLaps$Reader" (52 : Nat) "RaceByLaps$Reader" "compared" "Z") ∈ lw_tbl := tw_tb3 (List.mem_of_getElem? (i := 8) rfl)
theorem kw_489 : (Jvm.Cond.fieldLink "RaceByLaps$Reader" (43 : Nat) "RaceByLaps$Reader" "digits" "I") ∈ lw_tbl := tw_tb3 (List.mem_of_getElem? (i := 9) rfl)
theorem kw_490 : (Jvm.Cond.fieldLink "RaceByLaps$Reader" (39 : Nat) "RaceByLaps$Reader" "state" "I") ∈ lw_tbl := tw_tb3 (List.mem_of_getElem? (i := 10) rfl)
theorem kw_491 : (Jvm.Cond.fieldLink "RaceByLaps$Reader" (19 : Nat) "RaceByLaps$Reader" "isPlan" "Z") ∈ lw_tbl := tw_tb3 (List.mem_of_getElem? (i := 11) rfl)
theorem kw_492 : (Jvm.Cond.fieldLink "RaceByLaps$Reader" (23 : Nat) "RaceByLaps$Reader" "into" "LRaceByLaps$Text;") ∈ lw_tbl := tw_tb3 (List.mem_of_getElem? (i := 12) rfl)
theorem kw_493 : (Jvm.Cond.laysFinal "RaceByLaps$Reader" "RaceByLaps$Reader" "waiting" "[I") ∈ lw_tbl := tw_tb3 (List.mem_of_getElem? (i := 13) rfl)
theorem kw_494 : (Jvm.Cond.soleField "RaceByLaps$Reader" "waiting") ∈ lw_tbl := tw_tb3 (List.mem_of_getElem? (i := 14) rfl)
theorem kw_495 : (Jvm.Cond.lays "RaceByLaps$Reader" "RaceByLaps$Reader" "waitingCount" "I") ∈ lw_tbl := tw_tb3 (List.mem_of_getElem? (i := 15) rfl)
theorem kw_496 : (Jvm.Cond.soleField "RaceByLaps$Reader" "waitingCount") ∈ lw_tbl := tw_tb3 (List.mem_of_getElem? (i := 16) rfl)
theorem kw_497 : (Jvm.Cond.laysFinal "RaceByLaps$Reader" "RaceByLaps$Reader" "comparedOutside" "[Z") ∈ lw_tbl := tw_tb3 (List.mem_of_getElem? (i := 17) rfl)
theorem kw_498 : (Jvm.Cond.soleField "RaceByLaps$Reader" "comparedOutside") ∈ lw_tbl := tw_tb3 (List.mem_of_getElem? (i := 18) rfl)
theorem kw_499 : (Jvm.Cond.lays "RaceByLaps$Reader" "RaceByLaps$Reader" "depth" "I") ∈ lw_tbl := tw_tb3 (List.mem_of_getElem? (i := 19) rfl)
theorem kw_500 : (Jvm.Cond.soleField "RaceByLaps$Reader" "depth") ∈ lw_tbl := tw_tb3 (List.mem_of_getElem? (i := 20) rfl)
theorem kw_501 : (Jvm.Cond.lays "RaceByLaps$Reader" "RaceByLaps$Reader" "compared" "Z") ∈ lw_tbl := tw_tb3 (List.mem_of_getElem? (i := 21) rfl)
theorem kw_502 : (Jvm.Cond.soleField "RaceByLaps$Reader" "compared") ∈ lw_tbl := tw_tb3 (List.mem_of_getElem? (i := 22) rfl)
theorem kw_503 : (Jvm.Cond.lays "RaceByLaps$Reader" "RaceByLaps$Reader" "digits" "I") ∈ lw_tbl := tw_tb3 (List.mem_of_getElem? (i := 23) rfl)
theorem kw_504 : (Jvm.Cond.soleField "RaceByLaps$Reader" "digits") ∈ lw_tbl := tw_tb3 (List.mem_of_getElem? (i := 24) rfl)
theorem kw_505 : (Jvm.Cond.lays "RaceByLaps$Reader" "RaceByLaps$Reader" "state" "I") ∈ lw_tbl := tw_tb3 (List.mem_of_getElem? (i := 25) rfl)
theorem kw_506 : (Jvm.Cond.soleField "RaceByLaps$Reader" "state") ∈ lw_tbl := tw_tb3 (List.mem_of_getElem? (i := 26) rfl)
theorem kw_507 : (Jvm.Cond.lays "RaceByLaps$Reader" "RaceByLaps$Reader" "isPlan" "Z") ∈ lw_tbl := tw_tb3 (List.mem_of_getElem? (i := 27) rfl)
theorem kw_508 : (Jvm.Cond.soleField "RaceByLaps$Reader" "isPlan") ∈ lw_tbl := tw_tb3 (List.mem_of_getElem? (i := 28) rfl)
theorem kw_509 : (Jvm.Cond.lays "RaceByLaps$Reader" "RaceByLaps$Reader" "into" "LRaceByLaps$Text;") ∈ lw_tbl := tw_tb3 (List.mem_of_getElem? (i := 29) rfl)
theorem kw_510 : (Jvm.Cond.soleField "RaceByLaps$Reader" "into") ∈ lw_tbl := tw_tb3 (List.mem_of_getElem? (i := 30) rfl)
theorem kw_511 : (Jvm.Cond.superclass "RaceByLaps$Reader" "java/lang/Object") ∈ lw_tbl := tw_tb3 (List.mem_of_getElem? (i := 31) rfl)
theorem kw_512 : (Jvm.Cond.classLink "RaceByLaps" (69 : Nat) "RaceByLaps$Text") ∈ lw_tbl := tw_tb3 (List.mem_of_getElem? (i := 32) rfl)
theorem kw_513 : (Jvm.Cond.methodLink "RaceByLaps" (71 : Nat) ({ cls := "RaceByLaps$Text", name := "<init>", desc := "()V" } : Jvm.MethodName)) ∈ lw_tbl := tw_tb3 (List.mem_of_getElem? (i := 33) rfl)
theorem kw_514 : (Jvm.Cond.fieldLink "RaceByLaps" (15 : Nat) "RaceByLaps" "track" "LRaceByLaps$Track;") ∈ lw_tbl := tw_tb3 (List.mem_of_getElem? (i := 34) rfl)
theorem kw_515 : (Jvm.Cond.fieldLink "RaceByLaps" (24 : Nat) "RaceByLaps" "race" "LRaceByLaps$Race;") ∈ lw_tbl := tw_tb3 (List.mem_of_getElem? (i := 35) rfl)
theorem kw_516 : (Jvm.Cond.fieldLink "RaceByLaps" (33 : Nat) "RaceByLaps" "book" "LRaceByLaps$Book;") ∈ lw_tbl := tw_tb3 (List.mem_of_getElem? (i := 36) rfl)
theorem kw_517 : (Jvm.Cond.fieldLink "RaceByLaps" (42 : Nat) "RaceByLaps" "result" "LRaceByLaps$Result;") ∈ lw_tbl := tw_tb3 (List.mem_of_getElem? (i := 37) rfl)
theorem kw_518 : (Jvm.Cond.fieldLink "RaceByLaps" (51 : Nat) "RaceByLaps" "tries" "LRaceByLaps$Tries;") ∈ lw_tbl := tw_tb3 (List.mem_of_getElem? (i := 38) rfl)
theorem kw_519 : (Jvm.Cond.fieldLink "RaceByLaps" (58 : Nat) "RaceByLaps" "reader" "LRaceByLaps$Reader;") ∈ lw_tbl := tw_tb3 (List.mem_of_getElem? (i := 39) rfl)
theorem kw_520 : (Jvm.Cond.fieldLink "RaceByLaps" (62 : Nat) "RaceByLaps" "tape" "[I") ∈ lw_tbl := tw_tb3 (List.mem_of_getElem? (i := 40) rfl)
theorem kw_521 : (Jvm.Cond.fieldLink "RaceByLaps" (218 : Nat) "RaceByLaps" "tapeLength" "I") ∈ lw_tbl := tw_tb3 (List.mem_of_getElem? (i := 41) rfl)
theorem kw_522 : (Jvm.Cond.fieldLink "RaceByLaps" (66 : Nat) "RaceByLaps" "rowNumbers" "[I") ∈ lw_tbl := tw_tb3 (List.mem_of_getElem? (i := 42) rfl)
theorem kw_523 : (Jvm.Cond.fieldLink "RaceByLaps" (215 : Nat) "RaceByLaps" "rowCount" "I") ∈ lw_tbl := tw_tb3 (List.mem_of_getElem? (i := 43) rfl)
theorem kw_524 : (Jvm.Cond.fieldLink "RaceByLaps" (72 : Nat) "RaceByLaps" "spareText" "LRaceByLaps$Text;") ∈ lw_tbl := tw_tb3 (List.mem_of_getElem? (i := 44) rfl)
theorem kw_525 : (Jvm.Cond.laysFinal "RaceByLaps" "RaceByLaps" "track" "LRaceByLaps$Track;") ∈ lw_tbl := tw_tb3 (List.mem_of_getElem? (i := 45) rfl)
theorem kw_526 : (Jvm.Cond.soleField "RaceByLaps" "track") ∈ lw_tbl := tw_tb3 (List.mem_of_getElem? (i := 46) rfl)
theorem kw_527 : (Jvm.Cond.laysFinal "RaceByLaps" "RaceByLaps" "race" "LRaceByLaps$Race;") ∈ lw_tbl := tw_tb3 (List.mem_of_getElem? (i := 47) rfl)
theorem kw_528 : (Jvm.Cond.soleField "RaceByLaps" "race") ∈ lw_tbl := tw_tb3 (List.mem_of_getElem? (i := 48) rfl)
theorem kw_529 : (Jvm.Cond.laysFinal "RaceByLaps" "RaceByLaps" "book" "LRaceByLaps$Book;") ∈ lw_tbl := tw_tb3 (List.mem_of_getElem? (i := 49) rfl)
theorem kw_530 : (Jvm.Cond.soleField "RaceByLaps" "book") ∈ lw_tbl := tw_tb3 (List.mem_of_getElem? (i := 50) rfl)
theorem kw_531 : (Jvm.Cond.laysFinal "RaceByLaps" "RaceByLaps" "result" "LRaceByLaps$Result;") ∈ lw_tbl := tw_tb3 (List.mem_of_getElem? (i := 51) rfl)
theorem kw_532 : (Jvm.Cond.soleField "RaceByLaps" "result") ∈ lw_tbl := tw_tb3 (List.mem_of_getElem? (i := 52) rfl)
theorem kw_533 : (Jvm.Cond.laysFinal "RaceByLaps" "RaceByLaps" "tries" "LRaceByLaps$Tries;") ∈ lw_tbl := tw_tb3 (List.mem_of_getElem? (i := 53) rfl)
theorem kw_534 : (Jvm.Cond.soleField "RaceByLaps" "tries") ∈ lw_tbl := tw_tb3 (List.mem_of_getElem? (i := 54) rfl)
theorem kw_535 : (Jvm.Cond.laysFinal "RaceByLaps" "RaceByLaps" "reader" "LRaceByLaps$Reader;") ∈ lw_tbl := tw_tb3 (List.mem_of_getElem? (i := 55) rfl)
theorem kw_536 : (Jvm.Cond.soleField "RaceByLaps" "reader") ∈ lw_tbl := tw_tb3 (List.mem_of_getElem? (i := 56) rfl)
theorem kw_537 : (Jvm.Cond.laysFinal "RaceByLaps" "RaceByLaps" "tape" "[I") ∈ lw_tbl := tw_tb3 (List.mem_of_getElem? (i := 57) rfl)
theorem kw_538 : (Jvm.Cond.soleField "RaceByLaps" "tape") ∈ lw_tbl := tw_tb3 (List.mem_of_getElem? (i := 58) rfl)
theorem kw_539 : (Jvm.Cond.lays "RaceByLaps" "RaceByLaps" "tapeLength" "I") ∈ lw_tbl := tw_tb3 (List.mem_of_getElem? (i := 59) rfl)
theorem kw_540 : (Jvm.Cond.soleField "RaceByLaps" "tapeLength") ∈ lw_tbl := tw_tb3 (List.mem_of_getElem? (i := 60) rfl)
theorem kw_541 : (Jvm.Cond.laysFinal "RaceByLaps" "RaceByLaps" "rowNumbers" "[I") ∈ lw_tbl := tw_tb3 (List.mem_of_getElem? (i := 61) rfl)
theorem kw_542 : (Jvm.Cond.soleField "RaceByLaps" "rowNumbers") ∈ lw_tbl := tw_tb3 (List.mem_of_getElem? (i := 62) rfl)
theorem kw_543 : (Jvm.Cond.lays "RaceByLaps" "RaceByLaps" "rowCount" "I") ∈ lw_tbl := tw_tb3 (List.mem_of_getElem? (i := 63) rfl)
theorem kw_544 : (Jvm.Cond.soleField "RaceByLaps" "rowCount") ∈ lw_tbl := tw_tb3 (List.mem_of_getElem? (i := 64) rfl)
theorem kw_545 : (Jvm.Cond.lays "RaceByLaps" "RaceByLaps" "spareText" "LRaceByLaps$Text;") ∈ lw_tbl := tw_tb3 (List.mem_of_getElem? (i := 65) rfl)
theorem kw_546 : (Jvm.Cond.soleField "RaceByLaps" "spareText") ∈ lw_tbl := tw_tb3 (List.mem_of_getElem? (i := 66) rfl)
theorem kw_547 : (Jvm.Cond.superclass "RaceByLaps" "java/lang/Object") ∈ lw_tbl := tw_tb3 (List.mem_of_getElem? (i := 67) rfl)
theorem kw_548 : (Jvm.Cond.methodLink "RaceByLapsLaw" (26 : Nat) ({ cls := "RaceByLaps", name := "track", desc := "(II)Z" } : Jvm.MethodName)) ∈ lw_tbl := tw_tb3 (List.mem_of_getElem? (i := 68) rfl)
theorem kw_549 : (Jvm.Cond.instanceMethod ({ cls := "RaceByLaps", name := "track", desc := "(II)Z" } : Jvm.MethodName)) ∈ lw_tbl := tw_tb3 (List.mem_of_getElem? (i := 69) rfl)
theorem kw_550 : (Jvm.Cond.selects "RaceByLaps" ({ cls := "RaceByLaps", name := "track", desc := "(II)Z" } : Jvm.MethodName) ({ cls := "RaceByLaps", name := "track", desc := "(II)Z" } : Jvm.MethodName)) ∈ lw_tbl := tw_tb3 (List.mem_of_getElem? (i := 70) rfl)
theorem kw_551 : (Jvm.Cond.code ({ cls := "RaceByLaps", name := "track", desc := "(II)Z" } : Jvm.MethodName) prog_1_method_2_code (3 : Nat) (Option.some Jvm.ClassFile.FieldType.boolean)) ∈ lw_tbl := tw_tb3 (List.mem_of_getElem? (i := 71) rfl)
theorem kw_552 : (Jvm.Cond.methodLink "RaceByLaps" (76 : Nat) ({ cls := "RaceByLaps$Track", name := "layAnew", desc := "(II)V" } : Jvm.MethodName)) ∈ lw_tbl := tw_tb3 (List.mem_of_getElem? (i := 72) rfl)
theorem kw_553 : (Jvm.Cond.methodLink "RaceByLapsLaw" (31 : Nat) ({ cls := "RaceByLaps", name := "sector", desc := "(III)Z" } : Jvm.MethodName)) ∈ lw_tbl := tw_tb3 (List.mem_of_getElem? (i := 73) rfl)
theorem kw_554 : (Jvm.Cond.instanceMethod ({ cls := "RaceByLaps", name := "sector", desc := "(III)Z" } : Jvm.MethodName)) ∈ lw_tbl := tw_tb3 (List.mem_of_getElem? (i := 74) rfl)
theorem kw_555 : (Jvm.Cond.selects "RaceByLaps" ({ cls := "RaceByLaps", name := "sector", desc := "(III)Z" } : Jvm.MethodName) ({ cls := "RaceByLaps", name := "sector", desc := "(III)Z" } : Jvm.MethodName)) ∈ lw_tbl := tw_tb3 (List.mem_of_getElem? (i := 75) rfl)
theorem kw_556 : (Jvm.Cond.code ({ cls := "RaceByLaps", name := "sector", desc := "(III)Z" } : Jvm.MethodName) prog_1_method_3_code (4 : Nat) (Option.some Jvm.ClassFile.FieldType.boolean)) ∈ lw_tbl := tw_tb3 (List.mem_of_getElem? (i := 76) rfl)
theorem kw_557 : (Jvm.Cond.methodLink "RaceByLaps" (100 : Nat) ({ cls := "RaceByLaps$Track", name := "hasSector", desc := "(I)Z" } : Jvm.MethodName)) ∈ lw_tbl := tw_tb3 (List.mem_of_getElem? (i := 77) rfl)
theorem kw_558 : (Jvm.Cond.instanceMethod ({ cls := "RaceByLaps$Track", name := "hasSector", desc := "(I)Z" } : Jvm.MethodName)) ∈ lw_tbl := tw_tb3 (List.mem_of_getElem? (i := 78) rfl)
theorem kw_559 : (Jvm.Cond.selects "RaceByLaps$Track" ({ cls := "RaceByLaps$Track", name := "hasSector", desc := "(I)Z" } : Jvm.MethodName) ({ cls := "RaceByLaps$Track", name := "hasSector", desc := "(I)Z" } : Jvm.MethodName)) ∈ lw_tbl := tw_tb3 (List.mem_of_getElem? (i := 79) rfl)
theorem kw_560 : (Jvm.Cond.code ({ cls := "RaceByLaps$Track", name := "hasSector", desc := "(I)Z" } : Jvm.MethodName) prog_11_method_3_code (2 : Nat) (Option.some Jvm.ClassFile.FieldType.boolean)) ∈ lw_tbl := tw_tb3 (List.mem_of_getElem? (i := 80) rfl)
theorem kw_561 : (Jvm.Cond.methodLinkNest "RaceByLaps$Track" (59 : Nat) ({ cls := "RaceByLaps", name := "isIndex", desc := "(II)Z" } : Jvm.MethodName) "RaceByLaps") ∈ lw_tbl := tw_tb3 (List.mem_of_getElem? (i := 81) rfl)
theorem kw_562 : (Jvm.Cond.static ({ cls := "RaceByLaps", name := "isIndex", desc := "(II)Z" } : Jvm.MethodName)) ∈ lw_tbl := tw_tb3 (List.mem_of_getElem? (i := 82) rfl)
theorem kw_563 : (Jvm.Cond.code ({ cls := "RaceByLaps", name := "isIndex", desc := "(II)Z" } : Jvm.MethodName) prog_1_method_44_code (2 : Nat) (Option.some Jvm.ClassFile.FieldType.boolean)) ∈ lw_tbl := tw_tb3 (List.mem_of_getElem? (i := 83) rfl)
theorem kw_564 : (Jvm.Cond.constant "RaceByLaps" (104 : Nat) (60000 : Int32)) ∈ lw_tbl := tw_tb3 (List.mem_of_getElem? (i := 84) rfl)
theorem kw_565 : (Jvm.Cond.methodLink "RaceByLaps" (105 : Nat) ({ cls := "RaceByLaps", name := "isWithin", desc := "(III)Z" } : Jvm.MethodName)) ∈ lw_tbl := tw_tb3 (List.mem_of_getElem? (i := 85) rfl)
theorem kw_566 : (Jvm.Cond.static ({ cls := "RaceByLaps", name := "isWithin", desc := "(III)Z" } : Jvm.MethodName)) ∈ lw_tbl := tw_tb3 (List.mem_of_getElem? (i := 86) rfl)
theorem kw_567 : (Jvm.Cond.code ({ cls := "RaceByLaps", name := "isWithin", desc := "(III)Z" } : Jvm.MethodName) prog_1_method_43_code (3 : Nat) (Option.some Jvm.ClassFile.FieldType.boolean)) ∈ lw_tbl := tw_tb3 (List.mem_of_getElem? (i := 87) rfl)
theorem kw_568 : (Jvm.Cond.methodLink "RaceByLapsLaw" (36 : Nat) ({ cls := "RaceByLaps", name := "tyres", desc := "(III)I" } : Jvm.MethodName)) ∈ lw_tbl := tw_tb3 (List.mem_of_getElem? (i := 88) rfl)
theorem kw_569 : (Jvm.Cond.instanceMethod ({ cls := "RaceByLaps", name := "tyres", desc := "(III)I" } : Jvm.MethodName)) ∈ lw_tbl := tw_tb3 (List.mem_of_getElem? (i := 89) rfl)
theorem kw_570 : (Jvm.Cond.selects "RaceByLaps" ({ cls := "RaceByLaps", name := "tyres", desc := "(III)I" } : Jvm.MethodName) ({ cls := "RaceByLaps", name := "tyres", desc := "(III)I" } : Jvm.MethodName)) ∈ lw_tbl := tw_tb3 (List.mem_of_getElem? (i := 90) rfl)
theorem kw_571 : (Jvm.Cond.code ({ cls := "RaceByLaps", name := "tyres", desc := "(III)I" } : Jvm.MethodName) prog_1_method_4_code (5 : Nat) (Option.some Jvm.ClassFile.FieldType.int)) ∈ lw_tbl := tw_tb3 (List.mem_of_getElem? (i := 91) rfl)
theorem kw_572 : (Jvm.Cond.methodLink "RaceByLaps" (115 : Nat) ({ cls := "RaceByLaps", name := "isIndex", desc := "(II)Z" } : Jvm.MethodName)) ∈ lw_tbl := tw_tb3 (List.mem_of_getElem? (i := 92) rfl)
theorem kw_573 : (Jvm.Cond.fieldLink "RaceByLaps" (119 : Nat) "RaceByLaps" "TYRES_MOST" "[I") ∈ lw_tbl := tw_tb3 (List.mem_of_getElem? (i := 93) rfl)
theorem kw_574 : (Jvm.Cond.laysStatic "RaceByLaps" "TYRES_MOST" "[I") ∈ lw_tbl := tw_tb3 (List.mem_of_getElem? (i := 94) rfl)
theorem kw_575 : (Jvm.Cond.methodLink "RaceByLaps" (122 : Nat) ({ cls := "RaceByLaps$Track", name := "tyreNumber", desc := "(II)I" } : Jvm.MethodName)) ∈ lw_tbl := tw_tb3 (List.mem_of_getElem? (i := 95) rfl)
theorem kw_576 : (Jvm.Cond.instanceMethod ({ cls := "RaceByLaps$Track", name := "tyreNumber", desc := "(II)I" } : Jvm.MethodName)) ∈ lw_tbl := tw_tb3 (List.mem_of_getElem? (i := 96) rfl)
theorem kw_577 : (Jvm.Cond.selects "RaceByLaps$Track" ({ cls := "RaceByLaps$Track", name := "tyreNumber", desc := "(II)I" } : Jvm.MethodName) ({ cls := "RaceByLaps$Track", name := "tyreNumber", desc := "(II)I" } : Jvm.MethodName)) ∈ lw_tbl := tw_tb3 (List.mem_of_getElem? (i := 97) rfl)
theorem kw_578 : (Jvm.Cond.code ({ cls := "RaceByLaps$Track", name := "tyreNumber", desc := "(II)I" } : Jvm.MethodName) prog_11_method_9_code (3 : Nat) (Option.some Jvm.ClassFile.FieldType.int)) ∈ lw_tbl := tw_tb3 (List.mem_of_getElem? (i := 98) rfl)
theorem kw_579 : (Jvm.Cond.methodLink "RaceByLapsLaw" (41 : Nat) ({ cls := "RaceByLaps", name := "set", desc := "(II)I" } : Jvm.MethodName)) ∈ lw_tbl := tw_tb3 (List.mem_of_getElem? (i := 99) rfl)
theorem kw_580 : (Jvm.Cond.instanceMethod ({ cls := "RaceByLaps", name := "set", desc := "(II)I" } : Jvm.MethodName)) ∈ lw_tbl := tw_tb3 (List.mem_of_getElem? (i := 100) rfl)
theorem kw_581 : (Jvm.Cond.selects "RaceByLaps" ({ cls := "RaceByLaps", name := "set", desc := "(II)I" } : Jvm.MethodName) ({ cls := "RaceByLaps", name := "set", desc := "(II)I" } : Jvm.MethodName)) ∈ lw_tbl := tw_tb3 (List.mem_of_getElem? (i := 101) rfl)
theorem kw_582 : (Jvm.Cond.code ({ cls := "RaceByLaps", name := "set", desc := "(II)I" } : Jvm.MethodName) prog_1_method_5_code (4 : Nat) (Option.some Jvm.ClassFile.FieldType.int)) ∈ lw_tbl := tw_tb3 (List.mem_of_getElem? (i := 102) rfl)
theorem kw_583 : (Jvm.Cond.fieldLink "RaceByLaps" (129 : Nat) "RaceByLaps" "NUMBERS_LEAST" "[I") ∈ lw_tbl := tw_tb3 (List.mem_of_getElem? (i := 103) rfl)
theorem kw_584 : (Jvm.Cond.laysStatic "RaceByLaps" "NUMBERS_LEAST" "[I") ∈ lw_tbl := tw_tb3 (List.mem_of_getElem? (i := 104) rfl)
theorem kw_585 : (Jvm.Cond.fieldLink "RaceByLaps" (132 : Nat) "RaceByLaps" "NUMBERS_MOST" "[I") ∈ lw_tbl := tw_tb3 (List.mem_of_getElem? (i := 105) rfl)
theorem kw_586 : (Jvm.Cond.laysStatic "RaceByLaps" "NUMBERS_MOST" "[I") ∈ lw_tbl := tw_tb3 (List.mem_of_getElem? (i := 106) rfl)
theorem kw_587 : (Jvm.Cond.methodLink "RaceByLapsLaw" (45 : Nat) ({ cls := "RaceByLaps", name := "rain", desc := "(III)I" } : Jvm.MethodName)) ∈ lw_tbl := tw_tb3 (List.mem_of_getElem? (i := 107) rfl)
theorem kw_588 : (Jvm.Cond.instanceMethod ({ cls := "RaceByLaps", name := "rain", desc := "(III)I" } : Jvm.MethodName)) ∈ lw_tbl := tw_tb3 (List.mem_of_getElem? (i := 108) rfl)
theorem kw_589 : (Jvm.Cond.selects "RaceByLaps" ({ cls := "RaceByLaps", name := "rain", desc := "(III)I" } : Jvm.MethodName) ({ cls := "RaceByLaps", name := "rain", desc := "(III)I" } : Jvm.MethodName)) ∈ lw_tbl := tw_tb3 (List.mem_of_getElem? (i := 109) rfl)
theorem kw_590 : (Jvm.Cond.code ({ cls := "RaceByLaps", name := "rain", desc := "(III)I" } : Jvm.MethodName) prog_1_method_6_code (4 : Nat) (Option.some Jvm.ClassFile.FieldType.int)) ∈ lw_tbl := tw_tb3 (List.mem_of_getElem? (i := 110) rfl)
theorem kw_591 : (Jvm.Cond.methodLink "RaceByLaps" (141 : Nat) ({ cls := "RaceByLaps$Table", name := "push", desc := "(IIII)I" } : Jvm.MethodName)) ∈ lw_tbl := tw_tb3 (List.mem_of_getElem? (i := 111) rfl)
theorem kw_592 : (Jvm.Cond.instanceMethod ({ cls := "RaceByLaps$Table", name := "push", desc := "(IIII)I" } : Jvm.MethodName)) ∈ lw_tbl := tw_tb3 (List.mem_of_getElem? (i := 112) rfl)
theorem kw_593 : (Jvm.Cond.selects "RaceByLaps$Table" ({ cls := "RaceByLaps$Table", name := "push", desc := "(IIII)I" } : Jvm.MethodName) ({ cls := "RaceByLaps$Table", name := "push", desc := "(IIII)I" } : Jvm.MethodName)) ∈ lw_tbl := tw_tb3 (List.mem_of_getElem? (i := 113) rfl)
theorem kw_594 : (Jvm.Cond.code ({ cls := "RaceByLaps$Table", name := "push", desc := "(IIII)I" } : Jvm.MethodName) prog_9_method_5_code (5 : Nat) (Option.some Jvm.ClassFile.FieldType.int)) ∈ lw_tbl := tw_tb3 (List.mem_of_getElem? (i := 114) rfl)
theorem kw_595 : (Jvm.Cond.methodLink "RaceByLaps$Table" (31 : Nat) ({ cls := "RaceByLaps$Table", name := "isFull", desc := "()Z" } : Jvm.MethodName)) ∈ lw_tbl := tw_tb3 (List.mem_of_getElem? (i := 115) rfl)
theorem kw_596 : (Jvm.Cond.instanceMethod ({ cls := "RaceByLaps$Table", name := "isFull", desc := "()Z" } : Jvm.MethodName)) ∈ lw_tbl := tw_tb3 (List.mem_of_getElem? (i := 116) rfl)
theorem kw_597 : (Jvm.Cond.selects "RaceByLaps$Table" ({ cls := "RaceByLaps$Table", name := "isFull", desc := "()Z" } : Jvm.MethodName) ({ cls := "RaceByLaps$Table", name := "isFull", desc := "()Z" } : Jvm.MethodName)) ∈ lw_tbl := tw_tb3 (List.mem_of_getElem? (i := 117) rfl)
theorem kw_598 : (Jvm.Cond.code ({ cls := "RaceByLaps$Table", name := "isFull", desc := "()Z" } : Jvm.MethodName) prog_9_method_2_code (1 : Nat) (Option.some Jvm.ClassFile.FieldType.boolean)) ∈ lw_tbl := tw_tb3 (List.mem_of_getElem? (i := 118) rfl)
theorem kw_599 : (Jvm.Cond.methodLink "RaceByLaps$Table" (35 : Nat) ({ cls := "RaceByLaps$Table", name := "put", desc := "(III)V" } : Jvm.MethodName)) ∈ lw_tbl := tw_tb3 (List.mem_of_getElem? (i := 119) rfl)
theorem kw_600 : (Jvm.Cond.instanceMethod ({ cls := "RaceByLaps$Table", name := "put", desc := "(III)V" } : Jvm.MethodName)) ∈ lw_tbl := tw_tb3 (List.mem_of_getElem? (i := 120) rfl)
theorem kw_601 : (Jvm.Cond.selects "RaceByLaps$Table" ({ cls := "RaceByLaps$Table", name := "put", desc := "(III)V" } : Jvm.MethodName) ({ cls := "RaceByLaps$Table", name := "put", desc := "(III)V" } : Jvm.MethodName)) ∈ lw_tbl := tw_tb3 (List.mem_of_getElem? (i := 121) rfl)
theorem kw_602 : (Jvm.Cond.code ({ cls := "RaceByLaps$Table", name := "put", desc := "(III)V" } : Jvm.MethodName) prog_9_method_4_code (4 : Nat) (Option.none : Option Jvm.ClassFile.FieldType)) ∈ lw_tbl := tw_tb3 (List.mem_of_getElem? (i := 122) rfl)
theorem kw_603 : (Jvm.Cond.methodLink "RaceByLapsLaw" (49 : Nat) ({ cls := "RaceByLaps", name := "flag", desc := "(IIII)I" } : Jvm.MethodName)) ∈ lw_tbl := tw_tb3 (List.mem_of_getElem? (i := 123) rfl)
theorem kw_604 : (Jvm.Cond.instanceMethod ({ cls := "RaceByLaps", name := "flag", desc := "(IIII)I" } : Jvm.MethodName)) ∈ lw_tbl := tw_tb3 (List.mem_of_getElem? (i := 124) rfl)
theorem kw_605 : (Jvm.Cond.selects "RaceByLaps" ({ cls := "RaceByLaps", name := "flag", desc := "(IIII)I" } : Jvm.MethodName) ({ cls := "RaceByLaps", name := "flag", desc := "(IIII)I" } : Jvm.MethodName)) ∈ lw_tbl := tw_tb3 (List.mem_of_getElem? (i := 125) rfl)
theorem kw_606 : (Jvm.Cond.code ({ cls := "RaceByLaps", name := "flag", desc := "(IIII)I" } : Jvm.MethodName) prog_1_method_7_code (5 : Nat) (Option.some Jvm.ClassFile.FieldType.int)) ∈ lw_tbl := tw_tb3 (List.mem_of_getElem? (i := 126) rfl)
theorem kw_607 : (Jvm.Cond.methodLink "RaceByLapsLaw" (54 : Nat) ({ cls := "RaceByLaps", name := "car", desc := "(IIIIII)I" } : Jvm.MethodName)) ∈ lw_tbl := tw_tb3 (List.mem_of_getElem? (i := 127) rfl)
theorem kw_608 : (Jvm.Cond.instanceMethod ({ cls := "RaceByLaps", name := "car", desc := "(IIIIII)I" } : Jvm.MethodName)) ∈ lw_tbl := tw_tb3 (List.mem_of_getElem? (i := 128) rfl)
theorem kw_609 : (Jvm.Cond.selects "RaceByLaps" ({ cls := "RaceByLaps", name := "car", desc := "(IIIIII)I" } : Jvm.MethodName) ({ cls := "RaceByLaps", name := "car", desc := "(IIIIII)I" } : Jvm.MethodName)) ∈ lw_tbl := tw_tb3 (List.mem_of_getElem? (i := 129) rfl)
theorem kw_610 : (Jvm.Cond.code ({ cls := "RaceByLaps", name := "car", desc := "(IIIIII)I" } : Jvm.MethodName) prog_1_method_8_code (8 : Nat) (Option.some Jvm.ClassFile.FieldType.int)) ∈ lw_tbl := tw_tb3 (List.mem_of_getElem? (i := 130) rfl)
theorem kw_611 : (Jvm.Cond.methodLink "RaceByLaps" (152 : Nat) ({ cls := "RaceByLaps$Car", name := "forget", desc := "()V" } : Jvm.MethodName)) ∈ lw_tbl := tw_tb3 (List.mem_of_getElem? (i := 131) rfl)
theorem kw_612 : (Jvm.Cond.instanceMethod ({ cls := "RaceByLaps$Car", name := "forget", desc := "()V" } : Jvm.MethodName)) ∈ lw_tbl := tw_tb3 (List.mem_of_getElem? (i := 132) rfl)
theorem kw_613 : (Jvm.Cond.selects "RaceByLaps$Car" ({ cls := "RaceByLaps$Car", name := "forget", desc := "()V" } : Jvm.MethodName) ({ cls := "RaceByLaps$Car", name := "forget", desc := "()V" } : Jvm.MethodName)) ∈ lw_tbl := tw_tb3 (List.mem_of_getElem? (i := 133) rfl)
theorem kw_614 : (Jvm.Cond.code ({ cls := "RaceByLaps$Car", name := "forget", desc := "()V" } : Jvm.MethodName) prog_3_method_2_code (1 : Nat) (Option.none : Option Jvm.ClassFile.FieldType)) ∈ lw_tbl := tw_tb3 (List.mem_of_getElem? (i := 134) rfl)
theorem kw_615 : (Jvm.Cond.methodLink "RaceByLapsLaw" (59 : Nat) ({ cls := "RaceByLaps", name := "tyre", desc := "(III)I" } : Jvm.MethodName)) ∈ lw_tbl := tw_tb3 (List.mem_of_getElem? (i := 135) rfl)
theorem kw_616 : (Jvm.Cond.instanceMethod ({ cls := "RaceByLaps", name := "tyre", desc := "(III)I" } : Jvm.MethodName)) ∈ lw_tbl := tw_tb3 (List.mem_of_getElem? (i := 136) rfl)
theorem kw_617 : (Jvm.Cond.selects "RaceByLaps" ({ cls := "RaceByLaps", name := "tyre", desc := "(III)I" } : Jvm.MethodName) ({ cls := "RaceByLaps", name := "tyre", desc := "(III)I" } : Jvm.MethodName)) ∈ lw_tbl := tw_tb3 (List.mem_of_getElem? (i := 137) rfl)
theorem kw_618 : (Jvm.Cond.code ({ cls := "RaceByLaps", name := "tyre", desc := "(III)I" } : Jvm.MethodName) prog_1_method_9_code (5 : Nat) (Option.some Jvm.ClassFile.FieldType.int)) ∈ lw_tbl := tw_tb3 (List.mem_of_getElem? (i := 138) rfl)
theorem kw_619 : (Jvm.Cond.methodLink "RaceByLaps" (175 : Nat) ({ cls := "RaceByLaps$Race", name := "has", desc := "(I)Z" } : Jvm.MethodName)) ∈ lw_tbl := tw_tb3 (List.mem_of_getElem? (i := 139) rfl)
theorem kw_620 : (Jvm.Cond.instanceMethod ({ cls := "RaceByLaps$Race", name := "has", desc := "(I)Z" } : Jvm.MethodName)) ∈ lw_tbl := tw_tb3 (List.mem_of_getElem? (i := 140) rfl)
theorem kw_621 : (Jvm.Cond.selects "RaceByLaps$Race" ({ cls := "RaceByLaps$Race", name := "has", desc := "(I)Z" } : Jvm.MethodName) ({ cls := "RaceByLaps$Race", name := "has", desc := "(I)Z" } : Jvm.MethodName)) ∈ lw_tbl := tw_tb3 (List.mem_of_getElem? (i := 141) rfl)
theorem kw_622 : (Jvm.Cond.code ({ cls := "RaceByLaps$Race", name := "has", desc := "(I)Z" } : Jvm.MethodName) prog_4_method_2_code (2 : Nat) (Option.some Jvm.ClassFile.FieldType.boolean)) ∈ lw_tbl := tw_tb3 (List.mem_of_getElem? (i := 142) rfl)
theorem kw_623 : (Jvm.Cond.methodLinkNest "RaceByLaps$Race" (41 : Nat) ({ cls := "RaceByLaps", name := "isIndex", desc := "(II)Z" } : Jvm.MethodName) "RaceByLaps") ∈ lw_tbl := tw_tb3 (List.mem_of_getElem? (i := 143) rfl)
theorem kw_624 : (Jvm.Cond.methodLink "RaceByLaps" (181 : Nat) ({ cls := "RaceByLaps$Table", name := "isFull", desc := "()Z" } : Jvm.MethodName)) ∈ lw_tbl := tw_tb3 (List.mem_of_getElem? (i := 144) rfl)
theorem kw_625 : (Jvm.Cond.methodLink "RaceByLapsLaw" (63 : Nat) ({ cls := "RaceByLaps", name := "order", desc := "(IIII)I" } : Jvm.MethodName)) ∈ lw_tbl := tw_tb3 (List.mem_of_getElem? (i := 145) rfl)
theorem kw_626 : (Jvm.Cond.instanceMethod ({ cls := "RaceByLaps", name := "order", desc := "(IIII)I" } : Jvm.MethodName)) ∈ lw_tbl := tw_tb3 (List.mem_of_getElem? (i := 146) rfl)
theorem kw_627 : (Jvm.Cond.selects "RaceByLaps" ({ cls := "RaceByLaps", name := "order", desc := "(IIII)I" } : Jvm.MethodName) ({ cls := "RaceByLaps", name := "order", desc := "(IIII)I" } : Jvm.MethodName)) ∈ lw_tbl := tw_tb3 (List.mem_of_getElem? (i := 147) rfl)
theorem kw_628 : (Jvm.Cond.code ({ cls := "RaceByLaps", name := "order", desc := "(IIII)I" } : Jvm.MethodName) prog_1_method_10_code (5 : Nat) (Option.some Jvm.ClassFile.FieldType.int)) ∈ lw_tbl := tw_tb3 (List.mem_of_getElem? (i := 148) rfl)
theorem kw_629 : (Jvm.Cond.methodLink "RaceByLapsLaw" (67 : Nat) ({ cls := "RaceByLaps", name := "stop", desc := "(IIII)I" } : Jvm.MethodName)) ∈ lw_tbl := tw_tb3 (List.mem_of_getElem? (i := 149) rfl)
theorem kw_630 : (Jvm.Cond.instanceMethod ({ cls := "RaceByLaps", name := "stop", desc := "(IIII)I" } : Jvm.MethodName)) ∈ lw_tbl := tw_tb3 (List.mem_of_getElem? (i := 150) rfl)
theorem kw_631 : (Jvm.Cond.selects "RaceByLaps" ({ cls := "RaceByLaps", name := "stop", desc := "(IIII)I" } : Jvm.MethodName) ({ cls := "RaceByLaps", name := "stop", desc := "(IIII)I" } : Jvm.MethodName)) ∈ lw_tbl := tw_tb3 (List.mem_of_getElem? (i := 151) rfl)
theorem kw_632 : (Jvm.Cond.code ({ cls := "RaceByLaps", name := "stop", desc := "(IIII)I" } : Jvm.MethodName) prog_1_method_11_code (5 : Nat) (Option.some Jvm.ClassFile.FieldType.int)) ∈ lw_tbl := tw_tb3 (List.mem_of_getElem? (i := 152) rfl)
theorem kw_633 : (Jvm.Cond.methodLink "RaceByLapsLaw" (71 : Nat) ({ cls := "RaceByLaps", name := "drop", desc := "(II)I" } : Jvm.MethodName)) ∈ lw_tbl := tw_tb3 (List.mem_of_getElem? (i := 153) rfl)
theorem kw_634 : (Jvm.Cond.instanceMethod ({ cls := "RaceByLaps", name := "drop", desc := "(II)I" } : Jvm.MethodName)) ∈ lw_tbl := tw_tb3 (List.mem_of_getElem? (i := 154) rfl)
theorem kw_635 : (Jvm.Cond.selects "RaceByLaps" ({ cls := "RaceByLaps", name := "drop", desc := "(II)I" } : Jvm.MethodName) ({ cls := "RaceByLaps", name := "drop", desc := "(II)I" } : Jvm.MethodName)) ∈ lw_tbl := tw_tb3 (List.mem_of_getElem? (i := 155) rfl)
theorem kw_636 : (Jvm.Cond.code ({ cls := "RaceByLaps", name := "drop", desc := "(II)I" } : Jvm.MethodName) prog_1_method_12_code (3 : Nat) (Option.some Jvm.ClassFile.FieldType.int)) ∈ lw_tbl := tw_tb3 (List.mem_of_getElem? (i := 156) rfl)
theorem kw_637 : (Jvm.Cond.methodLink "RaceByLaps" (194 : Nat) ({ cls := "RaceByLaps$Table", name := "removeAt", desc := "(I)I" } : Jvm.MethodName)) ∈ lw_tbl := tw_tb3 (List.mem_of_getElem? (i := 157) rfl)
theorem kw_638 : (Jvm.Cond.instanceMethod ({ cls := "RaceByLaps$Table", name := "removeAt", desc := "(I)I" } : Jvm.MethodName)) ∈ lw_tbl := tw_tb3 (List.mem_of_getElem? (i := 158) rfl)
theorem kw_639 : (Jvm.Cond.selects "RaceByLaps$Table" ({ cls := "RaceByLaps$Table", name := "removeAt", desc := "(I)I" } : Jvm.MethodName) ({ cls := "RaceByLaps$Table", name := "removeAt", desc := "(I)I" } : Jvm.MethodName)) ∈ lw_tbl := tw_tb3 (List.mem_of_getElem? (i := 159) rfl)
theorem kw_640 : (Jvm.Cond.code ({ cls := "RaceByLaps$Table", name := "removeAt", desc := "(I)I" } : Jvm.MethodName) prog_9_method_6_code (4 : Nat) (Option.some Jvm.ClassFile.FieldType.int)) ∈ lw_tbl := tw_tb3 (List.mem_of_getElem? (i := 160) rfl)
theorem kw_641 : (Jvm.Cond.methodLink "RaceByLaps$Table" (39 : Nat) ({ cls := "RaceByLaps$Table", name := "cell", desc := "(II)I" } : Jvm.MethodName)) ∈ lw_tbl := tw_tb3 (List.mem_of_getElem? (i := 161) rfl)
theorem kw_642 : (Jvm.Cond.instanceMethod ({ cls := "RaceByLaps$Table", name := "cell", desc := "(II)I" } : Jvm.MethodName)) ∈ lw_tbl := tw_tb3 (List.mem_of_getElem? (i := 162) rfl)
theorem kw_643 : (Jvm.Cond.selects "RaceByLaps$Table" ({ cls := "RaceByLaps$Table", name := "cell", desc := "(II)I" } : Jvm.MethodName) ({ cls := "RaceByLaps$Table", name := "cell", desc := "(II)I" } : Jvm.MethodName)) ∈ lw_tbl := tw_tb3 (List.mem_of_getElem? (i := 163) rfl)
theorem kw_644 : (Jvm.Cond.code ({ cls := "RaceByLaps$Table", name := "cell", desc := "(II)I" } : Jvm.MethodName) prog_9_method_3_code (3 : Nat) (Option.some Jvm.ClassFile.FieldType.int)) ∈ lw_tbl := tw_tb3 (List.mem_of_getElem? (i := 164) rfl)
theorem kw_645 : (Jvm.Cond.methodLink "RaceByLapsLaw" (75 : Nat) ({ cls := "RaceByLaps", name := "plan", desc := "(I)I" } : Jvm.MethodName)) ∈ lw_tbl := tw_tb3 (List.mem_of_getElem? (i := 165) rfl)
theorem kw_646 : (Jvm.Cond.instanceMethod ({ cls := "RaceByLaps", name := "plan", desc := "(I)I" } : Jvm.MethodName)) ∈ lw_tbl := tw_tb3 (List.mem_of_getElem? (i := 166) rfl)
theorem kw_647 : (Jvm.Cond.selects "RaceByLaps" ({ cls := "RaceByLaps", name := "plan", desc := "(I)I" } : Jvm.MethodName) ({ cls := "RaceByLaps", name := "plan", desc := "(I)I" } : Jvm.MethodName)) ∈ lw_tbl := tw_tb3 (List.mem_of_getElem? (i := 167) rfl)
theorem kw_648 : (Jvm.Cond.code ({ cls := "RaceByLaps", name := "plan", desc := "(I)I" } : Jvm.MethodName) prog_1_method_13_code (5 : Nat) (Option.some Jvm.ClassFile.FieldType.int)) ∈ lw_tbl := tw_tb3 (List.mem_of_getElem? (i := 168) rfl)
theorem kw_649 : (Jvm.Cond.methodLink "RaceByLaps" (198 : Nat) ({ cls := "RaceByLaps", name := "takeTape", desc := "()I" } : Jvm.MethodName)) ∈ lw_tbl := tw_tb3 (List.mem_of_getElem? (i := 169) rfl)
theorem kw_650 : (Jvm.Cond.privateMethod ({ cls := "RaceByLaps", name := "takeTape", desc := "()I" } : Jvm.MethodName)) ∈ lw_tbl := tw_tb3 (List.mem_of_getElem? (i := 170) rfl)
theorem kw_651 : (Jvm.Cond.instanceMethod ({ cls := "RaceByLaps", name := "takeTape", desc := "()I" } : Jvm.MethodName)) ∈ lw_tbl := tw_tb3 (List.mem_of_getElem? (i := 171) rfl)
theorem kw_652 : (Jvm.Cond.code ({ cls := "RaceByLaps", name := "takeTape", desc := "()I" } : Jvm.MethodName) prog_1_method_42_code (2 : Nat) (Option.some Jvm.ClassFile.FieldType.int)) ∈ lw_tbl := tw_tb3 (List.mem_of_getElem? (i := 172) rfl)
theorem kw_653 : (Jvm.Cond.methodLink "RaceByLaps" (202 : Nat) ({ cls := "RaceByLaps$Reader", name := "firstWrong", desc := "([IILRaceByLaps$Text;Z)I" } : Jvm.MethodName)) ∈ lw_tbl := tw_tb3 (List.mem_of_getElem? (i := 173) rfl)
theorem kw_654 : (Jvm.Cond.instanceMethod ({ cls := "RaceByLaps$Reader", name := "firstWrong", desc := "([IILRaceByLaps$Text;Z)I" } : Jvm.MethodName)) ∈ lw_tbl := tw_tb3 (List.mem_of_getElem? (i := 174) rfl)
theorem kw_655 : (Jvm.Cond.selects "RaceByLaps$Reader" ({ cls := "RaceByLaps$Reader", name := "firstWrong", desc := "([IILRaceByLaps$Text;Z)I" } : Jvm.MethodName) ({ cls := "RaceByLaps$Reader", name := "firstWrong", desc := "([IILRaceByLaps$Text;Z)I" } : Jvm.MethodName)) ∈ lw_tbl := tw_tb3 (List.mem_of_getElem? (i := 175) rfl)
theorem kw_656 : (Jvm.Cond.code ({ cls := "RaceByLaps$Reader", name := "firstWrong", desc := "([IILRaceByLaps$Text;Z)I" } : Jvm.MethodName) prog_5_method_2_code (6 : Nat) (Option.some Jvm.ClassFile.FieldType.int)) ∈ lw_tbl := tw_tb3 (List.mem_of_getElem? (i := 176) rfl)
theorem kw_657 : (Jvm.Cond.methodLink "RaceByLaps$Reader" (27 : Nat) ({ cls := "RaceByLaps$Text", name := "empty", desc := "()V" } : Jvm.MethodName)) ∈ lw_tbl := tw_tb3 (List.mem_of_getElem? (i := 177) rfl)
theorem kw_658 : (Jvm.Cond.instanceMethod ({ cls := "RaceByLaps$Text", name := "empty", desc := "()V" } : Jvm.MethodName)) ∈ lw_tbl := tw_tb3 (List.mem_of_getElem? (i := 178) rfl)
theorem kw_659 : (Jvm.Cond.selects "RaceByLaps$Text" ({ cls := "RaceByLaps$Text", name := "empty", desc := "()V" } : Jvm.MethodName) ({ cls := "RaceByLaps$Text", name := "empty", desc := "()V" } : Jvm.MethodName)) ∈ lw_tbl := tw_tb3 (List.mem_of_getElem? (i := 179) rfl)
theorem kw_660 : (Jvm.Cond.code ({ cls := "RaceByLaps$Text", name := "empty", desc := "()V" } : Jvm.MethodName) prog_10_method_2_code (1 : Nat) (Option.none : Option Jvm.ClassFile.FieldType)) ∈ lw_tbl := tw_tb3 (List.mem_of_getElem? (i := 180) rfl)
theorem kw_661 : (Jvm.Cond.methodLink "RaceByLaps$Reader" (32 : Nat) ({ cls := "RaceByLaps$Reader", name := "beginLine", desc := "()V" } : Jvm.MethodName)) ∈ lw_tbl := tw_tb3 (List.mem_of_getElem? (i := 181) rfl)
theorem kw_662 : (Jvm.Cond.privateMethod ({ cls := "RaceByLaps$Reader", name := "beginLine", desc := "()V" } : Jvm.MethodName)) ∈ lw_tbl := tw_tb3 (List.mem_of_getElem? (i := 182) rfl)
theorem kw_663 : (Jvm.Cond.instanceMethod ({ cls := "RaceByLaps$Reader", name := "beginLine", desc := "()V" } : Jvm.MethodName)) ∈ lw_tbl := tw_tb3 (List.mem_of_getElem? (i := 183) rfl)
theorem kw_664 : (Jvm.Cond.code ({ cls := "RaceByLaps$Reader", name := "beginLine", desc := "()V" } : Jvm.MethodName) prog_5_method_3_code (1 : Nat) (Option.none : Option Jvm.ClassFile.FieldType)) ∈ lw_tbl := tw_tb3 (List.mem_of_getElem? (i := 184) rfl)
theorem kw_665 : (Jvm.Cond.methodLink "RaceByLaps$Reader" (35 : Nat) ({ cls := "RaceByLaps$Reader", name := "takes", desc := "(I)Z" } : Jvm.MethodName)) ∈ lw_tbl := tw_tb3 (List.mem_of_getElem? (i := 185) rfl)
theorem kw_666 : (Jvm.Cond.privateMethod ({ cls := "RaceByLaps$Reader", name := "takes", desc := "(I)Z" } : Jvm.MethodName)) ∈ lw_tbl := tw_tb3 (List.mem_of_getElem? (i := 186) rfl)
theorem kw_667 : (Jvm.Cond.instanceMethod ({ cls := "RaceByLaps$Reader", name := "takes", desc := "(I)Z" } : Jvm.MethodName)) ∈ lw_tbl := tw_tb3 (List.mem_of_getElem? (i := 187) rfl)
theorem kw_668 : (Jvm.Cond.code ({ cls := "RaceByLaps$Reader", name := "takes", desc := "(I)Z" } : Jvm.MethodName) prog_5_method_4_code (2 : Nat) (Option.some Jvm.ClassFile.FieldType.boolean)) ∈ lw_tbl := tw_tb3 (List.mem_of_getElem? (i := 188) rfl)
theorem kw_669 : (Jvm.Cond.methodLink "RaceByLaps$Reader" (55 : Nat) ({ cls := "RaceByLaps$Reader", name := "takesOperand", desc := "(I)Z" } : Jvm.MethodName)) ∈ lw_tbl := tw_tb3 (List.mem_of_getElem? (i := 189) rfl)
theorem kw_670 : (Jvm.Cond.privateMethod ({ cls := "RaceByLaps$Reader", name := "takesOperand", desc := "(I)Z" } : Jvm.MethodName)) ∈ lw_tbl := tw_tb3 (List.mem_of_getElem? (i := 190) rfl)
theorem kw_671 : (Jvm.Cond.instanceMethod ({ cls := "RaceByLaps$Reader", name := "takesOperand", desc := "(I)Z" } : Jvm.MethodName)) ∈ lw_tbl := tw_tb3 (List.mem_of_getElem? (i := 191) rfl)
theorem kw_672 : (Jvm.Cond.code ({ cls := "RaceByLaps$Reader", name := "takesOperand", desc := "(I)Z" } : Jvm.MethodName) prog_5_method_5_code (2 : Nat) (Option.some Jvm.ClassFile.FieldType.boolean)) ∈ lw_tbl := tw_tb3 (List.mem_of_getElem? (i := 192) rfl)
theorem kw_673 : (Jvm.Cond.methodLink "RaceByLaps$Reader" (73 : Nat) ({ cls := "RaceByLaps$Reader", name := "isDigit", desc := "(I)Z" } : Jvm.MethodName)) ∈ lw_tbl := tw_tb3 (List.mem_of_getElem? (i := 193) rfl)
theorem kw_674 : (Jvm.Cond.static ({ cls := "RaceByLaps$Reader", name := "isDigit", desc := "(I)Z" } : Jvm.MethodName)) ∈ lw_tbl := tw_tb3 (List.mem_of_getElem? (i := 194) rfl)
theorem kw_675 : (Jvm.Cond.code ({ cls := "RaceByLaps$Reader", name := "isDigit", desc := "(I)Z" } : Jvm.MethodName) prog_5_method_18_code (1 : Nat) (Option.some Jvm.ClassFile.FieldType.boolean)) ∈ lw_tbl := tw_tb3 (List.mem_of_getElem? (i := 195) rfl)
theorem kw_676 : (Jvm.Cond.methodLink "RaceByLaps$Reader" (76 : Nat) ({ cls := "RaceByLaps$Text", name := "emit", desc := "(I)V" } : Jvm.MethodName)) ∈ lw_tbl := tw_tb3 (List.mem_of_getElem? (i := 196) rfl)
theorem kw_677 : (Jvm.Cond.instanceMethod ({ cls := "RaceByLaps$Text", name := "emit", desc := "(I)V" } : Jvm.MethodName)) ∈ lw_tbl := tw_tb3 (List.mem_of_getElem? (i := 197) rfl)
theorem kw_678 : (Jvm.Cond.selects "RaceByLaps$Text" ({ cls := "RaceByLaps$Text", name := "emit", desc := "(I)V" } : Jvm.MethodName) ({ cls := "RaceByLaps$Text", name := "emit", desc := "(I)V" } : Jvm.MethodName)) ∈ lw_tbl := tw_tb3 (List.mem_of_getElem? (i := 198) rfl)
theorem kw_679 : (Jvm.Cond.code ({ cls := "RaceByLaps$Text", name := "emit", desc := "(I)V" } : Jvm.MethodName) prog_10_method_3_code (2 : Nat) (Option.none : Option Jvm.ClassFile.FieldType)) ∈ lw_tbl := tw_tb3 (List.mem_of_getElem? (i := 199) rfl)
theorem kw_680 : (Jvm.Cond.methodLinkNest "RaceByLaps$Text" (37 : Nat) ({ cls := "RaceByLaps", name := "isIndex", desc := "(II)Z" } : Jvm.MethodName) "RaceByLaps") ∈ lw_tbl := tw_tb3 (List.mem_of_getElem? (i := 200) rfl)
theorem kw_681 : (Jvm.Cond.methodLink "RaceByLaps$Reader" (80 : Nat) ({ cls := "RaceByLaps$Reader", name := "isLetter", desc := "(I)Z" } : Jvm.MethodName)) ∈ lw_tbl := tw_tb3 (List.mem_of_getElem? (i := 201) rfl)
theorem kw_682 : (Jvm.Cond.privateMethod ({ cls := "RaceByLaps$Reader", name := "isLetter", desc := "(I)Z" } : Jvm.MethodName)) ∈ lw_tbl := tw_tb3 (List.mem_of_getElem? (i := 202) rfl)
theorem kw_683 : (Jvm.Cond.instanceMethod ({ cls := "RaceByLaps$Reader", name := "isLetter", desc := "(I)Z" } : Jvm.MethodName)) ∈ lw_tbl := tw_tb3 (List.mem_of_getElem? (i := 203) rfl)
theorem kw_684 : (Jvm.Cond.code ({ cls := "RaceByLaps$Reader", name := "isLetter", desc := "(I)Z" } : Jvm.MethodName) prog_5_method_17_code (3 : Nat) (Option.some Jvm.ClassFile.FieldType.boolean)) ∈ lw_tbl := tw_tb3 (List.mem_of_getElem? (i := 204) rfl)
theorem kw_685 : (Jvm.Cond.stringRef "RaceByLaps$Reader" (125 : Nat) "lrpafnokwvyth") ∈ lw_tbl := tw_tb3 (List.mem_of_getElem? (i := 205) rfl)
theorem kw_686 : (Jvm.Cond.stringRef "RaceByLaps$Reader" (127 : Nat) "skplwcoft") ∈ lw_tbl := tw_tb3 (List.mem_of_getElem? (i := 206) rfl)
theorem kw_687 : (Jvm.Cond.methodLink "RaceByLaps$Reader" (129 : Nat) ({ cls := "java/lang/String", name := "indexOf", desc := "(I)I" } : Jvm.MethodName)) ∈ lw_tbl := tw_tb3 (List.mem_of_getElem? (i := 207) rfl)
theorem kw_688 : (Jvm.Cond.instanceMethod ({ cls := "java/lang/String", name := "indexOf", desc := "(I)I" } : Jvm.MethodName)) ∈ lw_tbl := tw_tb3 (List.mem_of_getElem? (i := 208) rfl)
theorem kw_689 : (Jvm.Cond.selects "java/lang/String" ({ cls := "java/lang/String", name := "indexOf", desc := "(I)I" } : Jvm.MethodName) ({ cls := "java/lang/String", name := "indexOf", desc := "(I)I" } : Jvm.MethodName)) ∈ lw_tbl := tw_tb3 (List.mem_of_getElem? (i := 209) rfl)
theorem kw_690 : (Jvm.Cond.code ({ cls := "java/lang/String", name := "indexOf", desc := "(I)I" } : Jvm.MethodName) prog_23_method_79_code (2 : Nat) (Option.some Jvm.ClassFile.FieldType.int)) ∈ lw_tbl := tw_tb3 (List.mem_of_getElem? (i := 210) rfl)
theorem kw_691 : (Jvm.Cond.methodLink "java/lang/String" (633 : Nat) ({ cls := "java/lang/String", name := "indexOf", desc := "(II)I" } : Jvm.MethodName)) ∈ lw_tbl := tw_tb3 (List.mem_of_getElem? (i := 211) rfl)
theorem kw_692 : (Jvm.Cond.instanceMethod ({ cls := "java/lang/String", name := "indexOf", desc := "(II)I" } : Jvm.MethodName)) ∈ lw_tbl := tw_tb3 (List.mem_of_getElem? (i := 212) rfl)
theorem kw_693 : (Jvm.Cond.selects "java/lang/String" ({ cls := "java/lang/String", name := "indexOf", desc := "(II)I" } : Jvm.MethodName) ({ cls := "java/lang/String", name := "indexOf", desc := "(II)I" } : Jvm.MethodName)) ∈ lw_tbl := tw_tb3 (List.mem_of_getElem? (i := 213) rfl)
theorem kw_694 : (Jvm.Cond.code ({ cls := "java/lang/String", name := "indexOf", desc := "(II)I" } : Jvm.MethodName) prog_23_method_80_code (3 : Nat) (Option.some Jvm.ClassFile.FieldType.int)) ∈ lw_tbl := tw_tb3 (List.mem_of_getElem? (i := 214) rfl)
theorem kw_695 : (Jvm.Cond.methodLink "java/lang/String" (492 : Nat) ({ cls := "java/lang/String", name := "isLatin1", desc := "()Z" } : Jvm.MethodName)) ∈ lw_tbl := tw_tb3 (List.mem_of_getElem? (i := 215) rfl)
theorem kw_696 : (Jvm.Cond.instanceMethod ({ cls := "java/lang/String", name := "isLatin1", desc := "()Z" } : Jvm.MethodName)) ∈ lw_tbl := tw_tb3 (List.mem_of_getElem? (i := 216) rfl)
theorem kw_697 : (Jvm.Cond.selects "java/lang/String" ({ cls := "java/lang/String", name := "isLatin1", desc := "()Z" } : Jvm.MethodName) ({ cls := "java/lang/String", name := "isLatin1", desc := "()Z" } : Jvm.MethodName)) ∈ lw_tbl := tw_tb3 (List.mem_of_getElem? (i := 217) rfl)
theorem kw_698 : (Jvm.Cond.code ({ cls := "java/lang/String", name := "isLatin1", desc := "()Z" } : Jvm.MethodName) prog_23_method_154_code (1 : Nat) (Option.some Jvm.ClassFile.FieldType.boolean)) ∈ lw_tbl := tw_tb3 (List.mem_of_getElem? (i := 218) rfl)
theorem kw_699 : (Jvm.Cond.fieldLink "java/lang/String" (38 : Nat) "java/lang/String" "COMPACT_STRINGS" "Z") ∈ lw_tbl := tw_tb3 (List.mem_of_getElem? (i := 219) rfl)
theorem kw_700 : (Jvm.Cond.laysStatic "java/lang/String" "COMPACT_STRINGS" "Z") ∈ lw_tbl := tw_tb3 (List.mem_of_getElem? (i := 220) rfl)
theorem kw_701 : (Jvm.Cond.methodLink "java/lang/String" (505 : Nat) ({ cls := "java/lang/String", name := "length", desc := "()I" } : Jvm.MethodName)) ∈ lw_tbl := tw_tb3 (List.mem_of_getElem? (i := 221) rfl)
theorem kw_702 : (Jvm.Cond.instanceMethod ({ cls := "java/lang/String", name := "length", desc := "()I" } : Jvm.MethodName)) ∈ lw_tbl := tw_tb3 (List.mem_of_getElem? (i := 222) rfl)
theorem kw_703 : (Jvm.Cond.selects "java/lang/String" ({ cls := "java/lang/String", name := "length", desc := "()I" } : Jvm.MethodName) ({ cls := "java/lang/String", name := "length", desc := "()I" } : Jvm.MethodName)) ∈ lw_tbl := tw_tb3 (List.mem_of_getElem? (i := 223) rfl)
theorem kw_704 : (Jvm.Cond.code ({ cls := "java/lang/String", name := "length", desc := "()I" } : Jvm.MethodName) prog_23_method_54_code (1 : Nat) (Option.some Jvm.ClassFile.FieldType.int)) ∈ lw_tbl := tw_tb3 (List.mem_of_getElem? (i := 224) rfl)
theorem kw_705 : (Jvm.Cond.methodLink "java/lang/String" (335 : Nat) ({ cls := "java/lang/String", name := "coder", desc := "()B" } : Jvm.MethodName)) ∈ lw_tbl := tw_tb3 (List.mem_of_getElem? (i := 225) rfl)
theorem kw_706 : (Jvm.Cond.instanceMethod ({ cls := "java/lang/String", name := "coder", desc := "()B" } : Jvm.MethodName)) ∈ lw_tbl := tw_tb3 (List.mem_of_getElem? (i := 226) rfl)
theorem kw_707 : (Jvm.Cond.selects "java/lang/String" ({ cls := "java/lang/String", name := "coder", desc := "()B" } : Jvm.MethodName) ({ cls := "java/lang/String", name := "coder", desc := "()B" } : Jvm.MethodName)) ∈ lw_tbl := tw_tb3 (List.mem_of_getElem? (i := 227) rfl)
theorem kw_708 : (Jvm.Cond.code ({ cls := "java/lang/String", name := "coder", desc := "()B" } : Jvm.MethodName) prog_23_method_152_code (1 : Nat) (Option.some Jvm.ClassFile.FieldType.byte)) ∈ lw_tbl := tw_tb3 (List.mem_of_getElem? (i := 228) rfl)
theorem kw_709 : (Jvm.Cond.methodLink "java/lang/String" (637 : Nat) ({ cls := "java/lang/StringLatin1", name := "indexOf", desc := "([BIII)I" } : Jvm.MethodName)) ∈ lw_tbl := tw_tb3 (List.mem_of_getElem? (i := 229) rfl)
theorem kw_710 : (Jvm.Cond.static ({ cls := "java/lang/StringLatin1", name := "indexOf", desc := "([BIII)I" } : Jvm.MethodName)) ∈ lw_tbl := tw_tb3 (List.mem_of_getElem? (i := 230) rfl)
theorem kw_711 : (Jvm.Cond.code ({ cls := "java/lang/StringLatin1", name := "indexOf", desc := "([BIII)I" } : Jvm.MethodName) prog_24_method_22_code (4 : Nat) (Option.some Jvm.ClassFile.FieldType.int)) ∈ lw_tbl := tw_tb3 (List.mem_of_getElem? (i := 231) rfl)
theorem kw_712 : (Jvm.Cond.methodLink "java/lang/StringLatin1" (88 : Nat) ({ cls := "java/lang/StringLatin1", name := "canEncode", desc := "(I)Z" } : Jvm.MethodName)) ∈ lw_tbl := tw_tb3 (List.mem_of_getElem? (i := 232) rfl)
theorem kw_713 : (Jvm.Cond.static ({ cls := "java/lang/StringLatin1", name := "canEncode", desc := "(I)Z" } : Jvm.MethodName)) ∈ lw_tbl := tw_tb3 (List.mem_of_getElem? (i := 233) rfl)
theorem kw_714 : (Jvm.Cond.code ({ cls := "java/lang/StringLatin1", name := "canEncode", desc := "(I)Z" } : Jvm.MethodName) prog_24_method_4_code (1 : Nat) (Option.some Jvm.ClassFile.FieldType.boolean)) ∈ lw_tbl := tw_tb3 (List.mem_of_getElem? (i := 234) rfl)
theorem kw_715 : (Jvm.Cond.methodLink "java/lang/StringLatin1" (92 : Nat) ({ cls := "java/lang/Math", name := "max", desc := "(II)I" } : Jvm.MethodName)) ∈ lw_tbl := tw_tb3 (List.mem_of_getElem? (i := 235) rfl)
theorem kw_716 : (Jvm.Cond.methodLink "java/lang/StringLatin1" (38 : Nat) ({ cls := "java/lang/Math", name := "min", desc := "(II)I" } : Jvm.MethodName)) ∈ lw_tbl := tw_tb3 (List.mem_of_getElem? (i := 236) rfl)
theorem kw_717 : (Jvm.Cond.static ({ cls := "java/lang/Math", name := "min", desc := "(II)I" } : Jvm.MethodName)) ∈ lw_tbl := tw_tb3 (List.mem_of_getElem? (i := 237) rfl)
theorem kw_718 : (Jvm.Cond.code ({ cls := "java/lang/Math", name := "min", desc := "(II)I" } : Jvm.MethodName) prog_21_method_69_code (2 : Nat) (Option.some Jvm.ClassFile.FieldType.int)) ∈ lw_tbl := tw_tb3 (List.mem_of_getElem? (i := 238) rfl)
theorem kw_719 : (Jvm.Cond.methodLink "java/lang/StringLatin1" (95 : Nat) ({ cls := "java/lang/StringLatin1", name := "indexOfChar", desc := "([BIII)I" } : Jvm.MethodName)) ∈ lw_tbl := tw_tb3 (List.mem_of_getElem? (i := 239) rfl)
theorem kw_720 : (Jvm.Cond.static ({ cls := "java/lang/StringLatin1", name := "indexOfChar", desc := "([BIII)I" } : Jvm.MethodName)) ∈ lw_tbl := tw_tb4 (List.mem_of_getElem? (i := 0) rfl)
theorem kw_721 : (Jvm.Cond.code ({ cls := "java/lang/StringLatin1", name := "indexOfChar", desc := "([BIII)I" } : Jvm.MethodName) prog_24_method_23_code (6 : Nat) (Option.some Jvm.ClassFile.FieldType.int)) ∈ lw_tbl := tw_tb4 (List.mem_of_getElem? (i := 1) rfl)
theorem kw_722 : (Jvm.Cond.methodLink "java/lang/String" (640 : Nat) ({ cls := "java/lang/StringUTF16", name := "indexOf", desc := "([BIII)I" } : Jvm.MethodName)) ∈ lw_tbl := tw_tb4 (List.mem_of_getElem? (i := 2) rfl)
theorem kw_723 : (Jvm.Cond.static ({ cls := "java/lang/StringUTF16", name := "indexOf", desc := "([BIII)I" } : Jvm.MethodName)) ∈ lw_tbl := tw_tb4 (List.mem_of_getElem? (i := 3) rfl)
theorem kw_724 : (Jvm.Cond.code ({ cls := "java/lang/StringUTF16", name := "indexOf", desc := "([BIII)I" } : Jvm.MethodName) prog_25_method_40_code (4 : Nat) (Option.some Jvm.ClassFile.FieldType.int)) ∈ lw_tbl := tw_tb4 (List.mem_of_getElem? (i := 4) rfl)
theorem kw_725 : (Jvm.Cond.methodLink "java/lang/StringUTF16" (224 : Nat) ({ cls := "java/lang/Math", name := "max", desc := "(II)I" } : Jvm.MethodName)) ∈ lw_tbl := tw_tb4 (List.mem_of_getElem? (i := 5) rfl)
theorem kw_726 : (Jvm.Cond.methodLink "java/lang/StringUTF16" (183 : Nat) ({ cls := "java/lang/Math", name := "min", desc := "(II)I" } : Jvm.MethodName)) ∈ lw_tbl := tw_tb4 (List.mem_of_getElem? (i := 6) rfl)
theorem kw_727 : (Jvm.Cond.constant "java/lang/StringUTF16" (227 : Nat) (65536 : Int32)) ∈ lw_tbl := tw_tb4 (List.mem_of_getElem? (i := 7) rfl)
theorem kw_728 : (Jvm.Cond.methodLink "java/lang/StringUTF16" (228 : Nat) ({ cls := "java/lang/StringUTF16", name := "indexOfChar", desc := "([BIII)I" } : Jvm.MethodName)) ∈ lw_tbl := tw_tb4 (List.mem_of_getElem? (i := 8) rfl)
theorem kw_729 : (Jvm.Cond.static ({ cls := "java/lang/StringUTF16", name := "indexOfChar", desc := "([BIII)I" } : Jvm.MethodName)) ∈ lw_tbl := tw_tb4 (List.mem_of_getElem? (i := 9) rfl)
theorem kw_730 : (Jvm.Cond.code ({ cls := "java/lang/StringUTF16", name := "indexOfChar", desc := "([BIII)I" } : Jvm.MethodName) prog_25_method_47_code (4 : Nat) (Option.some Jvm.ClassFile.FieldType.int)) ∈ lw_tbl := tw_tb4 (List.mem_of_getElem? (i := 10) rfl)
theorem kw_731 : (Jvm.Cond.methodLink "java/lang/StringUTF16" (96 : Nat) ({ cls := "java/lang/StringUTF16", name := "checkBoundsBeginEnd", desc := "(II[B)V" } : Jvm.MethodName)) ∈ lw_tbl := tw_tb4 (List.mem_of_getElem? (i := 11) rfl)
theorem kw_732 : (Jvm.Cond.static ({ cls := "java/lang/StringUTF16", name := "checkBoundsBeginEnd", desc := "(II[B)V" } : Jvm.MethodName)) ∈ lw_tbl := tw_tb4 (List.mem_of_getElem? (i := 12) rfl)
theorem kw_733 : (Jvm.Cond.code ({ cls := "java/lang/StringUTF16", name := "checkBoundsBeginEnd", desc := "(II[B)V" } : Jvm.MethodName) prog_25_method_93_code (3 : Nat) (Option.none : Option Jvm.ClassFile.FieldType)) ∈ lw_tbl := tw_tb4 (List.mem_of_getElem? (i := 13) rfl)
theorem kw_734 : (Jvm.Cond.methodLink "java/lang/StringUTF16" (48 : Nat) ({ cls := "java/lang/StringUTF16", name := "length", desc := "([B)I" } : Jvm.MethodName)) ∈ lw_tbl := tw_tb4 (List.mem_of_getElem? (i := 14) rfl)
theorem kw_735 : (Jvm.Cond.static ({ cls := "java/lang/StringUTF16", name := "length", desc := "([B)I" } : Jvm.MethodName)) ∈ lw_tbl := tw_tb4 (List.mem_of_getElem? (i := 15) rfl)
theorem kw_736 : (Jvm.Cond.code ({ cls := "java/lang/StringUTF16", name := "length", desc := "([B)I" } : Jvm.MethodName) prog_25_method_6_code (1 : Nat) (Option.some Jvm.ClassFile.FieldType.int)) ∈ lw_tbl := tw_tb4 (List.mem_of_getElem? (i := 16) rfl)
theorem kw_737 : (Jvm.Cond.methodLink "java/lang/StringUTF16" (241 : Nat) ({ cls := "java/lang/String", name := "checkBoundsBeginEnd", desc := "(III)V" } : Jvm.MethodName)) ∈ lw_tbl := tw_tb4 (List.mem_of_getElem? (i := 17) rfl)
theorem kw_738 : (Jvm.Cond.static ({ cls := "java/lang/String", name := "checkBoundsBeginEnd", desc := "(III)V" } : Jvm.MethodName)) ∈ lw_tbl := tw_tb4 (List.mem_of_getElem? (i := 18) rfl)
theorem kw_739 : (Jvm.Cond.code ({ cls := "java/lang/String", name := "checkBoundsBeginEnd", desc := "(III)V" } : Jvm.MethodName) prog_23_method_158_code (3 : Nat) (Option.none : Option Jvm.ClassFile.FieldType)) ∈ lw_tbl := tw_tb4 (List.mem_of_getElem? (i := 19) rfl)
theorem kw_740 : (Jvm.Cond.fieldLink "java/lang/String" (1053 : Nat) "jdk/internal/util/Preconditions" "SIOOBE_FORMATTER" "Ljava/util/function/BiFunction;") ∈ lw_tbl := tw_tb4 (List.mem_of_getElem? (i := 20) rfl)
theorem kw_741 : (Jvm.Cond.laysStatic "jdk/internal/util/Preconditions" "SIOOBE_FORMATTER" "Ljava/util/function/BiFunction;") ∈ lw_tbl := tw_tb4 (List.mem_of_getElem? (i := 21) rfl)
theorem kw_742 : (Jvm.Cond.methodLink "java/lang/String" (1062 : Nat) ({ cls := "jdk/internal/util/Preconditions", name := "checkFromToIndex", desc := "(IIILjava/util/function/BiFunction;)I" } : Jvm.MethodName)) ∈ lw_tbl := tw_tb4 (List.mem_of_getElem? (i := 22) rfl)
theorem kw_743 : (Jvm.Cond.static ({ cls := "jdk/internal/util/Preconditions", name := "checkFromToIndex", desc := "(IIILjava/util/function/BiFunction;)I" } : Jvm.MethodName)) ∈ lw_tbl := tw_tb4 (List.mem_of_getElem? (i := 23) rfl)
theorem kw_744 : (Jvm.Cond.code ({ cls := "jdk/internal/util/Preconditions", name := "checkFromToIndex", desc := "(IIILjava/util/function/BiFunction;)I" } : Jvm.MethodName) prog_31_method_12_code (4 : Nat) (Option.some Jvm.ClassFile.FieldType.int)) ∈ lw_tbl := tw_tb4 (List.mem_of_getElem? (i := 24) rfl)
theorem kw_745 : (Jvm.Cond.methodLink "java/lang/StringUTF16" (244 : Nat) ({ cls := "java/lang/StringUTF16", name := "indexOfCharUnsafe", desc := "([BIII)I" } : Jvm.MethodName)) ∈ lw_tbl := tw_tb4 (List.mem_of_getElem? (i := 25) rfl)
theorem kw_746 : (Jvm.Cond.static ({ cls := "java/lang/StringUTF16", name := "indexOfCharUnsafe", desc := "([BIII)I" } : Jvm.MethodName)) ∈ lw_tbl := tw_tb4 (List.mem_of_getElem? (i := 26) rfl)
theorem kw_747 : (Jvm.Cond.code ({ cls := "java/lang/StringUTF16", name := "indexOfCharUnsafe", desc := "([BIII)I" } : Jvm.MethodName) prog_25_method_48_code (5 : Nat) (Option.some Jvm.ClassFile.FieldType.int)) ∈ lw_tbl := tw_tb4 (List.mem_of_getElem? (i := 27) rfl)
theorem kw_748 : (Jvm.Cond.methodLink "java/lang/StringUTF16" (71 : Nat) ({ cls := "java/lang/StringUTF16", name := "getChar", desc := "([BI)C" } : Jvm.MethodName)) ∈ lw_tbl := tw_tb4 (List.mem_of_getElem? (i := 28) rfl)
theorem kw_749 : (Jvm.Cond.static ({ cls := "java/lang/StringUTF16", name := "getChar", desc := "([BI)C" } : Jvm.MethodName)) ∈ lw_tbl := tw_tb4 (List.mem_of_getElem? (i := 29) rfl)
theorem kw_750 : (Jvm.Cond.code ({ cls := "java/lang/StringUTF16", name := "getChar", desc := "([BI)C" } : Jvm.MethodName) prog_25_method_5_code (2 : Nat) (Option.some Jvm.ClassFile.FieldType.char)) ∈ lw_tbl := tw_tb4 (List.mem_of_getElem? (i := 30) rfl)
theorem kw_751 : (Jvm.Cond.fieldLink "java/lang/StringUTF16" (44 : Nat) "java/lang/StringUTF16" "$assertionsDisabled" "Z") ∈ lw_tbl := tw_tb4 (List.mem_of_getElem? (i := 31) rfl)
theorem kw_752 : (Jvm.Cond.laysStatic "java/lang/StringUTF16" "$assertionsDisabled" "Z") ∈ lw_tbl := tw_tb4 (List.mem_of_getElem? (i := 32) rfl)
theorem kw_753 : (Jvm.Cond.fieldLink "java/lang/StringUTF16" (59 : Nat) "java/lang/StringUTF16" "HI_BYTE_SHIFT" "I") ∈ lw_tbl := tw_tb4 (List.mem_of_getElem? (i := 33) rfl)
theorem kw_754 : (Jvm.Cond.laysStatic "java/lang/StringUTF16" "HI_BYTE_SHIFT" "I") ∈ lw_tbl := tw_tb4 (List.mem_of_getElem? (i := 34) rfl)
theorem kw_755 : (Jvm.Cond.fieldLink "java/lang/StringUTF16" (63 : Nat) "java/lang/StringUTF16" "LO_BYTE_SHIFT" "I") ∈ lw_tbl := tw_tb4 (List.mem_of_getElem? (i := 35) rfl)
theorem kw_756 : (Jvm.Cond.laysStatic "java/lang/StringUTF16" "LO_BYTE_SHIFT" "I") ∈ lw_tbl := tw_tb4 (List.mem_of_getElem? (i := 36) rfl)
theorem kw_757 : (Jvm.Cond.methodLink "java/lang/StringUTF16" (232 : Nat) ({ cls := "java/lang/StringUTF16", name := "indexOfSupplementary", desc := "([BIII)I" } : Jvm.MethodName)) ∈ lw_tbl := tw_tb4 (List.mem_of_getElem? (i := 37) rfl)
theorem kw_758 : (Jvm.Cond.static ({ cls := "java/lang/StringUTF16", name := "indexOfSupplementary", desc := "([BIII)I" } : Jvm.MethodName)) ∈ lw_tbl := tw_tb4 (List.mem_of_getElem? (i := 38) rfl)
theorem kw_759 : (Jvm.Cond.code ({ cls := "java/lang/StringUTF16", name := "indexOfSupplementary", desc := "([BIII)I" } : Jvm.MethodName) prog_25_method_49_code (7 : Nat) (Option.some Jvm.ClassFile.FieldType.int)) ∈ lw_tbl := tw_tb4 (List.mem_of_getElem? (i := 39) rfl)
theorem kw_760 : (Jvm.Cond.methodLink "java/lang/StringUTF16" (164 : Nat) ({ cls := "java/lang/Character", name := "isValidCodePoint", desc := "(I)Z" } : Jvm.MethodName)) ∈ lw_tbl := tw_tb4 (List.mem_of_getElem? (i := 40) rfl)
theorem kw_761 : (Jvm.Cond.static ({ cls := "java/lang/Character", name := "isValidCodePoint", desc := "(I)Z" } : Jvm.MethodName)) ∈ lw_tbl := tw_tb4 (List.mem_of_getElem? (i := 41) rfl)
theorem kw_762 : (Jvm.Cond.code ({ cls := "java/lang/Character", name := "isValidCodePoint", desc := "(I)Z" } : Jvm.MethodName) prog_17_method_11_code (2 : Nat) (Option.some Jvm.ClassFile.FieldType.boolean)) ∈ lw_tbl := tw_tb4 (List.mem_of_getElem? (i := 42) rfl)
theorem kw_763 : (Jvm.Cond.methodLink "java/lang/StringUTF16" (157 : Nat) ({ cls := "java/lang/Character", name := "highSurrogate", desc := "(I)C" } : Jvm.MethodName)) ∈ lw_tbl := tw_tb4 (List.mem_of_getElem? (i := 43) rfl)
theorem kw_764 : (Jvm.Cond.static ({ cls := "java/lang/Character", name := "highSurrogate", desc := "(I)C" } : Jvm.MethodName)) ∈ lw_tbl := tw_tb4 (List.mem_of_getElem? (i := 44) rfl)
theorem kw_765 : (Jvm.Cond.code ({ cls := "java/lang/Character", name := "highSurrogate", desc := "(I)C" } : Jvm.MethodName) prog_17_method_28_code (1 : Nat) (Option.some Jvm.ClassFile.FieldType.char)) ∈ lw_tbl := tw_tb4 (List.mem_of_getElem? (i := 45) rfl)
theorem kw_766 : (Jvm.Cond.constant "java/lang/Character" (110 : Nat) (55232 : Int32)) ∈ lw_tbl := tw_tb4 (List.mem_of_getElem? (i := 46) rfl)
theorem kw_767 : (Jvm.Cond.methodLink "java/lang/StringUTF16" (161 : Nat) ({ cls := "java/lang/Character", name := "lowSurrogate", desc := "(I)C" } : Jvm.MethodName)) ∈ lw_tbl := tw_tb4 (List.mem_of_getElem? (i := 47) rfl)
theorem kw_768 : (Jvm.Cond.static ({ cls := "java/lang/Character", name := "lowSurrogate", desc := "(I)C" } : Jvm.MethodName)) ∈ lw_tbl := tw_tb4 (List.mem_of_getElem? (i := 48) rfl)
theorem kw_769 : (Jvm.Cond.code ({ cls := "java/lang/Character", name := "lowSurrogate", desc := "(I)C" } : Jvm.MethodName) prog_17_method_29_code (1 : Nat) (Option.some Jvm.ClassFile.FieldType.char)) ∈ lw_tbl := tw_tb4 (List.mem_of_getElem? (i := 49) rfl)
theorem kw_770 : (Jvm.Cond.constant "java/lang/Character" (76 : Nat) (56320 : Int32)) ∈ lw_tbl := tw_tb4 (List.mem_of_getElem? (i := 50) rfl)
theorem kw_771 : (Jvm.Cond.methodLink "RaceByLaps$Reader" (83 : Nat) ({ cls := "RaceByLaps$Reader", name := "endsCondition", desc := "()Z" } : Jvm.MethodName)) ∈ lw_tbl := tw_tb4 (List.mem_of_getElem? (i := 51) rfl)
theorem kw_772 : (Jvm.Cond.privateMethod ({ cls := "RaceByLaps$Reader", name := "endsCondition", desc := "()Z" } : Jvm.MethodName)) ∈ lw_tbl := tw_tb4 (List.mem_of_getElem? (i := 52) rfl)
theorem kw_773 : (Jvm.Cond.instanceMethod ({ cls := "RaceByLaps$Reader", name := "endsCondition", desc := "()Z" } : Jvm.MethodName)) ∈ lw_tbl := tw_tb4 (List.mem_of_getElem? (i := 53) rfl)
theorem kw_774 : (Jvm.Cond.code ({ cls := "RaceByLaps$Reader", name := "endsCondition", desc := "()Z" } : Jvm.MethodName) prog_5_method_10_code (1 : Nat) (Option.some Jvm.ClassFile.FieldType.boolean)) ∈ lw_tbl := tw_tb4 (List.mem_of_getElem? (i := 54) rfl)
theorem kw_775 : (Jvm.Cond.methodLink "RaceByLaps$Reader" (106 : Nat) ({ cls := "RaceByLaps$Reader", name := "release", desc := "(I)V" } : Jvm.MethodName)) ∈ lw_tbl := tw_tb4 (List.mem_of_getElem? (i := 55) rfl)
theorem kw_776 : (Jvm.Cond.privateMethod ({ cls := "RaceByLaps$Reader", name := "release", desc := "(I)V" } : Jvm.MethodName)) ∈ lw_tbl := tw_tb4 (List.mem_of_getElem? (i := 56) rfl)
theorem kw_777 : (Jvm.Cond.instanceMethod ({ cls := "RaceByLaps$Reader", name := "release", desc := "(I)V" } : Jvm.MethodName)) ∈ lw_tbl := tw_tb4 (List.mem_of_getElem? (i := 57) rfl)
theorem kw_778 : (Jvm.Cond.code ({ cls := "RaceByLaps$Reader", name := "release", desc := "(I)V" } : Jvm.MethodName) prog_5_method_16_code (3 : Nat) (Option.none : Option Jvm.ClassFile.FieldType)) ∈ lw_tbl := tw_tb4 (List.mem_of_getElem? (i := 58) rfl)
theorem kw_779 : (Jvm.Cond.methodLink "RaceByLaps$Reader" (102 : Nat) ({ cls := "RaceByLaps$Reader", name := "levelOf", desc := "(I)I" } : Jvm.MethodName)) ∈ lw_tbl := tw_tb4 (List.mem_of_getElem? (i := 59) rfl)
theorem kw_780 : (Jvm.Cond.static ({ cls := "RaceByLaps$Reader", name := "levelOf", desc := "(I)I" } : Jvm.MethodName)) ∈ lw_tbl := tw_tb4 (List.mem_of_getElem? (i := 60) rfl)
theorem kw_781 : (Jvm.Cond.code ({ cls := "RaceByLaps$Reader", name := "levelOf", desc := "(I)I" } : Jvm.MethodName) prog_5_method_19_code (1 : Nat) (Option.some Jvm.ClassFile.FieldType.int)) ∈ lw_tbl := tw_tb4 (List.mem_of_getElem? (i := 61) rfl)
theorem kw_782 : (Jvm.Cond.methodLink "RaceByLaps$Reader" (113 : Nat) ({ cls := "RaceByLaps$Text", name := "endCondition", desc := "()V" } : Jvm.MethodName)) ∈ lw_tbl := tw_tb4 (List.mem_of_getElem? (i := 62) rfl)
theorem kw_783 : (Jvm.Cond.instanceMethod ({ cls := "RaceByLaps$Text", name := "endCondition", desc := "()V" } : Jvm.MethodName)) ∈ lw_tbl := tw_tb4 (List.mem_of_getElem? (i := 63) rfl)
theorem kw_784 : (Jvm.Cond.selects "RaceByLaps$Text" ({ cls := "RaceByLaps$Text", name := "endCondition", desc := "()V" } : Jvm.MethodName) ({ cls := "RaceByLaps$Text", name := "endCondition", desc := "()V" } : Jvm.MethodName)) ∈ lw_tbl := tw_tb4 (List.mem_of_getElem? (i := 64) rfl)
theorem kw_785 : (Jvm.Cond.code ({ cls := "RaceByLaps$Text", name := "endCondition", desc := "()V" } : Jvm.MethodName) prog_10_method_5_code (1 : Nat) (Option.none : Option Jvm.ClassFile.FieldType)) ∈ lw_tbl := tw_tb4 (List.mem_of_getElem? (i := 65) rfl)
theorem kw_786 : (Jvm.Cond.methodLink "RaceByLaps$Reader" (87 : Nat) ({ cls := "RaceByLaps$Reader", name := "opens", desc := "()Z" } : Jvm.MethodName)) ∈ lw_tbl := tw_tb4 (List.mem_of_getElem? (i := 66) rfl)
theorem kw_787 : (Jvm.Cond.privateMethod ({ cls := "RaceByLaps$Reader", name := "opens", desc := "()Z" } : Jvm.MethodName)) ∈ lw_tbl := tw_tb4 (List.mem_of_getElem? (i := 67) rfl)
theorem kw_788 : (Jvm.Cond.instanceMethod ({ cls := "RaceByLaps$Reader", name := "opens", desc := "()Z" } : Jvm.MethodName)) ∈ lw_tbl := tw_tb4 (List.mem_of_getElem? (i := 68) rfl)
theorem kw_789 : (Jvm.Cond.code ({ cls := "RaceByLaps$Reader", name := "opens", desc := "()Z" } : Jvm.MethodName) prog_5_method_8_code (1 : Nat) (Option.some Jvm.ClassFile.FieldType.boolean)) ∈ lw_tbl := tw_tb4 (List.mem_of_getElem? (i := 69) rfl)
theorem kw_790 : (Jvm.Cond.methodLinkNest "RaceByLaps$Reader" (109 : Nat) ({ cls := "RaceByLaps", name := "isIndex", desc := "(II)Z" } : Jvm.MethodName) "RaceByLaps") ∈ lw_tbl := tw_tb4 (List.mem_of_getElem? (i := 70) rfl)
theorem kw_791 : (Jvm.Cond.methodLink "RaceByLaps$Reader" (90 : Nat) ({ cls := "RaceByLaps$Reader", name := "hold", desc := "(I)V" } : Jvm.MethodName)) ∈ lw_tbl := tw_tb4 (List.mem_of_getElem? (i := 71) rfl)
theorem kw_792 : (Jvm.Cond.privateMethod ({ cls := "RaceByLaps$Reader", name := "hold", desc := "(I)V" } : Jvm.MethodName)) ∈ lw_tbl := tw_tb4 (List.mem_of_getElem? (i := 72) rfl)
theorem kw_793 : (Jvm.Cond.instanceMethod ({ cls := "RaceByLaps$Reader", name := "hold", desc := "(I)V" } : Jvm.MethodName)) ∈ lw_tbl := tw_tb4 (List.mem_of_getElem? (i := 73) rfl)
theorem kw_794 : (Jvm.Cond.code ({ cls := "RaceByLaps$Reader", name := "hold", desc := "(I)V" } : Jvm.MethodName) prog_5_method_15_code (2 : Nat) (Option.none : Option Jvm.ClassFile.FieldType)) ∈ lw_tbl := tw_tb4 (List.mem_of_getElem? (i := 74) rfl)
theorem kw_795 : (Jvm.Cond.methodLink "RaceByLaps$Reader" (58 : Nat) ({ cls := "RaceByLaps$Reader", name := "takesBehindOperand", desc := "(I)Z" } : Jvm.MethodName)) ∈ lw_tbl := tw_tb4 (List.mem_of_getElem? (i := 75) rfl)
theorem kw_796 : (Jvm.Cond.privateMethod ({ cls := "RaceByLaps$Reader", name := "takesBehindOperand", desc := "(I)Z" } : Jvm.MethodName)) ∈ lw_tbl := tw_tb4 (List.mem_of_getElem? (i := 76) rfl)
theorem kw_797 : (Jvm.Cond.instanceMethod ({ cls := "RaceByLaps$Reader", name := "takesBehindOperand", desc := "(I)Z" } : Jvm.MethodName)) ∈ lw_tbl := tw_tb4 (List.mem_of_getElem? (i := 77) rfl)
theorem kw_798 : (Jvm.Cond.code ({ cls := "RaceByLaps$Reader", name := "takesBehindOperand", desc := "(I)Z" } : Jvm.MethodName) prog_5_method_6_code (2 : Nat) (Option.some Jvm.ClassFile.FieldType.boolean)) ∈ lw_tbl := tw_tb4 (List.mem_of_getElem? (i := 78) rfl)
theorem kw_799 : (Jvm.Cond.methodLink "RaceByLaps$Reader" (93 : Nat) ({ cls := "RaceByLaps$Text", name := "addDigit", desc := "(I)V" } : Jvm.MethodName)) ∈ lw_tbl := tw_tb4 (List.mem_of_getElem? (i := 79) rfl)
theorem kw_800 : (Jvm.Cond.instanceMethod ({ cls := "RaceByLaps$Text", name := "addDigit", desc := "(I)V" } : Jvm.MethodName)) ∈ lw_tbl := tw_tb4 (List.mem_of_getElem? (i := 80) rfl)
theorem kw_801 : (Jvm.Cond.selects "RaceByLaps$Text" ({ cls := "RaceByLaps$Text", name := "addDigit", desc := "(I)V" } : Jvm.MethodName) ({ cls := "RaceByLaps$Text", name := "addDigit", desc := "(I)V" } : Jvm.MethodName)) ∈ lw_tbl := tw_tb4 (List.mem_of_getElem? (i := 81) rfl)
theorem kw_802 : (Jvm.Cond.code ({ cls := "RaceByLaps$Text", name := "addDigit", desc := "(I)V" } : Jvm.MethodName) prog_10_method_4_code (2 : Nat) (Option.none : Option Jvm.ClassFile.FieldType)) ∈ lw_tbl := tw_tb4 (List.mem_of_getElem? (i := 82) rfl)
theorem kw_803 : (Jvm.Cond.methodLink "RaceByLaps$Reader" (96 : Nat) ({ cls := "RaceByLaps$Reader", name := "closes", desc := "()Z" } : Jvm.MethodName)) ∈ lw_tbl := tw_tb4 (List.mem_of_getElem? (i := 83) rfl)
theorem kw_804 : (Jvm.Cond.privateMethod ({ cls := "RaceByLaps$Reader", name := "closes", desc := "()Z" } : Jvm.MethodName)) ∈ lw_tbl := tw_tb4 (List.mem_of_getElem? (i := 84) rfl)
theorem kw_805 : (Jvm.Cond.instanceMethod ({ cls := "RaceByLaps$Reader", name := "closes", desc := "()Z" } : Jvm.MethodName)) ∈ lw_tbl := tw_tb4 (List.mem_of_getElem? (i := 85) rfl)
theorem kw_806 : (Jvm.Cond.code ({ cls := "RaceByLaps$Reader", name := "closes", desc := "()Z" } : Jvm.MethodName) prog_5_method_9_code (1 : Nat) (Option.some Jvm.ClassFile.FieldType.boolean)) ∈ lw_tbl := tw_tb4 (List.mem_of_getElem? (i := 86) rfl)
theorem kw_807 : (Jvm.Cond.methodLink "RaceByLaps$Reader" (99 : Nat) ({ cls := "RaceByLaps$Reader", name := "joins", desc := "(I)Z" } : Jvm.MethodName)) ∈ lw_tbl := tw_tb4 (List.mem_of_getElem? (i := 87) rfl)
theorem kw_808 : (Jvm.Cond.privateMethod ({ cls := "RaceByLaps$Reader", name := "joins", desc := "(I)Z" } : Jvm.MethodName)) ∈ lw_tbl := tw_tb4 (List.mem_of_getElem? (i := 88) rfl)
theorem kw_809 : (Jvm.Cond.instanceMethod ({ cls := "RaceByLaps$Reader", name := "joins", desc := "(I)Z" } : Jvm.MethodName)) ∈ lw_tbl := tw_tb4 (List.mem_of_getElem? (i := 89) rfl)
theorem kw_810 : (Jvm.Cond.code ({ cls := "RaceByLaps$Reader", name := "joins", desc := "(I)Z" } : Jvm.MethodName) prog_5_method_7_code (3 : Nat) (Option.some Jvm.ClassFile.FieldType.boolean)) ∈ lw_tbl := tw_tb4 (List.mem_of_getElem? (i := 90) rfl)
theorem kw_811 : (Jvm.Cond.methodLink "RaceByLaps$Reader" (61 : Nat) ({ cls := "RaceByLaps$Reader", name := "takesVerdict", desc := "(I)Z" } : Jvm.MethodName)) ∈ lw_tbl := tw_tb4 (List.mem_of_getElem? (i := 91) rfl)
theorem kw_812 : (Jvm.Cond.privateMethod ({ cls := "RaceByLaps$Reader", name := "takesVerdict", desc := "(I)Z" } : Jvm.MethodName)) ∈ lw_tbl := tw_tb4 (List.mem_of_getElem? (i := 92) rfl)
theorem kw_813 : (Jvm.Cond.instanceMethod ({ cls := "RaceByLaps$Reader", name := "takesVerdict", desc := "(I)Z" } : Jvm.MethodName)) ∈ lw_tbl := tw_tb4 (List.mem_of_getElem? (i := 93) rfl)
theorem kw_814 : (Jvm.Cond.code ({ cls := "RaceByLaps$Reader", name := "takesVerdict", desc := "(I)Z" } : Jvm.MethodName) prog_5_method_11_code (2 : Nat) (Option.some Jvm.ClassFile.FieldType.boolean)) ∈ lw_tbl := tw_tb4 (List.mem_of_getElem? (i := 94) rfl)
theorem kw_815 : (Jvm.Cond.methodLink "RaceByLaps$Reader" (64 : Nat) ({ cls := "RaceByLaps$Reader", name := "takesSeconds", desc := "(I)Z" } : Jvm.MethodName)) ∈ lw_tbl := tw_tb4 (List.mem_of_getElem? (i := 95) rfl)
theorem kw_816 : (Jvm.Cond.privateMethod ({ cls := "RaceByLaps$Reader", name := "takesSeconds", desc := "(I)Z" } : Jvm.MethodName)) ∈ lw_tbl := tw_tb4 (List.mem_of_getElem? (i := 96) rfl)
theorem kw_817 : (Jvm.Cond.instanceMethod ({ cls := "RaceByLaps$Reader", name := "takesSeconds", desc := "(I)Z" } : Jvm.MethodName)) ∈ lw_tbl := tw_tb4 (List.mem_of_getElem? (i := 97) rfl)
theorem kw_818 : (Jvm.Cond.code ({ cls := "RaceByLaps$Reader", name := "takesSeconds", desc := "(I)Z" } : Jvm.MethodName) prog_5_method_12_code (2 : Nat) (Option.some Jvm.ClassFile.FieldType.boolean)) ∈ lw_tbl := tw_tb4 (List.mem_of_getElem? (i := 98) rfl)
theorem kw_819 : (Jvm.Cond.methodLink "RaceByLaps$Reader" (67 : Nat) ({ cls := "RaceByLaps$Reader", name := "takesAct", desc := "(I)Z" } : Jvm.MethodName)) ∈ lw_tbl := tw_tb4 (List.mem_of_getElem? (i := 99) rfl)
theorem kw_820 : (Jvm.Cond.privateMethod ({ cls := "RaceByLaps$Reader", name := "takesAct", desc := "(I)Z" } : Jvm.MethodName)) ∈ lw_tbl := tw_tb4 (List.mem_of_getElem? (i := 100) rfl)
theorem kw_821 : (Jvm.Cond.instanceMethod ({ cls := "RaceByLaps$Reader", name := "takesAct", desc := "(I)Z" } : Jvm.MethodName)) ∈ lw_tbl := tw_tb4 (List.mem_of_getElem? (i := 101) rfl)
theorem kw_822 : (Jvm.Cond.code ({ cls := "RaceByLaps$Reader", name := "takesAct", desc := "(I)Z" } : Jvm.MethodName) prog_5_method_13_code (2 : Nat) (Option.some Jvm.ClassFile.FieldType.boolean)) ∈ lw_tbl := tw_tb4 (List.mem_of_getElem? (i := 102) rfl)
theorem kw_823 : (Jvm.Cond.methodLink "RaceByLaps$Reader" (119 : Nat) ({ cls := "RaceByLaps$Text", name := "act", desc := "(I)V" } : Jvm.MethodName)) ∈ lw_tbl := tw_tb4 (List.mem_of_getElem? (i := 103) rfl)
theorem kw_824 : (Jvm.Cond.instanceMethod ({ cls := "RaceByLaps$Text", name := "act", desc := "(I)V" } : Jvm.MethodName)) ∈ lw_tbl := tw_tb4 (List.mem_of_getElem? (i := 104) rfl)
theorem kw_825 : (Jvm.Cond.selects "RaceByLaps$Text" ({ cls := "RaceByLaps$Text", name := "act", desc := "(I)V" } : Jvm.MethodName) ({ cls := "RaceByLaps$Text", name := "act", desc := "(I)V" } : Jvm.MethodName)) ∈ lw_tbl := tw_tb4 (List.mem_of_getElem? (i := 105) rfl)
theorem kw_826 : (Jvm.Cond.code ({ cls := "RaceByLaps$Text", name := "act", desc := "(I)V" } : Jvm.MethodName) prog_10_method_6_code (3 : Nat) (Option.none : Option Jvm.ClassFile.FieldType)) ∈ lw_tbl := tw_tb4 (List.mem_of_getElem? (i := 106) rfl)
theorem kw_827 : (Jvm.Cond.methodLink "RaceByLaps$Reader" (70 : Nat) ({ cls := "RaceByLaps$Reader", name := "takesBox", desc := "(I)Z" } : Jvm.MethodName)) ∈ lw_tbl := tw_tb4 (List.mem_of_getElem? (i := 107) rfl)
theorem kw_828 : (Jvm.Cond.privateMethod ({ cls := "RaceByLaps$Reader", name := "takesBox", desc := "(I)Z" } : Jvm.MethodName)) ∈ lw_tbl := tw_tb4 (List.mem_of_getElem? (i := 108) rfl)
theorem kw_829 : (Jvm.Cond.instanceMethod ({ cls := "RaceByLaps$Reader", name := "takesBox", desc := "(I)Z" } : Jvm.MethodName)) ∈ lw_tbl := tw_tb4 (List.mem_of_getElem? (i := 109) rfl)
theorem kw_830 : (Jvm.Cond.code ({ cls := "RaceByLaps$Reader", name := "takesBox", desc := "(I)Z" } : Jvm.MethodName) prog_5_method_14_code (2 : Nat) (Option.some Jvm.ClassFile.FieldType.boolean)) ∈ lw_tbl := tw_tb4 (List.mem_of_getElem? (i := 110) rfl)
theorem kw_831 : (Jvm.Cond.methodLink "RaceByLaps$Reader" (122 : Nat) ({ cls := "RaceByLaps$Text", name := "actBox", desc := "(I)V" } : Jvm.MethodName)) ∈ lw_tbl := tw_tb4 (List.mem_of_getElem? (i := 111) rfl)
theorem kw_832 : (Jvm.Cond.instanceMethod ({ cls := "RaceByLaps$Text", name := "actBox", desc := "(I)V" } : Jvm.MethodName)) ∈ lw_tbl := tw_tb4 (List.mem_of_getElem? (i := 112) rfl)
theorem kw_833 : (Jvm.Cond.selects "RaceByLaps$Text" ({ cls := "RaceByLaps$Text", name := "actBox", desc := "(I)V" } : Jvm.MethodName) ({ cls := "RaceByLaps$Text", name := "actBox", desc := "(I)V" } : Jvm.MethodName)) ∈ lw_tbl := tw_tb4 (List.mem_of_getElem? (i := 113) rfl)
theorem kw_834 : (Jvm.Cond.code ({ cls := "RaceByLaps$Text", name := "actBox", desc := "(I)V" } : Jvm.MethodName) prog_10_method_7_code (2 : Nat) (Option.none : Option Jvm.ClassFile.FieldType)) ∈ lw_tbl := tw_tb4 (List.mem_of_getElem? (i := 114) rfl)
theorem kw_835 : (Jvm.Cond.arrayClass Jvm.ClassFile.FieldType.byte) ∈ lw_tbl := tw_tb4 (List.mem_of_getElem? (i := 115) rfl)
theorem kw_836 : (Jvm.Cond.methodLink "RaceByLapsLaw" (79 : Nat) ({ cls := "RaceByLaps", name := "unplan", desc := "(I)Z" } : Jvm.MethodName)) ∈ lw_tbl := tw_tb4 (List.mem_of_getElem? (i := 116) rfl)
theorem kw_837 : (Jvm.Cond.instanceMethod ({ cls := "RaceByLaps", name := "unplan", desc := "(I)Z" } : Jvm.MethodName)) ∈ lw_tbl := tw_tb4 (List.mem_of_getElem? (i := 117) rfl)
theorem kw_838 : (Jvm.Cond.selects "RaceByLaps" ({ cls := "RaceByLaps", name := "unplan", desc := "(I)Z" } : Jvm.MethodName) ({ cls := "RaceByLaps", name := "unplan", desc := "(I)Z" } : Jvm.MethodName)) ∈ lw_tbl := tw_tb4 (List.mem_of_getElem? (i := 118) rfl)
theorem kw_839 : (Jvm.Cond.code ({ cls := "RaceByLaps", name := "unplan", desc := "(I)Z" } : Jvm.MethodName) prog_1_method_14_code (2 : Nat) (Option.some Jvm.ClassFile.FieldType.boolean)) ∈ lw_tbl := tw_tb4 (List.mem_of_getElem? (i := 119) rfl)
theorem kw_840 : (Jvm.Cond.methodLink "RaceByLapsLaw" (84 : Nat) ({ cls := "RaceByLaps", name := "count", desc := "(I)I" } : Jvm.MethodName)) ∈ lw_tbl := tw_tb4 (List.mem_of_getElem? (i := 120) rfl)
theorem kw_841 : (Jvm.Cond.instanceMethod ({ cls := "RaceByLaps", name := "count", desc := "(I)I" } : Jvm.MethodName)) ∈ lw_tbl := tw_tb4 (List.mem_of_getElem? (i := 121) rfl)
theorem kw_842 : (Jvm.Cond.selects "RaceByLaps" ({ cls := "RaceByLaps", name := "count", desc := "(I)I" } : Jvm.MethodName) ({ cls := "RaceByLaps", name := "count", desc := "(I)I" } : Jvm.MethodName)) ∈ lw_tbl := tw_tb4 (List.mem_of_getElem? (i := 122) rfl)
theorem kw_843 : (Jvm.Cond.code ({ cls := "RaceByLaps", name := "count", desc := "(I)I" } : Jvm.MethodName) prog_1_method_15_code (2 : Nat) (Option.some Jvm.ClassFile.FieldType.int)) ∈ lw_tbl := tw_tb4 (List.mem_of_getElem? (i := 123) rfl)
theorem kw_844 : (Jvm.Cond.methodLink "RaceByLaps" (221 : Nat) ({ cls := "RaceByLaps$Race", name := "optionCount", desc := "()I" } : Jvm.MethodName)) ∈ lw_tbl := tw_tb4 (List.mem_of_getElem? (i := 124) rfl)
theorem kw_845 : (Jvm.Cond.instanceMethod ({ cls := "RaceByLaps$Race", name := "optionCount", desc := "()I" } : Jvm.MethodName)) ∈ lw_tbl := tw_tb4 (List.mem_of_getElem? (i := 125) rfl)
theorem kw_846 : (Jvm.Cond.selects "RaceByLaps$Race" ({ cls := "RaceByLaps$Race", name := "optionCount", desc := "()I" } : Jvm.MethodName) ({ cls := "RaceByLaps$Race", name := "optionCount", desc := "()I" } : Jvm.MethodName)) ∈ lw_tbl := tw_tb4 (List.mem_of_getElem? (i := 126) rfl)
theorem kw_847 : (Jvm.Cond.code ({ cls := "RaceByLaps$Race", name := "optionCount", desc := "()I" } : Jvm.MethodName) prog_4_method_3_code (3 : Nat) (Option.some Jvm.ClassFile.FieldType.int)) ∈ lw_tbl := tw_tb4 (List.mem_of_getElem? (i := 127) rfl)
theorem kw_848 : (Jvm.Cond.methodLink "RaceByLapsLaw" (98 : Nat) ({ cls := "RaceByLaps", name := "at", desc := "(III)I" } : Jvm.MethodName)) ∈ lw_tbl := tw_tb4 (List.mem_of_getElem? (i := 128) rfl)
theorem kw_849 : (Jvm.Cond.instanceMethod ({ cls := "RaceByLaps", name := "at", desc := "(III)I" } : Jvm.MethodName)) ∈ lw_tbl := tw_tb4 (List.mem_of_getElem? (i := 129) rfl)
theorem kw_850 : (Jvm.Cond.selects "RaceByLaps" ({ cls := "RaceByLaps", name := "at", desc := "(III)I" } : Jvm.MethodName) ({ cls := "RaceByLaps", name := "at", desc := "(III)I" } : Jvm.MethodName)) ∈ lw_tbl := tw_tb4 (List.mem_of_getElem? (i := 130) rfl)
theorem kw_851 : (Jvm.Cond.code ({ cls := "RaceByLaps", name := "at", desc := "(III)I" } : Jvm.MethodName) prog_1_method_17_code (4 : Nat) (Option.some Jvm.ClassFile.FieldType.int)) ∈ lw_tbl := tw_tb4 (List.mem_of_getElem? (i := 131) rfl)
theorem kw_852 : (Jvm.Cond.methodLink "RaceByLaps" (239 : Nat) ({ cls := "RaceByLaps$Track", name := "hasLine", desc := "(II)Z" } : Jvm.MethodName)) ∈ lw_tbl := tw_tb4 (List.mem_of_getElem? (i := 132) rfl)
theorem kw_853 : (Jvm.Cond.instanceMethod ({ cls := "RaceByLaps$Track", name := "hasLine", desc := "(II)Z" } : Jvm.MethodName)) ∈ lw_tbl := tw_tb4 (List.mem_of_getElem? (i := 133) rfl)
theorem kw_854 : (Jvm.Cond.selects "RaceByLaps$Track" ({ cls := "RaceByLaps$Track", name := "hasLine", desc := "(II)Z" } : Jvm.MethodName) ({ cls := "RaceByLaps$Track", name := "hasLine", desc := "(II)Z" } : Jvm.MethodName)) ∈ lw_tbl := tw_tb4 (List.mem_of_getElem? (i := 134) rfl)
theorem kw_855 : (Jvm.Cond.code ({ cls := "RaceByLaps$Track", name := "hasLine", desc := "(II)Z" } : Jvm.MethodName) prog_11_method_4_code (3 : Nat) (Option.some Jvm.ClassFile.FieldType.boolean)) ∈ lw_tbl := tw_tb4 (List.mem_of_getElem? (i := 135) rfl)
theorem kw_856 : (Jvm.Cond.methodLink "RaceByLaps$Track" (63 : Nat) ({ cls := "RaceByLaps$Track", name := "hasSector", desc := "(I)Z" } : Jvm.MethodName)) ∈ lw_tbl := tw_tb4 (List.mem_of_getElem? (i := 136) rfl)
theorem kw_857 : (Jvm.Cond.methodLink "RaceByLaps" (227 : Nat) ({ cls := "RaceByLaps$Race", name := "reckon", desc := "()V" } : Jvm.MethodName)) ∈ lw_tbl := tw_tb4 (List.mem_of_getElem? (i := 137) rfl)
theorem kw_858 : (Jvm.Cond.instanceMethod ({ cls := "RaceByLaps$Race", name := "reckon", desc := "()V" } : Jvm.MethodName)) ∈ lw_tbl := tw_tb4 (List.mem_of_getElem? (i := 138) rfl)
theorem kw_859 : (Jvm.Cond.selects "RaceByLaps$Race" ({ cls := "RaceByLaps$Race", name := "reckon", desc := "()V" } : Jvm.MethodName) ({ cls := "RaceByLaps$Race", name := "reckon", desc := "()V" } : Jvm.MethodName)) ∈ lw_tbl := tw_tb4 (List.mem_of_getElem? (i := 139) rfl)
theorem kw_860 : (Jvm.Cond.code ({ cls := "RaceByLaps$Race", name := "reckon", desc := "()V" } : Jvm.MethodName) prog_4_method_4_code (1 : Nat) (Option.none : Option Jvm.ClassFile.FieldType)) ∈ lw_tbl := tw_tb4 (List.mem_of_getElem? (i := 140) rfl)
theorem kw_861 : (Jvm.Cond.methodLink "RaceByLaps$Race" (58 : Nat) ({ cls := "RaceByLaps$Race", name := "run", desc := "()V" } : Jvm.MethodName)) ∈ lw_tbl := tw_tb4 (List.mem_of_getElem? (i := 141) rfl)
theorem kw_862 : (Jvm.Cond.instanceMethod ({ cls := "RaceByLaps$Race", name := "run", desc := "()V" } : Jvm.MethodName)) ∈ lw_tbl := tw_tb4 (List.mem_of_getElem? (i := 142) rfl)
theorem kw_863 : (Jvm.Cond.selects "RaceByLaps$Race" ({ cls := "RaceByLaps$Race", name := "run", desc := "()V" } : Jvm.MethodName) ({ cls := "RaceByLaps$Race", name := "run", desc := "()V" } : Jvm.MethodName)) ∈ lw_tbl := tw_tb4 (List.mem_of_getElem? (i := 143) rfl)
theorem kw_864 : (Jvm.Cond.code ({ cls := "RaceByLaps$Race", name := "run", desc := "()V" } : Jvm.MethodName) prog_4_method_5_code (3 : Nat) (Option.none : Option Jvm.ClassFile.FieldType)) ∈ lw_tbl := tw_tb4 (List.mem_of_getElem? (i := 144) rfl)
theorem kw_865 : (Jvm.Cond.methodLink "RaceByLaps$Race" (64 : Nat) ({ cls := "java/util/Arrays", name := "fill", desc := "([II)V" } : Jvm.MethodName)) ∈ lw_tbl := tw_tb4 (List.mem_of_getElem? (i := 145) rfl)
theorem kw_866 : (Jvm.Cond.static ({ cls := "java/util/Arrays", name := "fill", desc := "([II)V" } : Jvm.MethodName)) ∈ lw_tbl := tw_tb4 (List.mem_of_getElem? (i := 146) rfl)
theorem kw_867 : (Jvm.Cond.code ({ cls := "java/util/Arrays", name := "fill", desc := "([II)V" } : Jvm.MethodName) prog_29_method_103_code (4 : Nat) (Option.none : Option Jvm.ClassFile.FieldType)) ∈ lw_tbl := tw_tb4 (List.mem_of_getElem? (i := 147) rfl)
theorem kw_868 : (Jvm.Cond.methodLink "RaceByLaps$Race" (75 : Nat) ({ cls := "RaceByLaps$Runner", name := "start", desc := "(LRaceByLaps$Car;I)V" } : Jvm.MethodName)) ∈ lw_tbl := tw_tb4 (List.mem_of_getElem? (i := 148) rfl)
theorem kw_869 : (Jvm.Cond.instanceMethod ({ cls := "RaceByLaps$Runner", name := "start", desc := "(LRaceByLaps$Car;I)V" } : Jvm.MethodName)) ∈ lw_tbl := tw_tb4 (List.mem_of_getElem? (i := 149) rfl)
theorem kw_870 : (Jvm.Cond.selects "RaceByLaps$Runner" ({ cls := "RaceByLaps$Runner", name := "start", desc := "(LRaceByLaps$Car;I)V" } : Jvm.MethodName) ({ cls := "RaceByLaps$Runner", name := "start", desc := "(LRaceByLaps$Car;I)V" } : Jvm.MethodName)) ∈ lw_tbl := tw_tb4 (List.mem_of_getElem? (i := 150) rfl)
theorem kw_871 : (Jvm.Cond.code ({ cls := "RaceByLaps$Runner", name := "start", desc := "(LRaceByLaps$Car;I)V" } : Jvm.MethodName) prog_8_method_2_code (5 : Nat) (Option.none : Option Jvm.ClassFile.FieldType)) ∈ lw_tbl := tw_tb4 (List.mem_of_getElem? (i := 151) rfl)
theorem kw_872 : (Jvm.Cond.methodLink "RaceByLaps$Runner" (85 : Nat) ({ cls := "RaceByLaps$Table", name := "cell", desc := "(II)I" } : Jvm.MethodName)) ∈ lw_tbl := tw_tb4 (List.mem_of_getElem? (i := 152) rfl)
theorem kw_873 : (Jvm.Cond.methodLink "RaceByLaps$Runner" (89 : Nat) ({ cls := "java/util/Arrays", name := "fill", desc := "([II)V" } : Jvm.MethodName)) ∈ lw_tbl := tw_tb4 (List.mem_of_getElem? (i := 153) rfl)
theorem kw_874 : (Jvm.Cond.methodLink "RaceByLaps$Race" (79 : Nat) ({ cls := "RaceByLaps$Race", name := "nextToGo", desc := "()I" } : Jvm.MethodName)) ∈ lw_tbl := tw_tb4 (List.mem_of_getElem? (i := 154) rfl)
theorem kw_875 : (Jvm.Cond.privateMethod ({ cls := "RaceByLaps$Race", name := "nextToGo", desc := "()I" } : Jvm.MethodName)) ∈ lw_tbl := tw_tb4 (List.mem_of_getElem? (i := 155) rfl)
theorem kw_876 : (Jvm.Cond.instanceMethod ({ cls := "RaceByLaps$Race", name := "nextToGo", desc := "()I" } : Jvm.MethodName)) ∈ lw_tbl := tw_tb4 (List.mem_of_getElem? (i := 156) rfl)
theorem kw_877 : (Jvm.Cond.code ({ cls := "RaceByLaps$Race", name := "nextToGo", desc := "()I" } : Jvm.MethodName) prog_4_method_6_code (3 : Nat) (Option.some Jvm.ClassFile.FieldType.int)) ∈ lw_tbl := tw_tb4 (List.mem_of_getElem? (i := 157) rfl)
theorem kw_878 : (Jvm.Cond.methodLink "RaceByLaps$Race" (94 : Nat) ({ cls := "RaceByLaps$Race", name := "goesAhead", desc := "(LRaceByLaps$Runner;LRaceByLaps$Runner;)Z" } : Jvm.MethodName)) ∈ lw_tbl := tw_tb4 (List.mem_of_getElem? (i := 158) rfl)
theorem kw_879 : (Jvm.Cond.static ({ cls := "RaceByLaps$Race", name := "goesAhead", desc := "(LRaceByLaps$Runner;LRaceByLaps$Runner;)Z" } : Jvm.MethodName)) ∈ lw_tbl := tw_tb4 (List.mem_of_getElem? (i := 159) rfl)
theorem kw_880 : (Jvm.Cond.code ({ cls := "RaceByLaps$Race", name := "goesAhead", desc := "(LRaceByLaps$Runner;LRaceByLaps$Runner;)Z" } : Jvm.MethodName) prog_4_method_7_code (2 : Nat) (Option.some Jvm.ClassFile.FieldType.boolean)) ∈ lw_tbl := tw_tb4 (List.mem_of_getElem? (i := 160) rfl)
theorem kw_881 : (Jvm.Cond.methodLink "RaceByLaps$Race" (83 : Nat) ({ cls := "RaceByLaps$Race", name := "has", desc := "(I)Z" } : Jvm.MethodName)) ∈ lw_tbl := tw_tb4 (List.mem_of_getElem? (i := 161) rfl)
theorem kw_882 : (Jvm.Cond.methodLink "RaceByLaps$Race" (87 : Nat) ({ cls := "RaceByLaps$Race", name := "goOn", desc := "(ILRaceByLaps$Car;LRaceByLaps$Runner;)V" } : Jvm.MethodName)) ∈ lw_tbl := tw_tb4 (List.mem_of_getElem? (i := 162) rfl)
theorem kw_883 : (Jvm.Cond.privateMethod ({ cls := "RaceByLaps$Race", name := "goOn", desc := "(ILRaceByLaps$Car;LRaceByLaps$Runner;)V" } : Jvm.MethodName)) ∈ lw_tbl := tw_tb4 (List.mem_of_getElem? (i := 163) rfl)
theorem kw_884 : (Jvm.Cond.instanceMethod ({ cls := "RaceByLaps$Race", name := "goOn", desc := "(ILRaceByLaps$Car;LRaceByLaps$Runner;)V" } : Jvm.MethodName)) ∈ lw_tbl := tw_tb4 (List.mem_of_getElem? (i := 164) rfl)
theorem kw_885 : (Jvm.Cond.code ({ cls := "RaceByLaps$Race", name := "goOn", desc := "(ILRaceByLaps$Car;LRaceByLaps$Runner;)V" } : Jvm.MethodName) prog_4_method_8_code (11 : Nat) (Option.none : Option Jvm.ClassFile.FieldType)) ∈ lw_tbl := tw_tb4 (List.mem_of_getElem? (i := 165) rfl)
theorem kw_886 : (Jvm.Cond.methodLink "RaceByLaps$Race" (104 : Nat) ({ cls := "RaceByLaps$Track", name := "sectorOf", desc := "(I)I" } : Jvm.MethodName)) ∈ lw_tbl := tw_tb4 (List.mem_of_getElem? (i := 166) rfl)
theorem kw_887 : (Jvm.Cond.instanceMethod ({ cls := "RaceByLaps$Track", name := "sectorOf", desc := "(I)I" } : Jvm.MethodName)) ∈ lw_tbl := tw_tb4 (List.mem_of_getElem? (i := 167) rfl)
theorem kw_888 : (Jvm.Cond.selects "RaceByLaps$Track" ({ cls := "RaceByLaps$Track", name := "sectorOf", desc := "(I)I" } : Jvm.MethodName) ({ cls := "RaceByLaps$Track", name := "sectorOf", desc := "(I)I" } : Jvm.MethodName)) ∈ lw_tbl := tw_tb4 (List.mem_of_getElem? (i := 168) rfl)
theorem kw_889 : (Jvm.Cond.code ({ cls := "RaceByLaps$Track", name := "sectorOf", desc := "(I)I" } : Jvm.MethodName) prog_11_method_6_code (2 : Nat) (Option.some Jvm.ClassFile.FieldType.int)) ∈ lw_tbl := tw_tb4 (List.mem_of_getElem? (i := 169) rfl)
theorem kw_890 : (Jvm.Cond.methodLink "RaceByLaps$Race" (108 : Nat) ({ cls := "RaceByLaps$Race", name := "hear", desc := "(LRaceByLaps$Car;LRaceByLaps$Runner;I)V" } : Jvm.MethodName)) ∈ lw_tbl := tw_tb4 (List.mem_of_getElem? (i := 170) rfl)
theorem kw_891 : (Jvm.Cond.privateMethod ({ cls := "RaceByLaps$Race", name := "hear", desc := "(LRaceByLaps$Car;LRaceByLaps$Runner;I)V" } : Jvm.MethodName)) ∈ lw_tbl := tw_tb4 (List.mem_of_getElem? (i := 171) rfl)
theorem kw_892 : (Jvm.Cond.instanceMethod ({ cls := "RaceByLaps$Race", name := "hear", desc := "(LRaceByLaps$Car;LRaceByLaps$Runner;I)V" } : Jvm.MethodName)) ∈ lw_tbl := tw_tb4 (List.mem_of_getElem? (i := 172) rfl)
theorem kw_893 : (Jvm.Cond.code ({ cls := "RaceByLaps$Race", name := "hear", desc := "(LRaceByLaps$Car;LRaceByLaps$Runner;I)V" } : Jvm.MethodName) prog_4_method_9_code (5 : Nat) (Option.none : Option Jvm.ClassFile.FieldType)) ∈ lw_tbl := tw_tb4 (List.mem_of_getElem? (i := 173) rfl)
theorem kw_894 : (Jvm.Cond.methodLink "RaceByLaps$Race" (121 : Nat) ({ cls := "RaceByLaps$Table", name := "cell", desc := "(II)I" } : Jvm.MethodName)) ∈ lw_tbl := tw_tb4 (List.mem_of_getElem? (i := 174) rfl)
theorem kw_895 : (Jvm.Cond.methodLink "RaceByLaps$Race" (134 : Nat) ({ cls := "RaceByLaps$Runner", name := "rest", desc := "(II)V" } : Jvm.MethodName)) ∈ lw_tbl := tw_tb4 (List.mem_of_getElem? (i := 175) rfl)
theorem kw_896 : (Jvm.Cond.instanceMethod ({ cls := "RaceByLaps$Runner", name := "rest", desc := "(II)V" } : Jvm.MethodName)) ∈ lw_tbl := tw_tb4 (List.mem_of_getElem? (i := 176) rfl)
theorem kw_897 : (Jvm.Cond.selects "RaceByLaps$Runner" ({ cls := "RaceByLaps$Runner", name := "rest", desc := "(II)V" } : Jvm.MethodName) ({ cls := "RaceByLaps$Runner", name := "rest", desc := "(II)V" } : Jvm.MethodName)) ∈ lw_tbl := tw_tb4 (List.mem_of_getElem? (i := 177) rfl)
theorem kw_898 : (Jvm.Cond.code ({ cls := "RaceByLaps$Runner", name := "rest", desc := "(II)V" } : Jvm.MethodName) prog_8_method_5_code (3 : Nat) (Option.none : Option Jvm.ClassFile.FieldType)) ∈ lw_tbl := tw_tb4 (List.mem_of_getElem? (i := 178) rfl)
theorem kw_899 : (Jvm.Cond.methodLink "RaceByLaps$Race" (138 : Nat) ({ cls := "RaceByLaps$Track", name := "slowAt", desc := "(I)Z" } : Jvm.MethodName)) ∈ lw_tbl := tw_tb4 (List.mem_of_getElem? (i := 179) rfl)
theorem kw_900 : (Jvm.Cond.instanceMethod ({ cls := "RaceByLaps$Track", name := "slowAt", desc := "(I)Z" } : Jvm.MethodName)) ∈ lw_tbl := tw_tb4 (List.mem_of_getElem? (i := 180) rfl)
theorem kw_901 : (Jvm.Cond.selects "RaceByLaps$Track" ({ cls := "RaceByLaps$Track", name := "slowAt", desc := "(I)Z" } : Jvm.MethodName) ({ cls := "RaceByLaps$Track", name := "slowAt", desc := "(I)Z" } : Jvm.MethodName)) ∈ lw_tbl := tw_tb4 (List.mem_of_getElem? (i := 181) rfl)
theorem kw_902 : (Jvm.Cond.code ({ cls := "RaceByLaps$Track", name := "slowAt", desc := "(I)Z" } : Jvm.MethodName) prog_11_method_11_code (3 : Nat) (Option.some Jvm.ClassFile.FieldType.boolean)) ∈ lw_tbl := tw_tb4 (List.mem_of_getElem? (i := 182) rfl)
theorem kw_903 : (Jvm.Cond.methodLink "RaceByLaps$Track" (71 : Nat) ({ cls := "RaceByLaps$Table", name := "cell", desc := "(II)I" } : Jvm.MethodName)) ∈ lw_tbl := tw_tb4 (List.mem_of_getElem? (i := 183) rfl)
theorem kw_904 : (Jvm.Cond.methodLink "RaceByLaps$Race" (141 : Nat) ({ cls := "RaceByLaps$Race", name := "slowTime", desc := "(II)I" } : Jvm.MethodName)) ∈ lw_tbl := tw_tb4 (List.mem_of_getElem? (i := 184) rfl)
theorem kw_905 : (Jvm.Cond.privateMethod ({ cls := "RaceByLaps$Race", name := "slowTime", desc := "(II)I" } : Jvm.MethodName)) ∈ lw_tbl := tw_tb4 (List.mem_of_getElem? (i := 185) rfl)
theorem kw_906 : (Jvm.Cond.instanceMethod ({ cls := "RaceByLaps$Race", name := "slowTime", desc := "(II)I" } : Jvm.MethodName)) ∈ lw_tbl := tw_tb4 (List.mem_of_getElem? (i := 186) rfl)
theorem kw_907 : (Jvm.Cond.code ({ cls := "RaceByLaps$Race", name := "slowTime", desc := "(II)I" } : Jvm.MethodName) prog_4_method_10_code (5 : Nat) (Option.some Jvm.ClassFile.FieldType.int)) ∈ lw_tbl := tw_tb4 (List.mem_of_getElem? (i := 187) rfl)
theorem kw_908 : (Jvm.Cond.methodLink "RaceByLaps$Race" (144 : Nat) ({ cls := "RaceByLaps$Race", name := "freeTime", desc := "(LRaceByLaps$Car;LRaceByLaps$Runner;II)I" } : Jvm.MethodName)) ∈ lw_tbl := tw_tb4 (List.mem_of_getElem? (i := 188) rfl)
theorem kw_909 : (Jvm.Cond.privateMethod ({ cls := "RaceByLaps$Race", name := "freeTime", desc := "(LRaceByLaps$Car;LRaceByLaps$Runner;II)I" } : Jvm.MethodName)) ∈ lw_tbl := tw_tb4 (List.mem_of_getElem? (i := 189) rfl)
theorem kw_910 : (Jvm.Cond.instanceMethod ({ cls := "RaceByLaps$Race", name := "freeTime", desc := "(LRaceByLaps$Car;LRaceByLaps$Runner;II)I" } : Jvm.MethodName)) ∈ lw_tbl := tw_tb4 (List.mem_of_getElem? (i := 190) rfl)
theorem kw_911 : (Jvm.Cond.code ({ cls := "RaceByLaps$Race", name := "freeTime", desc := "(LRaceByLaps$Car;LRaceByLaps$Runner;II)I" } : Jvm.MethodName) prog_4_method_11_code (9 : Nat) (Option.some Jvm.ClassFile.FieldType.int)) ∈ lw_tbl := tw_tb4 (List.mem_of_getElem? (i := 191) rfl)
theorem kw_912 : (Jvm.Cond.methodLink "RaceByLaps$Race" (178 : Nat) ({ cls := "RaceByLaps$Runner", name := "age", desc := "()I" } : Jvm.MethodName)) ∈ lw_tbl := tw_tb4 (List.mem_of_getElem? (i := 192) rfl)
theorem kw_913 : (Jvm.Cond.instanceMethod ({ cls := "RaceByLaps$Runner", name := "age", desc := "()I" } : Jvm.MethodName)) ∈ lw_tbl := tw_tb4 (List.mem_of_getElem? (i := 193) rfl)
theorem kw_914 : (Jvm.Cond.selects "RaceByLaps$Runner" ({ cls := "RaceByLaps$Runner", name := "age", desc := "()I" } : Jvm.MethodName) ({ cls := "RaceByLaps$Runner", name := "age", desc := "()I" } : Jvm.MethodName)) ∈ lw_tbl := tw_tb4 (List.mem_of_getElem? (i := 194) rfl)
theorem kw_915 : (Jvm.Cond.code ({ cls := "RaceByLaps$Runner", name := "age", desc := "()I" } : Jvm.MethodName) prog_8_method_3_code (1 : Nat) (Option.some Jvm.ClassFile.FieldType.int)) ∈ lw_tbl := tw_tb4 (List.mem_of_getElem? (i := 195) rfl)
theorem kw_916 : (Jvm.Cond.methodLinkNest "RaceByLaps$Runner" (95 : Nat) ({ cls := "RaceByLaps", name := "isIndex", desc := "(II)Z" } : Jvm.MethodName) "RaceByLaps") ∈ lw_tbl := tw_tb4 (List.mem_of_getElem? (i := 196) rfl)
theorem kw_917 : (Jvm.Cond.methodLink "RaceByLaps$Race" (181 : Nat) ({ cls := "RaceByLaps$Track", name := "wetAt", desc := "(II)I" } : Jvm.MethodName)) ∈ lw_tbl := tw_tb4 (List.mem_of_getElem? (i := 197) rfl)
theorem kw_918 : (Jvm.Cond.instanceMethod ({ cls := "RaceByLaps$Track", name := "wetAt", desc := "(II)I" } : Jvm.MethodName)) ∈ lw_tbl := tw_tb4 (List.mem_of_getElem? (i := 198) rfl)
theorem kw_919 : (Jvm.Cond.selects "RaceByLaps$Track" ({ cls := "RaceByLaps$Track", name := "wetAt", desc := "(II)I" } : Jvm.MethodName) ({ cls := "RaceByLaps$Track", name := "wetAt", desc := "(II)I" } : Jvm.MethodName)) ∈ lw_tbl := tw_tb4 (List.mem_of_getElem? (i := 199) rfl)
theorem kw_920 : (Jvm.Cond.code ({ cls := "RaceByLaps$Track", name := "wetAt", desc := "(II)I" } : Jvm.MethodName) prog_11_method_10_code (7 : Nat) (Option.some Jvm.ClassFile.FieldType.int)) ∈ lw_tbl := tw_tb4 (List.mem_of_getElem? (i := 200) rfl)
theorem kw_921 : (Jvm.Cond.methodLink "RaceByLaps$Race" (184 : Nat) ({ cls := "RaceByLaps$Track", name := "tyreNumber", desc := "(II)I" } : Jvm.MethodName)) ∈ lw_tbl := tw_tb4 (List.mem_of_getElem? (i := 201) rfl)
theorem kw_922 : (Jvm.Cond.methodLink "RaceByLaps$Race" (187 : Nat) ({ cls := "java/lang/Math", name := "abs", desc := "(I)I" } : Jvm.MethodName)) ∈ lw_tbl := tw_tb4 (List.mem_of_getElem? (i := 202) rfl)
theorem kw_923 : (Jvm.Cond.static ({ cls := "java/lang/Math", name := "abs", desc := "(I)I" } : Jvm.MethodName)) ∈ lw_tbl := tw_tb4 (List.mem_of_getElem? (i := 203) rfl)
theorem kw_924 : (Jvm.Cond.code ({ cls := "java/lang/Math", name := "abs", desc := "(I)I" } : Jvm.MethodName) prog_21_method_59_code (1 : Nat) (Option.some Jvm.ClassFile.FieldType.int)) ∈ lw_tbl := tw_tb4 (List.mem_of_getElem? (i := 204) rfl)
theorem kw_925 : (Jvm.Cond.methodLink "RaceByLaps$Race" (195 : Nat) ({ cls := "java/lang/Math", name := "max", desc := "(II)I" } : Jvm.MethodName)) ∈ lw_tbl := tw_tb4 (List.mem_of_getElem? (i := 205) rfl)
theorem kw_926 : (Jvm.Cond.methodLink "RaceByLaps$Race" (148 : Nat) ({ cls := "RaceByLaps$Runner", name := "wear", desc := "()V" } : Jvm.MethodName)) ∈ lw_tbl := tw_tb4 (List.mem_of_getElem? (i := 206) rfl)
theorem kw_927 : (Jvm.Cond.instanceMethod ({ cls := "RaceByLaps$Runner", name := "wear", desc := "()V" } : Jvm.MethodName)) ∈ lw_tbl := tw_tb4 (List.mem_of_getElem? (i := 207) rfl)
theorem kw_928 : (Jvm.Cond.selects "RaceByLaps$Runner" ({ cls := "RaceByLaps$Runner", name := "wear", desc := "()V" } : Jvm.MethodName) ({ cls := "RaceByLaps$Runner", name := "wear", desc := "()V" } : Jvm.MethodName)) ∈ lw_tbl := tw_tb4 (List.mem_of_getElem? (i := 208) rfl)
theorem kw_929 : (Jvm.Cond.code ({ cls := "RaceByLaps$Runner", name := "wear", desc := "()V" } : Jvm.MethodName) prog_8_method_4_code (1 : Nat) (Option.none : Option Jvm.ClassFile.FieldType)) ∈ lw_tbl := tw_tb4 (List.mem_of_getElem? (i := 209) rfl)
theorem kw_930 : (Jvm.Cond.methodLink "RaceByLaps$Race" (151 : Nat) ({ cls := "RaceByLaps$Race", name := "heldEnd", desc := "(IIII)I" } : Jvm.MethodName)) ∈ lw_tbl := tw_tb4 (List.mem_of_getElem? (i := 210) rfl)
theorem kw_931 : (Jvm.Cond.privateMethod ({ cls := "RaceByLaps$Race", name := "heldEnd", desc := "(IIII)I" } : Jvm.MethodName)) ∈ lw_tbl := tw_tb4 (List.mem_of_getElem? (i := 211) rfl)
theorem kw_932 : (Jvm.Cond.instanceMethod ({ cls := "RaceByLaps$Race", name := "heldEnd", desc := "(IIII)I" } : Jvm.MethodName)) ∈ lw_tbl := tw_tb4 (List.mem_of_getElem? (i := 212) rfl)
theorem kw_933 : (Jvm.Cond.code ({ cls := "RaceByLaps$Race", name := "heldEnd", desc := "(IIII)I" } : Jvm.MethodName) prog_4_method_12_code (9 : Nat) (Option.some Jvm.ClassFile.FieldType.int)) ∈ lw_tbl := tw_tb4 (List.mem_of_getElem? (i := 213) rfl)
theorem kw_934 : (Jvm.Cond.methodLink "RaceByLaps$Race" (198 : Nat) ({ cls := "RaceByLaps$Race", name := "latestBefore", desc := "(III)I" } : Jvm.MethodName)) ∈ lw_tbl := tw_tb4 (List.mem_of_getElem? (i := 214) rfl)
theorem kw_935 : (Jvm.Cond.privateMethod ({ cls := "RaceByLaps$Race", name := "latestBefore", desc := "(III)I" } : Jvm.MethodName)) ∈ lw_tbl := tw_tb4 (List.mem_of_getElem? (i := 215) rfl)
theorem kw_936 : (Jvm.Cond.instanceMethod ({ cls := "RaceByLaps$Race", name := "latestBefore", desc := "(III)I" } : Jvm.MethodName)) ∈ lw_tbl := tw_tb4 (List.mem_of_getElem? (i := 216) rfl)
theorem kw_937 : (Jvm.Cond.code ({ cls := "RaceByLaps$Race", name := "latestBefore", desc := "(III)I" } : Jvm.MethodName) prog_4_method_13_code (8 : Nat) (Option.some Jvm.ClassFile.FieldType.int)) ∈ lw_tbl := tw_tb4 (List.mem_of_getElem? (i := 217) rfl)
theorem kw_938 : (Jvm.Cond.methodLink "RaceByLaps$Race" (205 : Nat) ({ cls := "RaceByLaps$Race", name := "passes", desc := "(LRaceByLaps$Runner;LRaceByLaps$Runner;III)Z" } : Jvm.MethodName)) ∈ lw_tbl := tw_tb4 (List.mem_of_getElem? (i := 218) rfl)
theorem kw_939 : (Jvm.Cond.privateMethod ({ cls := "RaceByLaps$Race", name := "passes", desc := "(LRaceByLaps$Runner;LRaceByLaps$Runner;III)Z" } : Jvm.MethodName)) ∈ lw_tbl := tw_tb4 (List.mem_of_getElem? (i := 219) rfl)
theorem kw_940 : (Jvm.Cond.instanceMethod ({ cls := "RaceByLaps$Race", name := "passes", desc := "(LRaceByLaps$Runner;LRaceByLaps$Runner;III)Z" } : Jvm.MethodName)) ∈ lw_tbl := tw_tb4 (List.mem_of_getElem? (i := 220) rfl)
theorem kw_941 : (Jvm.Cond.code ({ cls := "RaceByLaps$Race", name := "passes", desc := "(LRaceByLaps$Runner;LRaceByLaps$Runner;III)Z" } : Jvm.MethodName) prog_4_method_14_code (8 : Nat) (Option.some Jvm.ClassFile.FieldType.boolean)) ∈ lw_tbl := tw_tb4 (List.mem_of_getElem? (i := 221) rfl)
theorem kw_942 : (Jvm.Cond.methodLink "RaceByLaps$Race" (218 : Nat) ({ cls := "RaceByLaps$Track", name := "yellowAt", desc := "(II)Z" } : Jvm.MethodName)) ∈ lw_tbl := tw_tb4 (List.mem_of_getElem? (i := 222) rfl)
theorem kw_943 : (Jvm.Cond.instanceMethod ({ cls := "RaceByLaps$Track", name := "yellowAt", desc := "(II)Z" } : Jvm.MethodName)) ∈ lw_tbl := tw_tb4 (List.mem_of_getElem? (i := 223) rfl)
theorem kw_944 : (Jvm.Cond.selects "RaceByLaps$Track" ({ cls := "RaceByLaps$Track", name := "yellowAt", desc := "(II)Z" } : Jvm.MethodName) ({ cls := "RaceByLaps$Track", name := "yellowAt", desc := "(II)Z" } : Jvm.MethodName)) ∈ lw_tbl := tw_tb4 (List.mem_of_getElem? (i := 224) rfl)
theorem kw_945 : (Jvm.Cond.code ({ cls := "RaceByLaps$Track", name := "yellowAt", desc := "(II)Z" } : Jvm.MethodName) prog_11_method_12_code (6 : Nat) (Option.some Jvm.ClassFile.FieldType.boolean)) ∈ lw_tbl := tw_tb4 (List.mem_of_getElem? (i := 225) rfl)
theorem kw_946 : (Jvm.Cond.methodLink "RaceByLaps$Race" (155 : Nat) ({ cls := "RaceByLaps$Runner", name := "endLine", desc := "(IIII)V" } : Jvm.MethodName)) ∈ lw_tbl := tw_tb4 (List.mem_of_getElem? (i := 226) rfl)
theorem kw_947 : (Jvm.Cond.instanceMethod ({ cls := "RaceByLaps$Runner", name := "endLine", desc := "(IIII)V" } : Jvm.MethodName)) ∈ lw_tbl := tw_tb4 (List.mem_of_getElem? (i := 227) rfl)
theorem kw_948 : (Jvm.Cond.selects "RaceByLaps$Runner" ({ cls := "RaceByLaps$Runner", name := "endLine", desc := "(IIII)V" } : Jvm.MethodName) ({ cls := "RaceByLaps$Runner", name := "endLine", desc := "(IIII)V" } : Jvm.MethodName)) ∈ lw_tbl := tw_tb4 (List.mem_of_getElem? (i := 228) rfl)
theorem kw_949 : (Jvm.Cond.code ({ cls := "RaceByLaps$Runner", name := "endLine", desc := "(IIII)V" } : Jvm.MethodName) prog_8_method_6_code (5 : Nat) (Option.none : Option Jvm.ClassFile.FieldType)) ∈ lw_tbl := tw_tb4 (List.mem_of_getElem? (i := 229) rfl)
theorem kw_950 : (Jvm.Cond.methodLink "RaceByLaps$Race" (162 : Nat) ({ cls := "RaceByLaps$Track", name := "lapOf", desc := "(I)I" } : Jvm.MethodName)) ∈ lw_tbl := tw_tb4 (List.mem_of_getElem? (i := 230) rfl)
theorem kw_951 : (Jvm.Cond.instanceMethod ({ cls := "RaceByLaps$Track", name := "lapOf", desc := "(I)I" } : Jvm.MethodName)) ∈ lw_tbl := tw_tb4 (List.mem_of_getElem? (i := 231) rfl)
theorem kw_952 : (Jvm.Cond.selects "RaceByLaps$Track" ({ cls := "RaceByLaps$Track", name := "lapOf", desc := "(I)I" } : Jvm.MethodName) ({ cls := "RaceByLaps$Track", name := "lapOf", desc := "(I)I" } : Jvm.MethodName)) ∈ lw_tbl := tw_tb4 (List.mem_of_getElem? (i := 232) rfl)
theorem kw_953 : (Jvm.Cond.code ({ cls := "RaceByLaps$Track", name := "lapOf", desc := "(I)I" } : Jvm.MethodName) prog_11_method_7_code (2 : Nat) (Option.some Jvm.ClassFile.FieldType.int)) ∈ lw_tbl := tw_tb4 (List.mem_of_getElem? (i := 233) rfl)
theorem kw_954 : (Jvm.Cond.methodLink "RaceByLaps$Race" (165 : Nat) ({ cls := "RaceByLaps$Race", name := "endLap", desc := "(ILRaceByLaps$Car;LRaceByLaps$Runner;II)V" } : Jvm.MethodName)) ∈ lw_tbl := tw_tb4 (List.mem_of_getElem? (i := 234) rfl)
theorem kw_955 : (Jvm.Cond.privateMethod ({ cls := "RaceByLaps$Race", name := "endLap", desc := "(ILRaceByLaps$Car;LRaceByLaps$Runner;II)V" } : Jvm.MethodName)) ∈ lw_tbl := tw_tb4 (List.mem_of_getElem? (i := 235) rfl)
theorem kw_956 : (Jvm.Cond.instanceMethod ({ cls := "RaceByLaps$Race", name := "endLap", desc := "(ILRaceByLaps$Car;LRaceByLaps$Runner;II)V" } : Jvm.MethodName)) ∈ lw_tbl := tw_tb4 (List.mem_of_getElem? (i := 236) rfl)
theorem kw_957 : (Jvm.Cond.code ({ cls := "RaceByLaps$Race", name := "endLap", desc := "(ILRaceByLaps$Car;LRaceByLaps$Runner;II)V" } : Jvm.MethodName) prog_4_method_15_code (9 : Nat) (Option.none : Option Jvm.ClassFile.FieldType)) ∈ lw_tbl := tw_tb4 (List.mem_of_getElem? (i := 237) rfl)
theorem kw_958 : (Jvm.Cond.methodLink "RaceByLaps$Race" (230 : Nat) ({ cls := "RaceByLaps$Race", name := "isRaceWon", desc := "(II)Z" } : Jvm.MethodName)) ∈ lw_tbl := tw_tb4 (List.mem_of_getElem? (i := 238) rfl)
theorem kw_959 : (Jvm.Cond.privateMethod ({ cls := "RaceByLaps$Race", name := "isRaceWon", desc := "(II)Z" } : Jvm.MethodName)) ∈ lw_tbl := tw_tb4 (List.mem_of_getElem? (i := 239) rfl)
theorem kw_960 : (Jvm.Cond.instanceMethod ({ cls := "RaceByLaps$Race", name := "isRaceWon", desc := "(II)Z" } : Jvm.MethodName)) ∈ lw_tbl := tw_tb5 (List.mem_of_getElem? (i := 0) rfl)
theorem kw_961 : (Jvm.Cond.code ({ cls := "RaceByLaps$Race", name := "isRaceWon", desc := "(II)Z" } : Jvm.MethodName) prog_4_method_16_code (6 : Nat) (Option.some Jvm.ClassFile.FieldType.boolean)) ∈ lw_tbl := tw_tb5 (List.mem_of_getElem? (i := 1) rfl)
theorem kw_962 : (Jvm.Cond.methodLink "RaceByLaps$Race" (265 : Nat) ({ cls := "RaceByLaps$Track", name := "lineOf", desc := "(II)I" } : Jvm.MethodName)) ∈ lw_tbl := tw_tb5 (List.mem_of_getElem? (i := 2) rfl)
theorem kw_963 : (Jvm.Cond.instanceMethod ({ cls := "RaceByLaps$Track", name := "lineOf", desc := "(II)I" } : Jvm.MethodName)) ∈ lw_tbl := tw_tb5 (List.mem_of_getElem? (i := 3) rfl)
theorem kw_964 : (Jvm.Cond.selects "RaceByLaps$Track" ({ cls := "RaceByLaps$Track", name := "lineOf", desc := "(II)I" } : Jvm.MethodName) ({ cls := "RaceByLaps$Track", name := "lineOf", desc := "(II)I" } : Jvm.MethodName)) ∈ lw_tbl := tw_tb5 (List.mem_of_getElem? (i := 4) rfl)
theorem kw_965 : (Jvm.Cond.code ({ cls := "RaceByLaps$Track", name := "lineOf", desc := "(II)I" } : Jvm.MethodName) prog_11_method_5_code (3 : Nat) (Option.some Jvm.ClassFile.FieldType.int)) ∈ lw_tbl := tw_tb5 (List.mem_of_getElem? (i := 5) rfl)
theorem kw_966 : (Jvm.Cond.methodLink "RaceByLaps$Race" (268 : Nat) ({ cls := "RaceByLaps$Runner", name := "timeAt", desc := "(I)I" } : Jvm.MethodName)) ∈ lw_tbl := tw_tb5 (List.mem_of_getElem? (i := 6) rfl)
theorem kw_967 : (Jvm.Cond.instanceMethod ({ cls := "RaceByLaps$Runner", name := "timeAt", desc := "(I)I" } : Jvm.MethodName)) ∈ lw_tbl := tw_tb5 (List.mem_of_getElem? (i := 7) rfl)
theorem kw_968 : (Jvm.Cond.selects "RaceByLaps$Runner" ({ cls := "RaceByLaps$Runner", name := "timeAt", desc := "(I)I" } : Jvm.MethodName) ({ cls := "RaceByLaps$Runner", name := "timeAt", desc := "(I)I" } : Jvm.MethodName)) ∈ lw_tbl := tw_tb5 (List.mem_of_getElem? (i := 8) rfl)
theorem kw_969 : (Jvm.Cond.code ({ cls := "RaceByLaps$Runner", name := "timeAt", desc := "(I)I" } : Jvm.MethodName) prog_8_method_7_code (2 : Nat) (Option.some Jvm.ClassFile.FieldType.int)) ∈ lw_tbl := tw_tb5 (List.mem_of_getElem? (i := 9) rfl)
theorem kw_970 : (Jvm.Cond.methodLink "RaceByLaps$Race" (233 : Nat) ({ cls := "RaceByLaps$Car", name := "isAsked", desc := "()Z" } : Jvm.MethodName)) ∈ lw_tbl := tw_tb5 (List.mem_of_getElem? (i := 10) rfl)
theorem kw_971 : (Jvm.Cond.instanceMethod ({ cls := "RaceByLaps$Car", name := "isAsked", desc := "()Z" } : Jvm.MethodName)) ∈ lw_tbl := tw_tb5 (List.mem_of_getElem? (i := 11) rfl)
theorem kw_972 : (Jvm.Cond.selects "RaceByLaps$Car" ({ cls := "RaceByLaps$Car", name := "isAsked", desc := "()Z" } : Jvm.MethodName) ({ cls := "RaceByLaps$Car", name := "isAsked", desc := "()Z" } : Jvm.MethodName)) ∈ lw_tbl := tw_tb5 (List.mem_of_getElem? (i := 12) rfl)
theorem kw_973 : (Jvm.Cond.code ({ cls := "RaceByLaps$Car", name := "isAsked", desc := "()Z" } : Jvm.MethodName) prog_3_method_4_code (1 : Nat) (Option.some Jvm.ClassFile.FieldType.boolean)) ∈ lw_tbl := tw_tb5 (List.mem_of_getElem? (i := 13) rfl)
theorem kw_974 : (Jvm.Cond.methodLink "RaceByLaps$Race" (237 : Nat) ({ cls := "RaceByLaps$Race", name := "setLetters", desc := "(ILRaceByLaps$Car;LRaceByLaps$Runner;II)V" } : Jvm.MethodName)) ∈ lw_tbl := tw_tb5 (List.mem_of_getElem? (i := 14) rfl)
theorem kw_975 : (Jvm.Cond.privateMethod ({ cls := "RaceByLaps$Race", name := "setLetters", desc := "(ILRaceByLaps$Car;LRaceByLaps$Runner;II)V" } : Jvm.MethodName)) ∈ lw_tbl := tw_tb5 (List.mem_of_getElem? (i := 15) rfl)
theorem kw_976 : (Jvm.Cond.instanceMethod ({ cls := "RaceByLaps$Race", name := "setLetters", desc := "(ILRaceByLaps$Car;LRaceByLaps$Runner;II)V" } : Jvm.MethodName)) ∈ lw_tbl := tw_tb5 (List.mem_of_getElem? (i := 16) rfl)
theorem kw_977 : (Jvm.Cond.code ({ cls := "RaceByLaps$Race", name := "setLetters", desc := "(ILRaceByLaps$Car;LRaceByLaps$Runner;II)V" } : Jvm.MethodName) prog_4_method_17_code (11 : Nat) (Option.none : Option Jvm.ClassFile.FieldType)) ∈ lw_tbl := tw_tb5 (List.mem_of_getElem? (i := 17) rfl)
theorem kw_978 : (Jvm.Cond.methodLink "RaceByLaps$Race" (271 : Nat) ({ cls := "RaceByLaps$Reckoner", name := "let", desc := "(CI)V" } : Jvm.MethodName)) ∈ lw_tbl := tw_tb5 (List.mem_of_getElem? (i := 18) rfl)
theorem kw_979 : (Jvm.Cond.instanceMethod ({ cls := "RaceByLaps$Reckoner", name := "let", desc := "(CI)V" } : Jvm.MethodName)) ∈ lw_tbl := tw_tb5 (List.mem_of_getElem? (i := 19) rfl)
theorem kw_980 : (Jvm.Cond.selects "RaceByLaps$Reckoner" ({ cls := "RaceByLaps$Reckoner", name := "let", desc := "(CI)V" } : Jvm.MethodName) ({ cls := "RaceByLaps$Reckoner", name := "let", desc := "(CI)V" } : Jvm.MethodName)) ∈ lw_tbl := tw_tb5 (List.mem_of_getElem? (i := 20) rfl)
theorem kw_981 : (Jvm.Cond.code ({ cls := "RaceByLaps$Reckoner", name := "let", desc := "(CI)V" } : Jvm.MethodName) prog_6_method_2_code (3 : Nat) (Option.none : Option Jvm.ClassFile.FieldType)) ∈ lw_tbl := tw_tb5 (List.mem_of_getElem? (i := 21) rfl)
theorem kw_982 : (Jvm.Cond.methodLinkNest "RaceByLaps$Reckoner" (18 : Nat) ({ cls := "RaceByLaps", name := "isIndex", desc := "(II)Z" } : Jvm.MethodName) "RaceByLaps") ∈ lw_tbl := tw_tb5 (List.mem_of_getElem? (i := 22) rfl)
theorem kw_983 : (Jvm.Cond.methodLink "RaceByLaps$Race" (284 : Nat) ({ cls := "RaceByLaps$Race", name := "freeFrom", desc := "(I)I" } : Jvm.MethodName)) ∈ lw_tbl := tw_tb5 (List.mem_of_getElem? (i := 23) rfl)
theorem kw_984 : (Jvm.Cond.privateMethod ({ cls := "RaceByLaps$Race", name := "freeFrom", desc := "(I)I" } : Jvm.MethodName)) ∈ lw_tbl := tw_tb5 (List.mem_of_getElem? (i := 24) rfl)
theorem kw_985 : (Jvm.Cond.instanceMethod ({ cls := "RaceByLaps$Race", name := "freeFrom", desc := "(I)I" } : Jvm.MethodName)) ∈ lw_tbl := tw_tb5 (List.mem_of_getElem? (i := 25) rfl)
theorem kw_986 : (Jvm.Cond.code ({ cls := "RaceByLaps$Race", name := "freeFrom", desc := "(I)I" } : Jvm.MethodName) prog_4_method_19_code (2 : Nat) (Option.some Jvm.ClassFile.FieldType.int)) ∈ lw_tbl := tw_tb5 (List.mem_of_getElem? (i := 26) rfl)
theorem kw_987 : (Jvm.Cond.methodLink "RaceByLaps$Race" (244 : Nat) ({ cls := "RaceByLaps$Reckoner", name := "firstTrue", desc := "(LRaceByLaps$Text;)I" } : Jvm.MethodName)) ∈ lw_tbl := tw_tb5 (List.mem_of_getElem? (i := 27) rfl)
theorem kw_988 : (Jvm.Cond.instanceMethod ({ cls := "RaceByLaps$Reckoner", name := "firstTrue", desc := "(LRaceByLaps$Text;)I" } : Jvm.MethodName)) ∈ lw_tbl := tw_tb5 (List.mem_of_getElem? (i := 28) rfl)
theorem kw_989 : (Jvm.Cond.selects "RaceByLaps$Reckoner" ({ cls := "RaceByLaps$Reckoner", name := "firstTrue", desc := "(LRaceByLaps$Text;)I" } : Jvm.MethodName) ({ cls := "RaceByLaps$Reckoner", name := "firstTrue", desc := "(LRaceByLaps$Text;)I" } : Jvm.MethodName)) ∈ lw_tbl := tw_tb5 (List.mem_of_getElem? (i := 29) rfl)
theorem kw_990 : (Jvm.Cond.code ({ cls := "RaceByLaps$Reckoner", name := "firstTrue", desc := "(LRaceByLaps$Text;)I" } : Jvm.MethodName) prog_6_method_3_code (3 : Nat) (Option.some Jvm.ClassFile.FieldType.int)) ∈ lw_tbl := tw_tb5 (List.mem_of_getElem? (i := 30) rfl)
theorem kw_991 : (Jvm.Cond.methodLink "RaceByLaps$Reckoner" (28 : Nat) ({ cls := "RaceByLaps$Reckoner", name := "holds", desc := "(LRaceByLaps$Text;I)Z" } : Jvm.MethodName)) ∈ lw_tbl := tw_tb5 (List.mem_of_getElem? (i := 31) rfl)
theorem kw_992 : (Jvm.Cond.instanceMethod ({ cls := "RaceByLaps$Reckoner", name := "holds", desc := "(LRaceByLaps$Text;I)Z" } : Jvm.MethodName)) ∈ lw_tbl := tw_tb5 (List.mem_of_getElem? (i := 32) rfl)
theorem kw_993 : (Jvm.Cond.selects "RaceByLaps$Reckoner" ({ cls := "RaceByLaps$Reckoner", name := "holds", desc := "(LRaceByLaps$Text;I)Z" } : Jvm.MethodName) ({ cls := "RaceByLaps$Reckoner", name := "holds", desc := "(LRaceByLaps$Text;I)Z" } : Jvm.MethodName)) ∈ lw_tbl := tw_tb5 (List.mem_of_getElem? (i := 33) rfl)
theorem kw_994 : (Jvm.Cond.code ({ cls := "RaceByLaps$Reckoner", name := "holds", desc := "(LRaceByLaps$Text;I)Z" } : Jvm.MethodName) prog_6_method_4_code (8 : Nat) (Option.some Jvm.ClassFile.FieldType.boolean)) ∈ lw_tbl := tw_tb5 (List.mem_of_getElem? (i := 34) rfl)
theorem kw_995 : (Jvm.Cond.methodLink "RaceByLaps$Reckoner" (35 : Nat) ({ cls := "java/lang/Math", name := "min", desc := "(II)I" } : Jvm.MethodName)) ∈ lw_tbl := tw_tb5 (List.mem_of_getElem? (i := 35) rfl)
theorem kw_996 : (Jvm.Cond.methodLink "RaceByLaps$Reckoner" (44 : Nat) ({ cls := "RaceByLaps$Reckoner", name := "valueOf", desc := "(I)I" } : Jvm.MethodName)) ∈ lw_tbl := tw_tb5 (List.mem_of_getElem? (i := 36) rfl)
theorem kw_997 : (Jvm.Cond.privateMethod ({ cls := "RaceByLaps$Reckoner", name := "valueOf", desc := "(I)I" } : Jvm.MethodName)) ∈ lw_tbl := tw_tb5 (List.mem_of_getElem? (i := 37) rfl)
theorem kw_998 : (Jvm.Cond.instanceMethod ({ cls := "RaceByLaps$Reckoner", name := "valueOf", desc := "(I)I" } : Jvm.MethodName)) ∈ lw_tbl := tw_tb5 (List.mem_of_getElem? (i := 38) rfl)
theorem kw_999 : (Jvm.Cond.code ({ cls := "RaceByLaps$Reckoner", name := "valueOf", desc := "(I)I" } : Jvm.MethodName) prog_6_method_5_code (3 : Nat) (Option.some Jvm.ClassFile.FieldType.int)) ∈ lw_tbl := tw_tb5 (List.mem_of_getElem? (i := 39) rfl)
theorem kw_1000 : (Jvm.Cond.methodLink "RaceByLaps$Reckoner" (48 : Nat) ({ cls := "RaceByLaps$Reckoner", name := "join", desc := "(III)I" } : Jvm.MethodName)) ∈ lw_tbl := tw_tb5 (List.mem_of_getElem? (i := 40) rfl)
theorem kw_1001 : (Jvm.Cond.static ({ cls := "RaceByLaps$Reckoner", name := "join", desc := "(III)I" } : Jvm.MethodName)) ∈ lw_tbl := tw_tb5 (List.mem_of_getElem? (i := 41) rfl)
theorem kw_1002 : (Jvm.Cond.code ({ cls := "RaceByLaps$Reckoner", name := "join", desc := "(III)I" } : Jvm.MethodName) prog_6_method_6_code (3 : Nat) (Option.some Jvm.ClassFile.FieldType.int)) ∈ lw_tbl := tw_tb5 (List.mem_of_getElem? (i := 42) rfl)
theorem kw_1003 : (Jvm.Cond.methodLink "RaceByLaps$Race" (250 : Nat) ({ cls := "RaceByLaps$Race", name := "follow", desc := "(LRaceByLaps$Text;ILRaceByLaps$Runner;I)I" } : Jvm.MethodName)) ∈ lw_tbl := tw_tb5 (List.mem_of_getElem? (i := 43) rfl)
theorem kw_1004 : (Jvm.Cond.static ({ cls := "RaceByLaps$Race", name := "follow", desc := "(LRaceByLaps$Text;ILRaceByLaps$Runner;I)I" } : Jvm.MethodName)) ∈ lw_tbl := tw_tb5 (List.mem_of_getElem? (i := 44) rfl)
theorem kw_1005 : (Jvm.Cond.code ({ cls := "RaceByLaps$Race", name := "follow", desc := "(LRaceByLaps$Text;ILRaceByLaps$Runner;I)I" } : Jvm.MethodName) prog_4_method_18_code (4 : Nat) (Option.some Jvm.ClassFile.FieldType.int)) ∈ lw_tbl := tw_tb5 (List.mem_of_getElem? (i := 45) rfl)
theorem kw_1006 : (Jvm.Cond.methodLink "RaceByLaps$Race" (254 : Nat) ({ cls := "RaceByLaps$Car", name := "stopBehind", desc := "(I)I" } : Jvm.MethodName)) ∈ lw_tbl := tw_tb5 (List.mem_of_getElem? (i := 46) rfl)
theorem kw_1007 : (Jvm.Cond.instanceMethod ({ cls := "RaceByLaps$Car", name := "stopBehind", desc := "(I)I" } : Jvm.MethodName)) ∈ lw_tbl := tw_tb5 (List.mem_of_getElem? (i := 47) rfl)
theorem kw_1008 : (Jvm.Cond.selects "RaceByLaps$Car" ({ cls := "RaceByLaps$Car", name := "stopBehind", desc := "(I)I" } : Jvm.MethodName) ({ cls := "RaceByLaps$Car", name := "stopBehind", desc := "(I)I" } : Jvm.MethodName)) ∈ lw_tbl := tw_tb5 (List.mem_of_getElem? (i := 48) rfl)
theorem kw_1009 : (Jvm.Cond.code ({ cls := "RaceByLaps$Car", name := "stopBehind", desc := "(I)I" } : Jvm.MethodName) prog_3_method_5_code (4 : Nat) (Option.some Jvm.ClassFile.FieldType.int)) ∈ lw_tbl := tw_tb5 (List.mem_of_getElem? (i := 49) rfl)
theorem kw_1010 : (Jvm.Cond.methodLink "RaceByLaps$Car" (50 : Nat) ({ cls := "RaceByLaps$Car", name := "stopsInForce", desc := "()LRaceByLaps$Table;" } : Jvm.MethodName)) ∈ lw_tbl := tw_tb5 (List.mem_of_getElem? (i := 50) rfl)
theorem kw_1011 : (Jvm.Cond.instanceMethod ({ cls := "RaceByLaps$Car", name := "stopsInForce", desc := "()LRaceByLaps$Table;" } : Jvm.MethodName)) ∈ lw_tbl := tw_tb5 (List.mem_of_getElem? (i := 51) rfl)
theorem kw_1012 : (Jvm.Cond.selects "RaceByLaps$Car" ({ cls := "RaceByLaps$Car", name := "stopsInForce", desc := "()LRaceByLaps$Table;" } : Jvm.MethodName) ({ cls := "RaceByLaps$Car", name := "stopsInForce", desc := "()LRaceByLaps$Table;" } : Jvm.MethodName)) ∈ lw_tbl := tw_tb5 (List.mem_of_getElem? (i := 52) rfl)
theorem kw_1013 : (Jvm.Cond.code ({ cls := "RaceByLaps$Car", name := "stopsInForce", desc := "()LRaceByLaps$Table;" } : Jvm.MethodName) prog_3_method_3_code (1 : Nat) (Option.some (Jvm.ClassFile.FieldType.object "RaceByLaps$Table"))) ∈ lw_tbl := tw_tb5 (List.mem_of_getElem? (i := 53) rfl)
theorem kw_1014 : (Jvm.Cond.methodLink "RaceByLaps$Car" (54 : Nat) ({ cls := "RaceByLaps$Table", name := "cell", desc := "(II)I" } : Jvm.MethodName)) ∈ lw_tbl := tw_tb5 (List.mem_of_getElem? (i := 54) rfl)
theorem kw_1015 : (Jvm.Cond.methodLink "RaceByLaps$Race" (257 : Nat) ({ cls := "RaceByLaps$Car", name := "stopsInForce", desc := "()LRaceByLaps$Table;" } : Jvm.MethodName)) ∈ lw_tbl := tw_tb5 (List.mem_of_getElem? (i := 55) rfl)
theorem kw_1016 : (Jvm.Cond.methodLink "RaceByLaps$Race" (261 : Nat) ({ cls := "RaceByLaps$Race", name := "atBox", desc := "(LRaceByLaps$Car;LRaceByLaps$Runner;III)V" } : Jvm.MethodName)) ∈ lw_tbl := tw_tb5 (List.mem_of_getElem? (i := 56) rfl)
theorem kw_1017 : (Jvm.Cond.privateMethod ({ cls := "RaceByLaps$Race", name := "atBox", desc := "(LRaceByLaps$Car;LRaceByLaps$Runner;III)V" } : Jvm.MethodName)) ∈ lw_tbl := tw_tb5 (List.mem_of_getElem? (i := 57) rfl)
theorem kw_1018 : (Jvm.Cond.instanceMethod ({ cls := "RaceByLaps$Race", name := "atBox", desc := "(LRaceByLaps$Car;LRaceByLaps$Runner;III)V" } : Jvm.MethodName)) ∈ lw_tbl := tw_tb5 (List.mem_of_getElem? (i := 58) rfl)
theorem kw_1019 : (Jvm.Cond.code ({ cls := "RaceByLaps$Race", name := "atBox", desc := "(LRaceByLaps$Car;LRaceByLaps$Runner;III)V" } : Jvm.MethodName) prog_4_method_20_code (10 : Nat) (Option.none : Option Jvm.ClassFile.FieldType)) ∈ lw_tbl := tw_tb5 (List.mem_of_getElem? (i := 59) rfl)
theorem kw_1020 : (Jvm.Cond.methodLink "RaceByLaps$Race" (302 : Nat) ({ cls := "java/lang/Math", name := "min", desc := "(II)I" } : Jvm.MethodName)) ∈ lw_tbl := tw_tb5 (List.mem_of_getElem? (i := 60) rfl)
theorem kw_1021 : (Jvm.Cond.methodLink "RaceByLaps" (242 : Nat) ({ cls := "RaceByLaps$Track", name := "lineOf", desc := "(II)I" } : Jvm.MethodName)) ∈ lw_tbl := tw_tb5 (List.mem_of_getElem? (i := 61) rfl)
theorem kw_1022 : (Jvm.Cond.methodLink "RaceByLaps" (245 : Nat) ({ cls := "RaceByLaps$Runner", name := "timeAt", desc := "(I)I" } : Jvm.MethodName)) ∈ lw_tbl := tw_tb5 (List.mem_of_getElem? (i := 62) rfl)
theorem kw_1023 : (Jvm.Cond.methodLink "RaceByLapsLaw" (102 : Nat) ({ cls := "RaceByLaps", name := "led", desc := "(II)I" } : Jvm.MethodName)) ∈ lw_tbl := tw_tb5 (List.mem_of_getElem? (i := 63) rfl)
theorem kw_1024 : (Jvm.Cond.instanceMethod ({ cls := "RaceByLaps", name := "led", desc := "(II)I" } : Jvm.MethodName)) ∈ lw_tbl := tw_tb5 (List.mem_of_getElem? (i := 64) rfl)
theorem kw_1025 : (Jvm.Cond.selects "RaceByLaps" ({ cls := "RaceByLaps", name := "led", desc := "(II)I" } : Jvm.MethodName) ({ cls := "RaceByLaps", name := "led", desc := "(II)I" } : Jvm.MethodName)) ∈ lw_tbl := tw_tb5 (List.mem_of_getElem? (i := 65) rfl)
theorem kw_1026 : (Jvm.Cond.code ({ cls := "RaceByLaps", name := "led", desc := "(II)I" } : Jvm.MethodName) prog_1_method_18_code (3 : Nat) (Option.some Jvm.ClassFile.FieldType.int)) ∈ lw_tbl := tw_tb5 (List.mem_of_getElem? (i := 66) rfl)
theorem kw_1027 : (Jvm.Cond.methodLink "RaceByLaps" (248 : Nat) ({ cls := "RaceByLaps$Race", name := "inOrder", desc := "(II)I" } : Jvm.MethodName)) ∈ lw_tbl := tw_tb5 (List.mem_of_getElem? (i := 67) rfl)
theorem kw_1028 : (Jvm.Cond.instanceMethod ({ cls := "RaceByLaps$Race", name := "inOrder", desc := "(II)I" } : Jvm.MethodName)) ∈ lw_tbl := tw_tb5 (List.mem_of_getElem? (i := 68) rfl)
theorem kw_1029 : (Jvm.Cond.selects "RaceByLaps$Race" ({ cls := "RaceByLaps$Race", name := "inOrder", desc := "(II)I" } : Jvm.MethodName) ({ cls := "RaceByLaps$Race", name := "inOrder", desc := "(II)I" } : Jvm.MethodName)) ∈ lw_tbl := tw_tb5 (List.mem_of_getElem? (i := 69) rfl)
theorem kw_1030 : (Jvm.Cond.code ({ cls := "RaceByLaps$Race", name := "inOrder", desc := "(II)I" } : Jvm.MethodName) prog_4_method_22_code (5 : Nat) (Option.some Jvm.ClassFile.FieldType.int)) ∈ lw_tbl := tw_tb5 (List.mem_of_getElem? (i := 70) rfl)
theorem kw_1031 : (Jvm.Cond.methodLink "RaceByLaps$Race" (308 : Nat) ({ cls := "RaceByLaps$Race", name := "aheadAt", desc := "(III)I" } : Jvm.MethodName)) ∈ lw_tbl := tw_tb5 (List.mem_of_getElem? (i := 71) rfl)
theorem kw_1032 : (Jvm.Cond.privateMethod ({ cls := "RaceByLaps$Race", name := "aheadAt", desc := "(III)I" } : Jvm.MethodName)) ∈ lw_tbl := tw_tb5 (List.mem_of_getElem? (i := 72) rfl)
theorem kw_1033 : (Jvm.Cond.instanceMethod ({ cls := "RaceByLaps$Race", name := "aheadAt", desc := "(III)I" } : Jvm.MethodName)) ∈ lw_tbl := tw_tb5 (List.mem_of_getElem? (i := 73) rfl)
theorem kw_1034 : (Jvm.Cond.code ({ cls := "RaceByLaps$Race", name := "aheadAt", desc := "(III)I" } : Jvm.MethodName) prog_4_method_23_code (7 : Nat) (Option.some Jvm.ClassFile.FieldType.int)) ∈ lw_tbl := tw_tb5 (List.mem_of_getElem? (i := 74) rfl)
theorem kw_1035 : (Jvm.Cond.methodLink "RaceByLapsLaw" (106 : Nat) ({ cls := "RaceByLaps", name := "waited", desc := "(I)I" } : Jvm.MethodName)) ∈ lw_tbl := tw_tb5 (List.mem_of_getElem? (i := 75) rfl)
theorem kw_1036 : (Jvm.Cond.instanceMethod ({ cls := "RaceByLaps", name := "waited", desc := "(I)I" } : Jvm.MethodName)) ∈ lw_tbl := tw_tb5 (List.mem_of_getElem? (i := 76) rfl)
theorem kw_1037 : (Jvm.Cond.selects "RaceByLaps" ({ cls := "RaceByLaps", name := "waited", desc := "(I)I" } : Jvm.MethodName) ({ cls := "RaceByLaps", name := "waited", desc := "(I)I" } : Jvm.MethodName)) ∈ lw_tbl := tw_tb5 (List.mem_of_getElem? (i := 77) rfl)
theorem kw_1038 : (Jvm.Cond.code ({ cls := "RaceByLaps", name := "waited", desc := "(I)I" } : Jvm.MethodName) prog_1_method_19_code (2 : Nat) (Option.some Jvm.ClassFile.FieldType.int)) ∈ lw_tbl := tw_tb5 (List.mem_of_getElem? (i := 78) rfl)
theorem kw_1039 : (Jvm.Cond.methodLink "RaceByLapsLaw" (110 : Nat) ({ cls := "RaceByLaps", name := "leads", desc := "()I" } : Jvm.MethodName)) ∈ lw_tbl := tw_tb5 (List.mem_of_getElem? (i := 79) rfl)
theorem kw_1040 : (Jvm.Cond.instanceMethod ({ cls := "RaceByLaps", name := "leads", desc := "()I" } : Jvm.MethodName)) ∈ lw_tbl := tw_tb5 (List.mem_of_getElem? (i := 80) rfl)
theorem kw_1041 : (Jvm.Cond.selects "RaceByLaps" ({ cls := "RaceByLaps", name := "leads", desc := "()I" } : Jvm.MethodName) ({ cls := "RaceByLaps", name := "leads", desc := "()I" } : Jvm.MethodName)) ∈ lw_tbl := tw_tb5 (List.mem_of_getElem? (i := 81) rfl)
theorem kw_1042 : (Jvm.Cond.code ({ cls := "RaceByLaps", name := "leads", desc := "()I" } : Jvm.MethodName) prog_1_method_20_code (5 : Nat) (Option.some Jvm.ClassFile.FieldType.int)) ∈ lw_tbl := tw_tb5 (List.mem_of_getElem? (i := 82) rfl)
theorem kw_1043 : (Jvm.Cond.methodLink "RaceByLapsLaw" (114 : Nat) ({ cls := "RaceByLaps", name := "sign", desc := "(I)I" } : Jvm.MethodName)) ∈ lw_tbl := tw_tb5 (List.mem_of_getElem? (i := 83) rfl)
theorem kw_1044 : (Jvm.Cond.instanceMethod ({ cls := "RaceByLaps", name := "sign", desc := "(I)I" } : Jvm.MethodName)) ∈ lw_tbl := tw_tb5 (List.mem_of_getElem? (i := 84) rfl)
theorem kw_1045 : (Jvm.Cond.selects "RaceByLaps" ({ cls := "RaceByLaps", name := "sign", desc := "(I)I" } : Jvm.MethodName) ({ cls := "RaceByLaps", name := "sign", desc := "(I)I" } : Jvm.MethodName)) ∈ lw_tbl := tw_tb5 (List.mem_of_getElem? (i := 85) rfl)
theorem kw_1046 : (Jvm.Cond.code ({ cls := "RaceByLaps", name := "sign", desc := "(I)I" } : Jvm.MethodName) prog_1_method_21_code (3 : Nat) (Option.some Jvm.ClassFile.FieldType.int)) ∈ lw_tbl := tw_tb5 (List.mem_of_getElem? (i := 86) rfl)
theorem kw_1047 : (Jvm.Cond.methodLink "RaceByLapsLaw" (118 : Nat) ({ cls := "RaceByLaps", name := "end", desc := "(I)Z" } : Jvm.MethodName)) ∈ lw_tbl := tw_tb5 (List.mem_of_getElem? (i := 87) rfl)
theorem kw_1048 : (Jvm.Cond.instanceMethod ({ cls := "RaceByLaps", name := "end", desc := "(I)Z" } : Jvm.MethodName)) ∈ lw_tbl := tw_tb5 (List.mem_of_getElem? (i := 88) rfl)
theorem kw_1049 : (Jvm.Cond.selects "RaceByLaps" ({ cls := "RaceByLaps", name := "end", desc := "(I)Z" } : Jvm.MethodName) ({ cls := "RaceByLaps", name := "end", desc := "(I)Z" } : Jvm.MethodName)) ∈ lw_tbl := tw_tb5 (List.mem_of_getElem? (i := 89) rfl)
theorem kw_1050 : (Jvm.Cond.code ({ cls := "RaceByLaps", name := "end", desc := "(I)Z" } : Jvm.MethodName) prog_1_method_22_code (2 : Nat) (Option.some Jvm.ClassFile.FieldType.boolean)) ∈ lw_tbl := tw_tb5 (List.mem_of_getElem? (i := 90) rfl)
theorem kw_1051 : (Jvm.Cond.methodLink "RaceByLapsLaw" (122 : Nat) ({ cls := "RaceByLaps", name := "rule", desc := "(I)I" } : Jvm.MethodName)) ∈ lw_tbl := tw_tb5 (List.mem_of_getElem? (i := 91) rfl)
theorem kw_1052 : (Jvm.Cond.instanceMethod ({ cls := "RaceByLaps", name := "rule", desc := "(I)I" } : Jvm.MethodName)) ∈ lw_tbl := tw_tb5 (List.mem_of_getElem? (i := 92) rfl)
theorem kw_1053 : (Jvm.Cond.selects "RaceByLaps" ({ cls := "RaceByLaps", name := "rule", desc := "(I)I" } : Jvm.MethodName) ({ cls := "RaceByLaps", name := "rule", desc := "(I)I" } : Jvm.MethodName)) ∈ lw_tbl := tw_tb5 (List.mem_of_getElem? (i := 93) rfl)
theorem kw_1054 : (Jvm.Cond.code ({ cls := "RaceByLaps", name := "rule", desc := "(I)I" } : Jvm.MethodName) prog_1_method_23_code (4 : Nat) (Option.some Jvm.ClassFile.FieldType.int)) ∈ lw_tbl := tw_tb5 (List.mem_of_getElem? (i := 94) rfl)
theorem kw_1055 : (Jvm.Cond.methodLink "RaceByLaps" (254 : Nat) ({ cls := "RaceByLaps", name := "isDay", desc := "(I)Z" } : Jvm.MethodName)) ∈ lw_tbl := tw_tb5 (List.mem_of_getElem? (i := 95) rfl)
theorem kw_1056 : (Jvm.Cond.static ({ cls := "RaceByLaps", name := "isDay", desc := "(I)Z" } : Jvm.MethodName)) ∈ lw_tbl := tw_tb5 (List.mem_of_getElem? (i := 96) rfl)
theorem kw_1057 : (Jvm.Cond.code ({ cls := "RaceByLaps", name := "isDay", desc := "(I)Z" } : Jvm.MethodName) prog_1_method_45_code (1 : Nat) (Option.some Jvm.ClassFile.FieldType.boolean)) ∈ lw_tbl := tw_tb5 (List.mem_of_getElem? (i := 97) rfl)
theorem kw_1058 : (Jvm.Cond.methodLink "RaceByLaps" (257 : Nat) ({ cls := "RaceByLaps$Book", name := "takeRule", desc := "(LRaceByLaps$Text;I)LRaceByLaps$Text;" } : Jvm.MethodName)) ∈ lw_tbl := tw_tb5 (List.mem_of_getElem? (i := 98) rfl)
theorem kw_1059 : (Jvm.Cond.instanceMethod ({ cls := "RaceByLaps$Book", name := "takeRule", desc := "(LRaceByLaps$Text;I)LRaceByLaps$Text;" } : Jvm.MethodName)) ∈ lw_tbl := tw_tb5 (List.mem_of_getElem? (i := 99) rfl)
theorem kw_1060 : (Jvm.Cond.selects "RaceByLaps$Book" ({ cls := "RaceByLaps$Book", name := "takeRule", desc := "(LRaceByLaps$Text;I)LRaceByLaps$Text;" } : Jvm.MethodName) ({ cls := "RaceByLaps$Book", name := "takeRule", desc := "(LRaceByLaps$Text;I)LRaceByLaps$Text;" } : Jvm.MethodName)) ∈ lw_tbl := tw_tb5 (List.mem_of_getElem? (i := 100) rfl)
theorem kw_1061 : (Jvm.Cond.code ({ cls := "RaceByLaps$Book", name := "takeRule", desc := "(LRaceByLaps$Text;I)LRaceByLaps$Text;" } : Jvm.MethodName) prog_2_method_2_code (4 : Nat) (Option.some (Jvm.ClassFile.FieldType.object "RaceByLaps$Text"))) ∈ lw_tbl := tw_tb5 (List.mem_of_getElem? (i := 101) rfl)
theorem kw_1062 : (Jvm.Cond.methodLinkNest "RaceByLaps$Book" (39 : Nat) ({ cls := "RaceByLaps", name := "isIndex", desc := "(II)Z" } : Jvm.MethodName) "RaceByLaps") ∈ lw_tbl := tw_tb5 (List.mem_of_getElem? (i := 102) rfl)
theorem kw_1063 : (Jvm.Cond.methodLink "RaceByLapsLaw" (126 : Nat) ({ cls := "RaceByLaps", name := "finding", desc := "(IIII)I" } : Jvm.MethodName)) ∈ lw_tbl := tw_tb5 (List.mem_of_getElem? (i := 103) rfl)
theorem kw_1064 : (Jvm.Cond.instanceMethod ({ cls := "RaceByLaps", name := "finding", desc := "(IIII)I" } : Jvm.MethodName)) ∈ lw_tbl := tw_tb5 (List.mem_of_getElem? (i := 104) rfl)
theorem kw_1065 : (Jvm.Cond.selects "RaceByLaps" ({ cls := "RaceByLaps", name := "finding", desc := "(IIII)I" } : Jvm.MethodName) ({ cls := "RaceByLaps", name := "finding", desc := "(IIII)I" } : Jvm.MethodName)) ∈ lw_tbl := tw_tb5 (List.mem_of_getElem? (i := 105) rfl)
theorem kw_1066 : (Jvm.Cond.code ({ cls := "RaceByLaps", name := "finding", desc := "(IIII)I" } : Jvm.MethodName) prog_1_method_24_code (6 : Nat) (Option.some Jvm.ClassFile.FieldType.int)) ∈ lw_tbl := tw_tb5 (List.mem_of_getElem? (i := 106) rfl)
theorem kw_1067 : (Jvm.Cond.constant "RaceByLaps" (261 : Nat) (-60000 : Int32)) ∈ lw_tbl := tw_tb5 (List.mem_of_getElem? (i := 107) rfl)
theorem kw_1068 : (Jvm.Cond.methodLink "RaceByLapsLaw" (130 : Nat) ({ cls := "RaceByLaps", name := "seconds", desc := "(II)I" } : Jvm.MethodName)) ∈ lw_tbl := tw_tb5 (List.mem_of_getElem? (i := 108) rfl)
theorem kw_1069 : (Jvm.Cond.instanceMethod ({ cls := "RaceByLaps", name := "seconds", desc := "(II)I" } : Jvm.MethodName)) ∈ lw_tbl := tw_tb5 (List.mem_of_getElem? (i := 109) rfl)
theorem kw_1070 : (Jvm.Cond.selects "RaceByLaps" ({ cls := "RaceByLaps", name := "seconds", desc := "(II)I" } : Jvm.MethodName) ({ cls := "RaceByLaps", name := "seconds", desc := "(II)I" } : Jvm.MethodName)) ∈ lw_tbl := tw_tb5 (List.mem_of_getElem? (i := 110) rfl)
theorem kw_1071 : (Jvm.Cond.code ({ cls := "RaceByLaps", name := "seconds", desc := "(II)I" } : Jvm.MethodName) prog_1_method_25_code (3 : Nat) (Option.some Jvm.ClassFile.FieldType.int)) ∈ lw_tbl := tw_tb5 (List.mem_of_getElem? (i := 111) rfl)
theorem kw_1072 : (Jvm.Cond.methodLink "RaceByLaps" (262 : Nat) ({ cls := "RaceByLaps$Race", name := "lapsEnded", desc := "(I)I" } : Jvm.MethodName)) ∈ lw_tbl := tw_tb5 (List.mem_of_getElem? (i := 112) rfl)
theorem kw_1073 : (Jvm.Cond.instanceMethod ({ cls := "RaceByLaps$Race", name := "lapsEnded", desc := "(I)I" } : Jvm.MethodName)) ∈ lw_tbl := tw_tb5 (List.mem_of_getElem? (i := 113) rfl)
theorem kw_1074 : (Jvm.Cond.selects "RaceByLaps$Race" ({ cls := "RaceByLaps$Race", name := "lapsEnded", desc := "(I)I" } : Jvm.MethodName) ({ cls := "RaceByLaps$Race", name := "lapsEnded", desc := "(I)I" } : Jvm.MethodName)) ∈ lw_tbl := tw_tb5 (List.mem_of_getElem? (i := 114) rfl)
theorem kw_1075 : (Jvm.Cond.code ({ cls := "RaceByLaps$Race", name := "lapsEnded", desc := "(I)I" } : Jvm.MethodName) prog_4_method_21_code (2 : Nat) (Option.some Jvm.ClassFile.FieldType.int)) ∈ lw_tbl := tw_tb5 (List.mem_of_getElem? (i := 115) rfl)
theorem kw_1076 : (Jvm.Cond.methodLink "RaceByLaps" (265 : Nat) ({ cls := "RaceByLaps$Book", name := "weightBy", desc := "(II)I" } : Jvm.MethodName)) ∈ lw_tbl := tw_tb5 (List.mem_of_getElem? (i := 116) rfl)
theorem kw_1077 : (Jvm.Cond.instanceMethod ({ cls := "RaceByLaps$Book", name := "weightBy", desc := "(II)I" } : Jvm.MethodName)) ∈ lw_tbl := tw_tb5 (List.mem_of_getElem? (i := 117) rfl)
theorem kw_1078 : (Jvm.Cond.selects "RaceByLaps$Book" ({ cls := "RaceByLaps$Book", name := "weightBy", desc := "(II)I" } : Jvm.MethodName) ({ cls := "RaceByLaps$Book", name := "weightBy", desc := "(II)I" } : Jvm.MethodName)) ∈ lw_tbl := tw_tb5 (List.mem_of_getElem? (i := 118) rfl)
theorem kw_1079 : (Jvm.Cond.code ({ cls := "RaceByLaps$Book", name := "weightBy", desc := "(II)I" } : Jvm.MethodName) prog_2_method_3_code (7 : Nat) (Option.some Jvm.ClassFile.FieldType.int)) ∈ lw_tbl := tw_tb5 (List.mem_of_getElem? (i := 119) rfl)
theorem kw_1080 : (Jvm.Cond.methodLink "RaceByLaps$Book" (46 : Nat) ({ cls := "RaceByLaps$Table", name := "cell", desc := "(II)I" } : Jvm.MethodName)) ∈ lw_tbl := tw_tb5 (List.mem_of_getElem? (i := 120) rfl)
theorem kw_1081 : (Jvm.Cond.methodLink "RaceByLaps$Book" (50 : Nat) ({ cls := "RaceByLaps$Book", name := "isOf", desc := "(III)Z" } : Jvm.MethodName)) ∈ lw_tbl := tw_tb5 (List.mem_of_getElem? (i := 121) rfl)
theorem kw_1082 : (Jvm.Cond.privateMethod ({ cls := "RaceByLaps$Book", name := "isOf", desc := "(III)Z" } : Jvm.MethodName)) ∈ lw_tbl := tw_tb5 (List.mem_of_getElem? (i := 122) rfl)
theorem kw_1083 : (Jvm.Cond.instanceMethod ({ cls := "RaceByLaps$Book", name := "isOf", desc := "(III)Z" } : Jvm.MethodName)) ∈ lw_tbl := tw_tb5 (List.mem_of_getElem? (i := 123) rfl)
theorem kw_1084 : (Jvm.Cond.code ({ cls := "RaceByLaps$Book", name := "isOf", desc := "(III)Z" } : Jvm.MethodName) prog_2_method_5_code (4 : Nat) (Option.some Jvm.ClassFile.FieldType.boolean)) ∈ lw_tbl := tw_tb5 (List.mem_of_getElem? (i := 124) rfl)
theorem kw_1085 : (Jvm.Cond.methodLink "RaceByLaps" (268 : Nat) ({ cls := "RaceByLaps$Book", name := "secondsBy", desc := "(LRaceByLaps$Car;LRaceByLaps$Runner;III)I" } : Jvm.MethodName)) ∈ lw_tbl := tw_tb5 (List.mem_of_getElem? (i := 125) rfl)
theorem kw_1086 : (Jvm.Cond.instanceMethod ({ cls := "RaceByLaps$Book", name := "secondsBy", desc := "(LRaceByLaps$Car;LRaceByLaps$Runner;III)I" } : Jvm.MethodName)) ∈ lw_tbl := tw_tb5 (List.mem_of_getElem? (i := 126) rfl)
theorem kw_1087 : (Jvm.Cond.selects "RaceByLaps$Book" ({ cls := "RaceByLaps$Book", name := "secondsBy", desc := "(LRaceByLaps$Car;LRaceByLaps$Runner;III)I" } : Jvm.MethodName) ({ cls := "RaceByLaps$Book", name := "secondsBy", desc := "(LRaceByLaps$Car;LRaceByLaps$Runner;III)I" } : Jvm.MethodName)) ∈ lw_tbl := tw_tb5 (List.mem_of_getElem? (i := 127) rfl)
theorem kw_1088 : (Jvm.Cond.code ({ cls := "RaceByLaps$Book", name := "secondsBy", desc := "(LRaceByLaps$Car;LRaceByLaps$Runner;III)I" } : Jvm.MethodName) prog_2_method_6_code (8 : Nat) (Option.some Jvm.ClassFile.FieldType.int)) ∈ lw_tbl := tw_tb5 (List.mem_of_getElem? (i := 128) rfl)
theorem kw_1089 : (Jvm.Cond.methodLink "RaceByLaps$Book" (59 : Nat) ({ cls := "RaceByLaps$Reckoner", name := "let", desc := "(CI)V" } : Jvm.MethodName)) ∈ lw_tbl := tw_tb5 (List.mem_of_getElem? (i := 129) rfl)
theorem kw_1090 : (Jvm.Cond.methodLink "RaceByLaps$Book" (68 : Nat) ({ cls := "java/lang/Integer", name := "bitCount", desc := "(I)I" } : Jvm.MethodName)) ∈ lw_tbl := tw_tb5 (List.mem_of_getElem? (i := 130) rfl)
theorem kw_1091 : (Jvm.Cond.static ({ cls := "java/lang/Integer", name := "bitCount", desc := "(I)I" } : Jvm.MethodName)) ∈ lw_tbl := tw_tb5 (List.mem_of_getElem? (i := 131) rfl)
theorem kw_1092 : (Jvm.Cond.code ({ cls := "java/lang/Integer", name := "bitCount", desc := "(I)I" } : Jvm.MethodName) prog_20_method_49_code (1 : Nat) (Option.some Jvm.ClassFile.FieldType.int)) ∈ lw_tbl := tw_tb5 (List.mem_of_getElem? (i := 132) rfl)
theorem kw_1093 : (Jvm.Cond.constant "java/lang/Integer" (265 : Nat) (1431655765 : Int32)) ∈ lw_tbl := tw_tb5 (List.mem_of_getElem? (i := 133) rfl)
theorem kw_1094 : (Jvm.Cond.constant "java/lang/Integer" (266 : Nat) (858993459 : Int32)) ∈ lw_tbl := tw_tb5 (List.mem_of_getElem? (i := 134) rfl)
theorem kw_1095 : (Jvm.Cond.constant "java/lang/Integer" (267 : Nat) (252645135 : Int32)) ∈ lw_tbl := tw_tb5 (List.mem_of_getElem? (i := 135) rfl)
theorem kw_1096 : (Jvm.Cond.methodLink "RaceByLaps$Book" (91 : Nat) ({ cls := "RaceByLaps$Reckoner", name := "holds", desc := "(LRaceByLaps$Text;I)Z" } : Jvm.MethodName)) ∈ lw_tbl := tw_tb5 (List.mem_of_getElem? (i := 136) rfl)
theorem kw_1097 : (Jvm.Cond.methodLink "RaceByLapsLaw" (134 : Nat) ({ cls := "RaceByLaps", name := "place", desc := "(II)I" } : Jvm.MethodName)) ∈ lw_tbl := tw_tb5 (List.mem_of_getElem? (i := 137) rfl)
theorem kw_1098 : (Jvm.Cond.instanceMethod ({ cls := "RaceByLaps", name := "place", desc := "(II)I" } : Jvm.MethodName)) ∈ lw_tbl := tw_tb5 (List.mem_of_getElem? (i := 138) rfl)
theorem kw_1099 : (Jvm.Cond.selects "RaceByLaps" ({ cls := "RaceByLaps", name := "place", desc := "(II)I" } : Jvm.MethodName) ({ cls := "RaceByLaps", name := "place", desc := "(II)I" } : Jvm.MethodName)) ∈ lw_tbl := tw_tb5 (List.mem_of_getElem? (i := 139) rfl)
theorem kw_1100 : (Jvm.Cond.code ({ cls := "RaceByLaps", name := "place", desc := "(II)I" } : Jvm.MethodName) prog_1_method_26_code (3 : Nat) (Option.some Jvm.ClassFile.FieldType.int)) ∈ lw_tbl := tw_tb5 (List.mem_of_getElem? (i := 140) rfl)
theorem kw_1101 : (Jvm.Cond.methodLink "RaceByLaps" (272 : Nat) ({ cls := "RaceByLaps$Result", name := "reckonFor", desc := "(I)V" } : Jvm.MethodName)) ∈ lw_tbl := tw_tb5 (List.mem_of_getElem? (i := 141) rfl)
theorem kw_1102 : (Jvm.Cond.instanceMethod ({ cls := "RaceByLaps$Result", name := "reckonFor", desc := "(I)V" } : Jvm.MethodName)) ∈ lw_tbl := tw_tb5 (List.mem_of_getElem? (i := 142) rfl)
theorem kw_1103 : (Jvm.Cond.selects "RaceByLaps$Result" ({ cls := "RaceByLaps$Result", name := "reckonFor", desc := "(I)V" } : Jvm.MethodName) ({ cls := "RaceByLaps$Result", name := "reckonFor", desc := "(I)V" } : Jvm.MethodName)) ∈ lw_tbl := tw_tb5 (List.mem_of_getElem? (i := 143) rfl)
theorem kw_1104 : (Jvm.Cond.code ({ cls := "RaceByLaps$Result", name := "reckonFor", desc := "(I)V" } : Jvm.MethodName) prog_7_method_2_code (5 : Nat) (Option.none : Option Jvm.ClassFile.FieldType)) ∈ lw_tbl := tw_tb5 (List.mem_of_getElem? (i := 144) rfl)
theorem kw_1105 : (Jvm.Cond.methodLink "RaceByLaps$Result" (40 : Nat) ({ cls := "RaceByLaps$Race", name := "lapsEnded", desc := "(I)I" } : Jvm.MethodName)) ∈ lw_tbl := tw_tb5 (List.mem_of_getElem? (i := 145) rfl)
theorem kw_1106 : (Jvm.Cond.methodLink "RaceByLaps$Result" (48 : Nat) ({ cls := "RaceByLaps$Book", name := "weightBy", desc := "(II)I" } : Jvm.MethodName)) ∈ lw_tbl := tw_tb5 (List.mem_of_getElem? (i := 146) rfl)
theorem kw_1107 : (Jvm.Cond.methodLink "RaceByLaps$Result" (54 : Nat) ({ cls := "RaceByLaps$Book", name := "secondsBy", desc := "(LRaceByLaps$Car;LRaceByLaps$Runner;III)I" } : Jvm.MethodName)) ∈ lw_tbl := tw_tb5 (List.mem_of_getElem? (i := 147) rfl)
theorem kw_1108 : (Jvm.Cond.methodLink "RaceByLaps$Result" (66 : Nat) ({ cls := "RaceByLaps$Book", name := "timeBy", desc := "(II)I" } : Jvm.MethodName)) ∈ lw_tbl := tw_tb5 (List.mem_of_getElem? (i := 148) rfl)
theorem kw_1109 : (Jvm.Cond.instanceMethod ({ cls := "RaceByLaps$Book", name := "timeBy", desc := "(II)I" } : Jvm.MethodName)) ∈ lw_tbl := tw_tb5 (List.mem_of_getElem? (i := 149) rfl)
theorem kw_1110 : (Jvm.Cond.selects "RaceByLaps$Book" ({ cls := "RaceByLaps$Book", name := "timeBy", desc := "(II)I" } : Jvm.MethodName) ({ cls := "RaceByLaps$Book", name := "timeBy", desc := "(II)I" } : Jvm.MethodName)) ∈ lw_tbl := tw_tb5 (List.mem_of_getElem? (i := 150) rfl)
theorem kw_1111 : (Jvm.Cond.code ({ cls := "RaceByLaps$Book", name := "timeBy", desc := "(II)I" } : Jvm.MethodName) prog_2_method_4_code (5 : Nat) (Option.some Jvm.ClassFile.FieldType.int)) ∈ lw_tbl := tw_tb5 (List.mem_of_getElem? (i := 151) rfl)
theorem kw_1112 : (Jvm.Cond.methodLink "RaceByLaps" (276 : Nat) ({ cls := "RaceByLaps$Result", name := "placeAmong", desc := "(II)I" } : Jvm.MethodName)) ∈ lw_tbl := tw_tb5 (List.mem_of_getElem? (i := 152) rfl)
theorem kw_1113 : (Jvm.Cond.instanceMethod ({ cls := "RaceByLaps$Result", name := "placeAmong", desc := "(II)I" } : Jvm.MethodName)) ∈ lw_tbl := tw_tb5 (List.mem_of_getElem? (i := 153) rfl)
theorem kw_1114 : (Jvm.Cond.selects "RaceByLaps$Result" ({ cls := "RaceByLaps$Result", name := "placeAmong", desc := "(II)I" } : Jvm.MethodName) ({ cls := "RaceByLaps$Result", name := "placeAmong", desc := "(II)I" } : Jvm.MethodName)) ∈ lw_tbl := tw_tb5 (List.mem_of_getElem? (i := 154) rfl)
theorem kw_1115 : (Jvm.Cond.code ({ cls := "RaceByLaps$Result", name := "placeAmong", desc := "(II)I" } : Jvm.MethodName) prog_7_method_3_code (6 : Nat) (Option.some Jvm.ClassFile.FieldType.int)) ∈ lw_tbl := tw_tb5 (List.mem_of_getElem? (i := 155) rfl)
theorem kw_1116 : (Jvm.Cond.methodLink "RaceByLaps$Result" (69 : Nat) ({ cls := "RaceByLaps$Race", name := "has", desc := "(I)Z" } : Jvm.MethodName)) ∈ lw_tbl := tw_tb5 (List.mem_of_getElem? (i := 156) rfl)
theorem kw_1117 : (Jvm.Cond.methodLink "RaceByLaps$Result" (78 : Nat) ({ cls := "RaceByLaps$Result", name := "isAhead", desc := "(II)Z" } : Jvm.MethodName)) ∈ lw_tbl := tw_tb5 (List.mem_of_getElem? (i := 157) rfl)
theorem kw_1118 : (Jvm.Cond.privateMethod ({ cls := "RaceByLaps$Result", name := "isAhead", desc := "(II)Z" } : Jvm.MethodName)) ∈ lw_tbl := tw_tb5 (List.mem_of_getElem? (i := 158) rfl)
theorem kw_1119 : (Jvm.Cond.instanceMethod ({ cls := "RaceByLaps$Result", name := "isAhead", desc := "(II)Z" } : Jvm.MethodName)) ∈ lw_tbl := tw_tb5 (List.mem_of_getElem? (i := 159) rfl)
theorem kw_1120 : (Jvm.Cond.code ({ cls := "RaceByLaps$Result", name := "isAhead", desc := "(II)Z" } : Jvm.MethodName) prog_7_method_4_code (3 : Nat) (Option.some Jvm.ClassFile.FieldType.boolean)) ∈ lw_tbl := tw_tb5 (List.mem_of_getElem? (i := 160) rfl)
theorem kw_1121 : (Jvm.Cond.methodLink "RaceByLapsLaw" (141 : Nat) ({ cls := "RaceByLaps", name := "within", desc := "(II)I" } : Jvm.MethodName)) ∈ lw_tbl := tw_tb5 (List.mem_of_getElem? (i := 161) rfl)
theorem kw_1122 : (Jvm.Cond.instanceMethod ({ cls := "RaceByLaps", name := "within", desc := "(II)I" } : Jvm.MethodName)) ∈ lw_tbl := tw_tb5 (List.mem_of_getElem? (i := 162) rfl)
theorem kw_1123 : (Jvm.Cond.selects "RaceByLaps" ({ cls := "RaceByLaps", name := "within", desc := "(II)I" } : Jvm.MethodName) ({ cls := "RaceByLaps", name := "within", desc := "(II)I" } : Jvm.MethodName)) ∈ lw_tbl := tw_tb5 (List.mem_of_getElem? (i := 163) rfl)
theorem kw_1124 : (Jvm.Cond.code ({ cls := "RaceByLaps", name := "within", desc := "(II)I" } : Jvm.MethodName) prog_1_method_28_code (3 : Nat) (Option.some Jvm.ClassFile.FieldType.int)) ∈ lw_tbl := tw_tb5 (List.mem_of_getElem? (i := 164) rfl)
theorem kw_1125 : (Jvm.Cond.methodLink "RaceByLapsLaw" (145 : Nat) ({ cls := "RaceByLaps", name := "result", desc := "(I)I" } : Jvm.MethodName)) ∈ lw_tbl := tw_tb5 (List.mem_of_getElem? (i := 165) rfl)
theorem kw_1126 : (Jvm.Cond.instanceMethod ({ cls := "RaceByLaps", name := "result", desc := "(I)I" } : Jvm.MethodName)) ∈ lw_tbl := tw_tb5 (List.mem_of_getElem? (i := 166) rfl)
theorem kw_1127 : (Jvm.Cond.selects "RaceByLaps" ({ cls := "RaceByLaps", name := "result", desc := "(I)I" } : Jvm.MethodName) ({ cls := "RaceByLaps", name := "result", desc := "(I)I" } : Jvm.MethodName)) ∈ lw_tbl := tw_tb5 (List.mem_of_getElem? (i := 167) rfl)
theorem kw_1128 : (Jvm.Cond.code ({ cls := "RaceByLaps", name := "result", desc := "(I)I" } : Jvm.MethodName) prog_1_method_29_code (5 : Nat) (Option.some Jvm.ClassFile.FieldType.int)) ∈ lw_tbl := tw_tb5 (List.mem_of_getElem? (i := 168) rfl)
theorem kw_1129 : (Jvm.Cond.methodLink "RaceByLapsLaw" (149 : Nat) ({ cls := "RaceByLaps", name := "move", desc := "(IIII)I" } : Jvm.MethodName)) ∈ lw_tbl := tw_tb5 (List.mem_of_getElem? (i := 169) rfl)
theorem kw_1130 : (Jvm.Cond.instanceMethod ({ cls := "RaceByLaps", name := "move", desc := "(IIII)I" } : Jvm.MethodName)) ∈ lw_tbl := tw_tb5 (List.mem_of_getElem? (i := 170) rfl)
theorem kw_1131 : (Jvm.Cond.selects "RaceByLaps" ({ cls := "RaceByLaps", name := "move", desc := "(IIII)I" } : Jvm.MethodName) ({ cls := "RaceByLaps", name := "move", desc := "(IIII)I" } : Jvm.MethodName)) ∈ lw_tbl := tw_tb5 (List.mem_of_getElem? (i := 171) rfl)
theorem kw_1132 : (Jvm.Cond.code ({ cls := "RaceByLaps", name := "move", desc := "(IIII)I" } : Jvm.MethodName) prog_1_method_30_code (8 : Nat) (Option.some Jvm.ClassFile.FieldType.int)) ∈ lw_tbl := tw_tb5 (List.mem_of_getElem? (i := 172) rfl)
theorem kw_1133 : (Jvm.Cond.methodLink "RaceByLaps" (286 : Nat) ({ cls := "RaceByLaps$Table", name := "cell", desc := "(II)I" } : Jvm.MethodName)) ∈ lw_tbl := tw_tb5 (List.mem_of_getElem? (i := 173) rfl)
theorem kw_1134 : (Jvm.Cond.methodLink "RaceByLaps" (289 : Nat) ({ cls := "RaceByLaps$Table", name := "put", desc := "(III)V" } : Jvm.MethodName)) ∈ lw_tbl := tw_tb5 (List.mem_of_getElem? (i := 174) rfl)
theorem kw_1135 : (Jvm.Cond.methodLink "RaceByLaps" (293 : Nat) ({ cls := "RaceByLaps$Race", name := "run", desc := "()V" } : Jvm.MethodName)) ∈ lw_tbl := tw_tb5 (List.mem_of_getElem? (i := 175) rfl)
theorem kw_1136 : (Jvm.Cond.methodLink "RaceByLapsLaw" (153 : Nat) ({ cls := "RaceByLaps", name := "best", desc := "(III)I" } : Jvm.MethodName)) ∈ lw_tbl := tw_tb5 (List.mem_of_getElem? (i := 176) rfl)
theorem kw_1137 : (Jvm.Cond.instanceMethod ({ cls := "RaceByLaps", name := "best", desc := "(III)I" } : Jvm.MethodName)) ∈ lw_tbl := tw_tb5 (List.mem_of_getElem? (i := 177) rfl)
theorem kw_1138 : (Jvm.Cond.selects "RaceByLaps" ({ cls := "RaceByLaps", name := "best", desc := "(III)I" } : Jvm.MethodName) ({ cls := "RaceByLaps", name := "best", desc := "(III)I" } : Jvm.MethodName)) ∈ lw_tbl := tw_tb5 (List.mem_of_getElem? (i := 178) rfl)
theorem kw_1139 : (Jvm.Cond.code ({ cls := "RaceByLaps", name := "best", desc := "(III)I" } : Jvm.MethodName) prog_1_method_31_code (5 : Nat) (Option.some Jvm.ClassFile.FieldType.int)) ∈ lw_tbl := tw_tb5 (List.mem_of_getElem? (i := 179) rfl)
theorem kw_1140 : (Jvm.Cond.methodLink "RaceByLaps" (296 : Nat) ({ cls := "RaceByLaps$Tries", name := "search", desc := "(III)Z" } : Jvm.MethodName)) ∈ lw_tbl := tw_tb5 (List.mem_of_getElem? (i := 180) rfl)
theorem kw_1141 : (Jvm.Cond.instanceMethod ({ cls := "RaceByLaps$Tries", name := "search", desc := "(III)Z" } : Jvm.MethodName)) ∈ lw_tbl := tw_tb5 (List.mem_of_getElem? (i := 181) rfl)
theorem kw_1142 : (Jvm.Cond.selects "RaceByLaps$Tries" ({ cls := "RaceByLaps$Tries", name := "search", desc := "(III)Z" } : Jvm.MethodName) ({ cls := "RaceByLaps$Tries", name := "search", desc := "(III)Z" } : Jvm.MethodName)) ∈ lw_tbl := tw_tb5 (List.mem_of_getElem? (i := 182) rfl)
theorem kw_1143 : (Jvm.Cond.code ({ cls := "RaceByLaps$Tries", name := "search", desc := "(III)Z" } : Jvm.MethodName) prog_12_method_2_code (8 : Nat) (Option.some Jvm.ClassFile.FieldType.boolean)) ∈ lw_tbl := tw_tb5 (List.mem_of_getElem? (i := 183) rfl)
theorem kw_1144 : (Jvm.Cond.methodLink "RaceByLaps$Tries" (41 : Nat) ({ cls := "RaceByLaps$Race", name := "has", desc := "(I)Z" } : Jvm.MethodName)) ∈ lw_tbl := tw_tb5 (List.mem_of_getElem? (i := 184) rfl)
theorem kw_1145 : (Jvm.Cond.methodLinkNest "RaceByLaps$Tries" (47 : Nat) ({ cls := "RaceByLaps", name := "isWithin", desc := "(III)Z" } : Jvm.MethodName) "RaceByLaps") ∈ lw_tbl := tw_tb5 (List.mem_of_getElem? (i := 185) rfl)
theorem kw_1146 : (Jvm.Cond.methodLink "RaceByLaps$Tries" (80 : Nat) ({ cls := "RaceByLaps$Tries", name := "takeWay", desc := "(LRaceByLaps$Car;I)V" } : Jvm.MethodName)) ∈ lw_tbl := tw_tb5 (List.mem_of_getElem? (i := 186) rfl)
theorem kw_1147 : (Jvm.Cond.privateMethod ({ cls := "RaceByLaps$Tries", name := "takeWay", desc := "(LRaceByLaps$Car;I)V" } : Jvm.MethodName)) ∈ lw_tbl := tw_tb5 (List.mem_of_getElem? (i := 187) rfl)
theorem kw_1148 : (Jvm.Cond.instanceMethod ({ cls := "RaceByLaps$Tries", name := "takeWay", desc := "(LRaceByLaps$Car;I)V" } : Jvm.MethodName)) ∈ lw_tbl := tw_tb5 (List.mem_of_getElem? (i := 188) rfl)
theorem kw_1149 : (Jvm.Cond.code ({ cls := "RaceByLaps$Tries", name := "takeWay", desc := "(LRaceByLaps$Car;I)V" } : Jvm.MethodName) prog_12_method_3_code (4 : Nat) (Option.none : Option Jvm.ClassFile.FieldType)) ∈ lw_tbl := tw_tb5 (List.mem_of_getElem? (i := 189) rfl)
theorem kw_1150 : (Jvm.Cond.methodLink "RaceByLaps$Tries" (124 : Nat) ({ cls := "RaceByLaps$Table", name := "push", desc := "(IIII)I" } : Jvm.MethodName)) ∈ lw_tbl := tw_tb5 (List.mem_of_getElem? (i := 190) rfl)
theorem kw_1151 : (Jvm.Cond.methodLink "RaceByLaps$Tries" (84 : Nat) ({ cls := "RaceByLaps$Race", name := "run", desc := "()V" } : Jvm.MethodName)) ∈ lw_tbl := tw_tb5 (List.mem_of_getElem? (i := 191) rfl)
theorem kw_1152 : (Jvm.Cond.methodLink "RaceByLaps$Tries" (87 : Nat) ({ cls := "RaceByLaps$Result", name := "reckonFor", desc := "(I)V" } : Jvm.MethodName)) ∈ lw_tbl := tw_tb5 (List.mem_of_getElem? (i := 192) rfl)
theorem kw_1153 : (Jvm.Cond.methodLink "RaceByLaps$Tries" (93 : Nat) ({ cls := "RaceByLaps$Result", name := "triedPlace", desc := "(I)I" } : Jvm.MethodName)) ∈ lw_tbl := tw_tb5 (List.mem_of_getElem? (i := 193) rfl)
theorem kw_1154 : (Jvm.Cond.instanceMethod ({ cls := "RaceByLaps$Result", name := "triedPlace", desc := "(I)I" } : Jvm.MethodName)) ∈ lw_tbl := tw_tb5 (List.mem_of_getElem? (i := 194) rfl)
theorem kw_1155 : (Jvm.Cond.selects "RaceByLaps$Result" ({ cls := "RaceByLaps$Result", name := "triedPlace", desc := "(I)I" } : Jvm.MethodName) ({ cls := "RaceByLaps$Result", name := "triedPlace", desc := "(I)I" } : Jvm.MethodName)) ∈ lw_tbl := tw_tb5 (List.mem_of_getElem? (i := 195) rfl)
theorem kw_1156 : (Jvm.Cond.code ({ cls := "RaceByLaps$Result", name := "triedPlace", desc := "(I)I" } : Jvm.MethodName) prog_7_method_5_code (3 : Nat) (Option.some Jvm.ClassFile.FieldType.int)) ∈ lw_tbl := tw_tb5 (List.mem_of_getElem? (i := 196) rfl)
theorem kw_1157 : (Jvm.Cond.methodLink "RaceByLaps$Result" (82 : Nat) ({ cls := "RaceByLaps$Result", name := "placeAmong", desc := "(II)I" } : Jvm.MethodName)) ∈ lw_tbl := tw_tb5 (List.mem_of_getElem? (i := 197) rfl)
theorem kw_1158 : (Jvm.Cond.methodLink "RaceByLaps$Tries" (97 : Nat) ({ cls := "RaceByLaps$Result", name := "triedSum", desc := "(I)I" } : Jvm.MethodName)) ∈ lw_tbl := tw_tb5 (List.mem_of_getElem? (i := 198) rfl)
theorem kw_1159 : (Jvm.Cond.instanceMethod ({ cls := "RaceByLaps$Result", name := "triedSum", desc := "(I)I" } : Jvm.MethodName)) ∈ lw_tbl := tw_tb5 (List.mem_of_getElem? (i := 199) rfl)
theorem kw_1160 : (Jvm.Cond.selects "RaceByLaps$Result" ({ cls := "RaceByLaps$Result", name := "triedSum", desc := "(I)I" } : Jvm.MethodName) ({ cls := "RaceByLaps$Result", name := "triedSum", desc := "(I)I" } : Jvm.MethodName)) ∈ lw_tbl := tw_tb5 (List.mem_of_getElem? (i := 200) rfl)
theorem kw_1161 : (Jvm.Cond.code ({ cls := "RaceByLaps$Result", name := "triedSum", desc := "(I)I" } : Jvm.MethodName) prog_7_method_6_code (2 : Nat) (Option.some Jvm.ClassFile.FieldType.int)) ∈ lw_tbl := tw_tb5 (List.mem_of_getElem? (i := 201) rfl)
theorem kw_1162 : (Jvm.Cond.methodLinkNest "RaceByLaps$Result" (85 : Nat) ({ cls := "RaceByLaps", name := "isIndex", desc := "(II)Z" } : Jvm.MethodName) "RaceByLaps") ∈ lw_tbl := tw_tb5 (List.mem_of_getElem? (i := 202) rfl)
theorem kw_1163 : (Jvm.Cond.methodLink "RaceByLaps$Tries" (106 : Nat) ({ cls := "RaceByLaps$Tries", name := "isBetter", desc := "(IIII)Z" } : Jvm.MethodName)) ∈ lw_tbl := tw_tb5 (List.mem_of_getElem? (i := 203) rfl)
theorem kw_1164 : (Jvm.Cond.static ({ cls := "RaceByLaps$Tries", name := "isBetter", desc := "(IIII)Z" } : Jvm.MethodName)) ∈ lw_tbl := tw_tb5 (List.mem_of_getElem? (i := 204) rfl)
theorem kw_1165 : (Jvm.Cond.code ({ cls := "RaceByLaps$Tries", name := "isBetter", desc := "(IIII)Z" } : Jvm.MethodName) prog_12_method_7_code (4 : Nat) (Option.some Jvm.ClassFile.FieldType.boolean)) ∈ lw_tbl := tw_tb5 (List.mem_of_getElem? (i := 205) rfl)
theorem kw_1166 : (Jvm.Cond.methodLink "RaceByLaps$Tries" (110 : Nat) ({ cls := "RaceByLaps$Tries", name := "keepWay", desc := "(II)V" } : Jvm.MethodName)) ∈ lw_tbl := tw_tb5 (List.mem_of_getElem? (i := 206) rfl)
theorem kw_1167 : (Jvm.Cond.privateMethod ({ cls := "RaceByLaps$Tries", name := "keepWay", desc := "(II)V" } : Jvm.MethodName)) ∈ lw_tbl := tw_tb5 (List.mem_of_getElem? (i := 207) rfl)
theorem kw_1168 : (Jvm.Cond.instanceMethod ({ cls := "RaceByLaps$Tries", name := "keepWay", desc := "(II)V" } : Jvm.MethodName)) ∈ lw_tbl := tw_tb5 (List.mem_of_getElem? (i := 208) rfl)
theorem kw_1169 : (Jvm.Cond.code ({ cls := "RaceByLaps$Tries", name := "keepWay", desc := "(II)V" } : Jvm.MethodName) prog_12_method_4_code (4 : Nat) (Option.none : Option Jvm.ClassFile.FieldType)) ∈ lw_tbl := tw_tb5 (List.mem_of_getElem? (i := 209) rfl)
theorem kw_1170 : (Jvm.Cond.methodLink "RaceByLaps$Tries" (114 : Nat) ({ cls := "RaceByLaps$Tries", name := "nextSets", desc := "(II)Z" } : Jvm.MethodName)) ∈ lw_tbl := tw_tb5 (List.mem_of_getElem? (i := 210) rfl)
theorem kw_1171 : (Jvm.Cond.privateMethod ({ cls := "RaceByLaps$Tries", name := "nextSets", desc := "(II)Z" } : Jvm.MethodName)) ∈ lw_tbl := tw_tb5 (List.mem_of_getElem? (i := 211) rfl)
theorem kw_1172 : (Jvm.Cond.instanceMethod ({ cls := "RaceByLaps$Tries", name := "nextSets", desc := "(II)Z" } : Jvm.MethodName)) ∈ lw_tbl := tw_tb5 (List.mem_of_getElem? (i := 212) rfl)
theorem kw_1173 : (Jvm.Cond.code ({ cls := "RaceByLaps$Tries", name := "nextSets", desc := "(II)Z" } : Jvm.MethodName) prog_12_method_5_code (4 : Nat) (Option.some Jvm.ClassFile.FieldType.boolean)) ∈ lw_tbl := tw_tb5 (List.mem_of_getElem? (i := 213) rfl)
theorem kw_1174 : (Jvm.Cond.methodLink "RaceByLaps$Tries" (118 : Nat) ({ cls := "RaceByLaps$Tries", name := "nextLaps", desc := "(II)Z" } : Jvm.MethodName)) ∈ lw_tbl := tw_tb5 (List.mem_of_getElem? (i := 214) rfl)
theorem kw_1175 : (Jvm.Cond.privateMethod ({ cls := "RaceByLaps$Tries", name := "nextLaps", desc := "(II)Z" } : Jvm.MethodName)) ∈ lw_tbl := tw_tb5 (List.mem_of_getElem? (i := 215) rfl)
theorem kw_1176 : (Jvm.Cond.instanceMethod ({ cls := "RaceByLaps$Tries", name := "nextLaps", desc := "(II)Z" } : Jvm.MethodName)) ∈ lw_tbl := tw_tb5 (List.mem_of_getElem? (i := 216) rfl)
theorem kw_1177 : (Jvm.Cond.code ({ cls := "RaceByLaps$Tries", name := "nextLaps", desc := "(II)Z" } : Jvm.MethodName) prog_12_method_6_code (6 : Nat) (Option.some Jvm.ClassFile.FieldType.boolean)) ∈ lw_tbl := tw_tb5 (List.mem_of_getElem? (i := 217) rfl)
theorem kw_1178 : (Jvm.Cond.methodLink "RaceByLapsLaw" (157 : Nat) ({ cls := "RaceByLaps", name := "gain", desc := "(III)I" } : Jvm.MethodName)) ∈ lw_tbl := tw_tb5 (List.mem_of_getElem? (i := 218) rfl)
theorem kw_1179 : (Jvm.Cond.instanceMethod ({ cls := "RaceByLaps", name := "gain", desc := "(III)I" } : Jvm.MethodName)) ∈ lw_tbl := tw_tb5 (List.mem_of_getElem? (i := 219) rfl)
theorem kw_1180 : (Jvm.Cond.selects "RaceByLaps" ({ cls := "RaceByLaps", name := "gain", desc := "(III)I" } : Jvm.MethodName) ({ cls := "RaceByLaps", name := "gain", desc := "(III)I" } : Jvm.MethodName)) ∈ lw_tbl := tw_tb5 (List.mem_of_getElem? (i := 220) rfl)
theorem kw_1181 : (Jvm.Cond.code ({ cls := "RaceByLaps", name := "gain", desc := "(III)I" } : Jvm.MethodName) prog_1_method_32_code (7 : Nat) (Option.some Jvm.ClassFile.FieldType.int)) ∈ lw_tbl := tw_tb5 (List.mem_of_getElem? (i := 221) rfl)
theorem kw_1182 : (Jvm.Cond.methodLink "RaceByLaps" (305 : Nat) ({ cls := "java/lang/Math", name := "min", desc := "(II)I" } : Jvm.MethodName)) ∈ lw_tbl := tw_tb5 (List.mem_of_getElem? (i := 222) rfl)
theorem kw_1183 : (Jvm.Cond.methodLink "RaceByLaps" (310 : Nat) ({ cls := "java/lang/Math", name := "max", desc := "(II)I" } : Jvm.MethodName)) ∈ lw_tbl := tw_tb5 (List.mem_of_getElem? (i := 223) rfl)
theorem kw_1184 : (Jvm.Cond.methodLink "RaceByLapsLaw" (161 : Nat) ({ cls := "RaceByLaps", name := "option", desc := "(III)I" } : Jvm.MethodName)) ∈ lw_tbl := tw_tb5 (List.mem_of_getElem? (i := 224) rfl)
theorem kw_1185 : (Jvm.Cond.instanceMethod ({ cls := "RaceByLaps", name := "option", desc := "(III)I" } : Jvm.MethodName)) ∈ lw_tbl := tw_tb5 (List.mem_of_getElem? (i := 225) rfl)
theorem kw_1186 : (Jvm.Cond.selects "RaceByLaps" ({ cls := "RaceByLaps", name := "option", desc := "(III)I" } : Jvm.MethodName) ({ cls := "RaceByLaps", name := "option", desc := "(III)I" } : Jvm.MethodName)) ∈ lw_tbl := tw_tb5 (List.mem_of_getElem? (i := 226) rfl)
theorem kw_1187 : (Jvm.Cond.code ({ cls := "RaceByLaps", name := "option", desc := "(III)I" } : Jvm.MethodName) prog_1_method_33_code (4 : Nat) (Option.some Jvm.ClassFile.FieldType.int)) ∈ lw_tbl := tw_tb5 (List.mem_of_getElem? (i := 227) rfl)
theorem kw_1188 : (Jvm.Cond.methodLink "RaceByLapsLaw" (165 : Nat) ({ cls := "RaceByLaps", name := "clear", desc := "()I" } : Jvm.MethodName)) ∈ lw_tbl := tw_tb5 (List.mem_of_getElem? (i := 228) rfl)
theorem kw_1189 : (Jvm.Cond.instanceMethod ({ cls := "RaceByLaps", name := "clear", desc := "()I" } : Jvm.MethodName)) ∈ lw_tbl := tw_tb5 (List.mem_of_getElem? (i := 229) rfl)
theorem kw_1190 : (Jvm.Cond.selects "RaceByLaps" ({ cls := "RaceByLaps", name := "clear", desc := "()I" } : Jvm.MethodName) ({ cls := "RaceByLaps", name := "clear", desc := "()I" } : Jvm.MethodName)) ∈ lw_tbl := tw_tb5 (List.mem_of_getElem? (i := 230) rfl)
theorem kw_1191 : (Jvm.Cond.code ({ cls := "RaceByLaps", name := "clear", desc := "()I" } : Jvm.MethodName) prog_1_method_34_code (3 : Nat) (Option.some Jvm.ClassFile.FieldType.int)) ∈ lw_tbl := tw_tb5 (List.mem_of_getElem? (i := 231) rfl)
theorem kw_1192 : (Jvm.Cond.methodLink "RaceByLapsLaw" (169 : Nat) ({ cls := "RaceByLaps", name := "settle", desc := "(III)I" } : Jvm.MethodName)) ∈ lw_tbl := tw_tb5 (List.mem_of_getElem? (i := 232) rfl)
theorem kw_1193 : (Jvm.Cond.instanceMethod ({ cls := "RaceByLaps", name := "settle", desc := "(III)I" } : Jvm.MethodName)) ∈ lw_tbl := tw_tb5 (List.mem_of_getElem? (i := 233) rfl)
theorem kw_1194 : (Jvm.Cond.selects "RaceByLaps" ({ cls := "RaceByLaps", name := "settle", desc := "(III)I" } : Jvm.MethodName) ({ cls := "RaceByLaps", name := "settle", desc := "(III)I" } : Jvm.MethodName)) ∈ lw_tbl := tw_tb5 (List.mem_of_getElem? (i := 234) rfl)
theorem kw_1195 : (Jvm.Cond.code ({ cls := "RaceByLaps", name := "settle", desc := "(III)I" } : Jvm.MethodName) prog_1_method_35_code (4 : Nat) (Option.some Jvm.ClassFile.FieldType.int)) ∈ lw_tbl := tw_tb5 (List.mem_of_getElem? (i := 235) rfl)
theorem kw_1196 : (Jvm.Cond.methodLink "RaceByLaps" (316 : Nat) ({ cls := "RaceByLaps$Tries", name := "firstSettled", desc := "(III)I" } : Jvm.MethodName)) ∈ lw_tbl := tw_tb5 (List.mem_of_getElem? (i := 236) rfl)
theorem kw_1197 : (Jvm.Cond.instanceMethod ({ cls := "RaceByLaps$Tries", name := "firstSettled", desc := "(III)I" } : Jvm.MethodName)) ∈ lw_tbl := tw_tb5 (List.mem_of_getElem? (i := 237) rfl)
theorem kw_1198 : (Jvm.Cond.selects "RaceByLaps$Tries" ({ cls := "RaceByLaps$Tries", name := "firstSettled", desc := "(III)I" } : Jvm.MethodName) ({ cls := "RaceByLaps$Tries", name := "firstSettled", desc := "(III)I" } : Jvm.MethodName)) ∈ lw_tbl := tw_tb5 (List.mem_of_getElem? (i := 238) rfl)
theorem kw_1199 : (Jvm.Cond.code ({ cls := "RaceByLaps$Tries", name := "firstSettled", desc := "(III)I" } : Jvm.MethodName) prog_12_method_8_code (8 : Nat) (Option.some Jvm.ClassFile.FieldType.int)) ∈ lw_tbl := tw_tb5 (List.mem_of_getElem? (i := 239) rfl)
theorem kw_1200 : (Jvm.Cond.methodLink "RaceByLaps$Tries" (131 : Nat) ({ cls := "java/lang/Math", name := "min", desc := "(II)I" } : Jvm.MethodName)) ∈ lw_tbl := tw_tb6 (List.mem_of_getElem? (i := 0) rfl)
theorem kw_1201 : (Jvm.Cond.methodLink "RaceByLaps$Tries" (137 : Nat) ({ cls := "RaceByLaps$Car", name := "tryOption", desc := "(I)V" } : Jvm.MethodName)) ∈ lw_tbl := tw_tb6 (List.mem_of_getElem? (i := 1) rfl)
theorem kw_1202 : (Jvm.Cond.instanceMethod ({ cls := "RaceByLaps$Car", name := "tryOption", desc := "(I)V" } : Jvm.MethodName)) ∈ lw_tbl := tw_tb6 (List.mem_of_getElem? (i := 2) rfl)
theorem kw_1203 : (Jvm.Cond.selects "RaceByLaps$Car" ({ cls := "RaceByLaps$Car", name := "tryOption", desc := "(I)V" } : Jvm.MethodName) ({ cls := "RaceByLaps$Car", name := "tryOption", desc := "(I)V" } : Jvm.MethodName)) ∈ lw_tbl := tw_tb6 (List.mem_of_getElem? (i := 3) rfl)
theorem kw_1204 : (Jvm.Cond.code ({ cls := "RaceByLaps$Car", name := "tryOption", desc := "(I)V" } : Jvm.MethodName) prog_3_method_6_code (2 : Nat) (Option.none : Option Jvm.ClassFile.FieldType)) ∈ lw_tbl := tw_tb6 (List.mem_of_getElem? (i := 4) rfl)
theorem kw_1205 : (Jvm.Cond.methodLink "RaceByLaps$Car" (58 : Nat) ({ cls := "RaceByLaps$Table", name := "push", desc := "(IIII)I" } : Jvm.MethodName)) ∈ lw_tbl := tw_tb6 (List.mem_of_getElem? (i := 5) rfl)
theorem kw_1206 : (Jvm.Cond.methodLink "RaceByLaps$Tries" (140 : Nat) ({ cls := "RaceByLaps$Tries", name := "keepPair", desc := "(III)V" } : Jvm.MethodName)) ∈ lw_tbl := tw_tb6 (List.mem_of_getElem? (i := 6) rfl)
theorem kw_1207 : (Jvm.Cond.privateMethod ({ cls := "RaceByLaps$Tries", name := "keepPair", desc := "(III)V" } : Jvm.MethodName)) ∈ lw_tbl := tw_tb6 (List.mem_of_getElem? (i := 7) rfl)
theorem kw_1208 : (Jvm.Cond.instanceMethod ({ cls := "RaceByLaps$Tries", name := "keepPair", desc := "(III)V" } : Jvm.MethodName)) ∈ lw_tbl := tw_tb6 (List.mem_of_getElem? (i := 8) rfl)
theorem kw_1209 : (Jvm.Cond.code ({ cls := "RaceByLaps$Tries", name := "keepPair", desc := "(III)V" } : Jvm.MethodName) prog_12_method_9_code (4 : Nat) (Option.none : Option Jvm.ClassFile.FieldType)) ∈ lw_tbl := tw_tb6 (List.mem_of_getElem? (i := 9) rfl)
theorem kw_1210 : (Jvm.Cond.methodLinkNest "RaceByLaps$Tries" (147 : Nat) ({ cls := "RaceByLaps", name := "isIndex", desc := "(II)Z" } : Jvm.MethodName) "RaceByLaps") ∈ lw_tbl := tw_tb6 (List.mem_of_getElem? (i := 10) rfl)
theorem kw_1211 : (Jvm.Cond.methodLink "RaceByLaps$Tries" (144 : Nat) ({ cls := "RaceByLaps$Tries", name := "isSettled", desc := "(IIII)Z" } : Jvm.MethodName)) ∈ lw_tbl := tw_tb6 (List.mem_of_getElem? (i := 11) rfl)
theorem kw_1212 : (Jvm.Cond.privateMethod ({ cls := "RaceByLaps$Tries", name := "isSettled", desc := "(IIII)Z" } : Jvm.MethodName)) ∈ lw_tbl := tw_tb6 (List.mem_of_getElem? (i := 12) rfl)
theorem kw_1213 : (Jvm.Cond.instanceMethod ({ cls := "RaceByLaps$Tries", name := "isSettled", desc := "(IIII)Z" } : Jvm.MethodName)) ∈ lw_tbl := tw_tb6 (List.mem_of_getElem? (i := 13) rfl)
theorem kw_1214 : (Jvm.Cond.code ({ cls := "RaceByLaps$Tries", name := "isSettled", desc := "(IIII)Z" } : Jvm.MethodName) prog_12_method_10_code (8 : Nat) (Option.some Jvm.ClassFile.FieldType.boolean)) ∈ lw_tbl := tw_tb6 (List.mem_of_getElem? (i := 14) rfl)
theorem kw_1215 : (Jvm.Cond.methodLink "RaceByLapsLaw" (173 : Nat) ({ cls := "RaceByLaps", name := "lost", desc := "(IZ)Z" } : Jvm.MethodName)) ∈ lw_tbl := tw_tb6 (List.mem_of_getElem? (i := 15) rfl)
theorem kw_1216 : (Jvm.Cond.instanceMethod ({ cls := "RaceByLaps", name := "lost", desc := "(IZ)Z" } : Jvm.MethodName)) ∈ lw_tbl := tw_tb6 (List.mem_of_getElem? (i := 16) rfl)
theorem kw_1217 : (Jvm.Cond.selects "RaceByLaps" ({ cls := "RaceByLaps", name := "lost", desc := "(IZ)Z" } : Jvm.MethodName) ({ cls := "RaceByLaps", name := "lost", desc := "(IZ)Z" } : Jvm.MethodName)) ∈ lw_tbl := tw_tb6 (List.mem_of_getElem? (i := 17) rfl)
theorem kw_1218 : (Jvm.Cond.code ({ cls := "RaceByLaps", name := "lost", desc := "(IZ)Z" } : Jvm.MethodName) prog_1_method_36_code (3 : Nat) (Option.some Jvm.ClassFile.FieldType.boolean)) ∈ lw_tbl := tw_tb6 (List.mem_of_getElem? (i := 18) rfl)
theorem kw_1219 : (Jvm.Cond.methodLink "RaceByLapsLaw" (178 : Nat) ({ cls := "RaceByLaps", name := "known", desc := "(IIII)I" } : Jvm.MethodName)) ∈ lw_tbl := tw_tb6 (List.mem_of_getElem? (i := 19) rfl)
theorem kw_1220 : (Jvm.Cond.instanceMethod ({ cls := "RaceByLaps", name := "known", desc := "(IIII)I" } : Jvm.MethodName)) ∈ lw_tbl := tw_tb6 (List.mem_of_getElem? (i := 20) rfl)
theorem kw_1221 : (Jvm.Cond.selects "RaceByLaps" ({ cls := "RaceByLaps", name := "known", desc := "(IIII)I" } : Jvm.MethodName) ({ cls := "RaceByLaps", name := "known", desc := "(IIII)I" } : Jvm.MethodName)) ∈ lw_tbl := tw_tb6 (List.mem_of_getElem? (i := 21) rfl)
theorem kw_1222 : (Jvm.Cond.code ({ cls := "RaceByLaps", name := "known", desc := "(IIII)I" } : Jvm.MethodName) prog_1_method_37_code (5 : Nat) (Option.some Jvm.ClassFile.FieldType.int)) ∈ lw_tbl := tw_tb6 (List.mem_of_getElem? (i := 22) rfl)
theorem kw_1223 : (Jvm.Cond.methodLink "RaceByLaps" (323 : Nat) ({ cls := "RaceByLaps$Race", name := "spanAt", desc := "(IIZ)I" } : Jvm.MethodName)) ∈ lw_tbl := tw_tb6 (List.mem_of_getElem? (i := 23) rfl)
theorem kw_1224 : (Jvm.Cond.instanceMethod ({ cls := "RaceByLaps$Race", name := "spanAt", desc := "(IIZ)I" } : Jvm.MethodName)) ∈ lw_tbl := tw_tb6 (List.mem_of_getElem? (i := 24) rfl)
theorem kw_1225 : (Jvm.Cond.selects "RaceByLaps$Race" ({ cls := "RaceByLaps$Race", name := "spanAt", desc := "(IIZ)I" } : Jvm.MethodName) ({ cls := "RaceByLaps$Race", name := "spanAt", desc := "(IIZ)I" } : Jvm.MethodName)) ∈ lw_tbl := tw_tb6 (List.mem_of_getElem? (i := 25) rfl)
theorem kw_1226 : (Jvm.Cond.code ({ cls := "RaceByLaps$Race", name := "spanAt", desc := "(IIZ)I" } : Jvm.MethodName) prog_4_method_24_code (10 : Nat) (Option.some Jvm.ClassFile.FieldType.int)) ∈ lw_tbl := tw_tb6 (List.mem_of_getElem? (i := 26) rfl)
theorem kw_1227 : (Jvm.Cond.methodLink "RaceByLaps$Race" (311 : Nat) ({ cls := "RaceByLaps$Track", name := "tells", desc := "(I)Z" } : Jvm.MethodName)) ∈ lw_tbl := tw_tb6 (List.mem_of_getElem? (i := 27) rfl)
theorem kw_1228 : (Jvm.Cond.instanceMethod ({ cls := "RaceByLaps$Track", name := "tells", desc := "(I)Z" } : Jvm.MethodName)) ∈ lw_tbl := tw_tb6 (List.mem_of_getElem? (i := 28) rfl)
theorem kw_1229 : (Jvm.Cond.selects "RaceByLaps$Track" ({ cls := "RaceByLaps$Track", name := "tells", desc := "(I)Z" } : Jvm.MethodName) ({ cls := "RaceByLaps$Track", name := "tells", desc := "(I)Z" } : Jvm.MethodName)) ∈ lw_tbl := tw_tb6 (List.mem_of_getElem? (i := 29) rfl)
theorem kw_1230 : (Jvm.Cond.code ({ cls := "RaceByLaps$Track", name := "tells", desc := "(I)Z" } : Jvm.MethodName) prog_11_method_8_code (2 : Nat) (Option.some Jvm.ClassFile.FieldType.boolean)) ∈ lw_tbl := tw_tb6 (List.mem_of_getElem? (i := 30) rfl)
theorem kw_1231 : (Jvm.Cond.methodLink "RaceByLaps$Track" (67 : Nat) ({ cls := "RaceByLaps$Track", name := "sectorOf", desc := "(I)I" } : Jvm.MethodName)) ∈ lw_tbl := tw_tb6 (List.mem_of_getElem? (i := 31) rfl)
theorem kw_1232 : (Jvm.Cond.methodLink "RaceByLapsLaw" (182 : Nat) ({ cls := "RaceByLaps", name := "ahead", desc := "(IIII)I" } : Jvm.MethodName)) ∈ lw_tbl := tw_tb6 (List.mem_of_getElem? (i := 32) rfl)
theorem kw_1233 : (Jvm.Cond.instanceMethod ({ cls := "RaceByLaps", name := "ahead", desc := "(IIII)I" } : Jvm.MethodName)) ∈ lw_tbl := tw_tb6 (List.mem_of_getElem? (i := 33) rfl)
theorem kw_1234 : (Jvm.Cond.selects "RaceByLaps" ({ cls := "RaceByLaps", name := "ahead", desc := "(IIII)I" } : Jvm.MethodName) ({ cls := "RaceByLaps", name := "ahead", desc := "(IIII)I" } : Jvm.MethodName)) ∈ lw_tbl := tw_tb6 (List.mem_of_getElem? (i := 34) rfl)
theorem kw_1235 : (Jvm.Cond.code ({ cls := "RaceByLaps", name := "ahead", desc := "(IIII)I" } : Jvm.MethodName) prog_1_method_38_code (8 : Nat) (Option.some Jvm.ClassFile.FieldType.int)) ∈ lw_tbl := tw_tb6 (List.mem_of_getElem? (i := 35) rfl)
theorem kw_1236 : (Jvm.Cond.methodLink "RaceByLapsLaw" (186 : Nat) ({ cls := "RaceByLaps", name := "wall", desc := "(II)I" } : Jvm.MethodName)) ∈ lw_tbl := tw_tb6 (List.mem_of_getElem? (i := 36) rfl)
theorem kw_1237 : (Jvm.Cond.instanceMethod ({ cls := "RaceByLaps", name := "wall", desc := "(II)I" } : Jvm.MethodName)) ∈ lw_tbl := tw_tb6 (List.mem_of_getElem? (i := 37) rfl)
theorem kw_1238 : (Jvm.Cond.selects "RaceByLaps" ({ cls := "RaceByLaps", name := "wall", desc := "(II)I" } : Jvm.MethodName) ({ cls := "RaceByLaps", name := "wall", desc := "(II)I" } : Jvm.MethodName)) ∈ lw_tbl := tw_tb6 (List.mem_of_getElem? (i := 38) rfl)
theorem kw_1239 : (Jvm.Cond.code ({ cls := "RaceByLaps", name := "wall", desc := "(II)I" } : Jvm.MethodName) prog_1_method_39_code (10 : Nat) (Option.some Jvm.ClassFile.FieldType.int)) ∈ lw_tbl := tw_tb6 (List.mem_of_getElem? (i := 39) rfl)
theorem kw_1240 : (Jvm.Cond.methodLink "RaceByLaps" (327 : Nat) ({ cls := "RaceByLaps$Race", name := "endedByWall", desc := "(II)I" } : Jvm.MethodName)) ∈ lw_tbl := tw_tb6 (List.mem_of_getElem? (i := 40) rfl)
theorem kw_1241 : (Jvm.Cond.instanceMethod ({ cls := "RaceByLaps$Race", name := "endedByWall", desc := "(II)I" } : Jvm.MethodName)) ∈ lw_tbl := tw_tb6 (List.mem_of_getElem? (i := 41) rfl)
theorem kw_1242 : (Jvm.Cond.selects "RaceByLaps$Race" ({ cls := "RaceByLaps$Race", name := "endedByWall", desc := "(II)I" } : Jvm.MethodName) ({ cls := "RaceByLaps$Race", name := "endedByWall", desc := "(II)I" } : Jvm.MethodName)) ∈ lw_tbl := tw_tb6 (List.mem_of_getElem? (i := 42) rfl)
theorem kw_1243 : (Jvm.Cond.code ({ cls := "RaceByLaps$Race", name := "endedByWall", desc := "(II)I" } : Jvm.MethodName) prog_4_method_25_code (4 : Nat) (Option.some Jvm.ClassFile.FieldType.int)) ∈ lw_tbl := tw_tb6 (List.mem_of_getElem? (i := 43) rfl)
theorem kw_1244 : (Jvm.Cond.methodLink "RaceByLaps" (330 : Nat) ({ cls := "RaceByLaps$Runner", name := "timeOrStart", desc := "(I)I" } : Jvm.MethodName)) ∈ lw_tbl := tw_tb6 (List.mem_of_getElem? (i := 44) rfl)
theorem kw_1245 : (Jvm.Cond.instanceMethod ({ cls := "RaceByLaps$Runner", name := "timeOrStart", desc := "(I)I" } : Jvm.MethodName)) ∈ lw_tbl := tw_tb6 (List.mem_of_getElem? (i := 45) rfl)
theorem kw_1246 : (Jvm.Cond.selects "RaceByLaps$Runner" ({ cls := "RaceByLaps$Runner", name := "timeOrStart", desc := "(I)I" } : Jvm.MethodName) ({ cls := "RaceByLaps$Runner", name := "timeOrStart", desc := "(I)I" } : Jvm.MethodName)) ∈ lw_tbl := tw_tb6 (List.mem_of_getElem? (i := 46) rfl)
theorem kw_1247 : (Jvm.Cond.code ({ cls := "RaceByLaps$Runner", name := "timeOrStart", desc := "(I)I" } : Jvm.MethodName) prog_8_method_8_code (2 : Nat) (Option.some Jvm.ClassFile.FieldType.int)) ∈ lw_tbl := tw_tb6 (List.mem_of_getElem? (i := 47) rfl)
theorem kw_1248 : (Jvm.Cond.methodLink "RaceByLapsLaw" (190 : Nat) ({ cls := "RaceByLaps", name := "why", desc := "(II)I" } : Jvm.MethodName)) ∈ lw_tbl := tw_tb6 (List.mem_of_getElem? (i := 48) rfl)
theorem kw_1249 : (Jvm.Cond.instanceMethod ({ cls := "RaceByLaps", name := "why", desc := "(II)I" } : Jvm.MethodName)) ∈ lw_tbl := tw_tb6 (List.mem_of_getElem? (i := 49) rfl)
theorem kw_1250 : (Jvm.Cond.selects "RaceByLaps" ({ cls := "RaceByLaps", name := "why", desc := "(II)I" } : Jvm.MethodName) ({ cls := "RaceByLaps", name := "why", desc := "(II)I" } : Jvm.MethodName)) ∈ lw_tbl := tw_tb6 (List.mem_of_getElem? (i := 50) rfl)
theorem kw_1251 : (Jvm.Cond.code ({ cls := "RaceByLaps", name := "why", desc := "(II)I" } : Jvm.MethodName) prog_1_method_40_code (3 : Nat) (Option.some Jvm.ClassFile.FieldType.int)) ∈ lw_tbl := tw_tb6 (List.mem_of_getElem? (i := 51) rfl)
theorem kw_1252 : (Jvm.Cond.methodLink "RaceByLapsLaw" (88 : Nat) ({ cls := "RaceByLapsLaw", name := "of", desc := "(LRaceByLaps;II[J)I" } : Jvm.MethodName)) ∈ lw_tbl := tw_tb6 (List.mem_of_getElem? (i := 52) rfl)
theorem kw_1253 : (Jvm.Cond.static ({ cls := "RaceByLapsLaw", name := "of", desc := "(LRaceByLaps;II[J)I" } : Jvm.MethodName)) ∈ lw_tbl := tw_tb6 (List.mem_of_getElem? (i := 53) rfl)
theorem kw_1254 : (Jvm.Cond.codeWith ({ cls := "RaceByLapsLaw", name := "of", desc := "(LRaceByLaps;II[J)I" } : Jvm.MethodName) method_3_code (5 : Nat) (Option.some Jvm.ClassFile.FieldType.int) [((0 : Nat), (10 : Nat), (13 : Nat), (13 : Nat))]) ∈ lw_tbl := tw_tb6 (List.mem_of_getElem? (i := 54) rfl)
theorem kw_1255 : (Jvm.Cond.classLink "RaceByLapsLaw" (13 : Nat) "java/util/NoSuchElementException") ∈ lw_tbl := tw_tb6 (List.mem_of_getElem? (i := 55) rfl)
theorem kw_1256 : (Jvm.Cond.methodLink "RaceByLapsLaw" (7 : Nat) ({ cls := "RaceByLaps", name := "of", desc := "(II)I" } : Jvm.MethodName)) ∈ lw_tbl := tw_tb6 (List.mem_of_getElem? (i := 56) rfl)
theorem kw_1257 : (Jvm.Cond.instanceMethod ({ cls := "RaceByLaps", name := "of", desc := "(II)I" } : Jvm.MethodName)) ∈ lw_tbl := tw_tb6 (List.mem_of_getElem? (i := 57) rfl)
theorem kw_1258 : (Jvm.Cond.selects "RaceByLaps" ({ cls := "RaceByLaps", name := "of", desc := "(II)I" } : Jvm.MethodName) ({ cls := "RaceByLaps", name := "of", desc := "(II)I" } : Jvm.MethodName)) ∈ lw_tbl := tw_tb6 (List.mem_of_getElem? (i := 58) rfl)
theorem kw_1259 : (Jvm.Cond.code ({ cls := "RaceByLaps", name := "of", desc := "(II)I" } : Jvm.MethodName) prog_1_method_16_code (3 : Nat) (Option.some Jvm.ClassFile.FieldType.int)) ∈ lw_tbl := tw_tb6 (List.mem_of_getElem? (i := 59) rfl)
theorem kw_1260 : (Jvm.Cond.classLink "RaceByLaps" (224 : Nat) "java/util/NoSuchElementException") ∈ lw_tbl := tw_tb6 (List.mem_of_getElem? (i := 60) rfl)
theorem kw_1261 : (Jvm.Cond.instantiable "java/util/NoSuchElementException" (6 : Nat)) ∈ lw_tbl := tw_tb6 (List.mem_of_getElem? (i := 61) rfl)
theorem kw_1262 : (Jvm.Cond.castable "java/util/NoSuchElementException" "java/util/NoSuchElementException") ∈ lw_tbl := tw_tb6 (List.mem_of_getElem? (i := 62) rfl)
theorem kw_1263 : (Jvm.Cond.declares ({ cls := "java/lang/RuntimeException", name := "<init>", desc := "()V" } : Jvm.MethodName)) ∈ lw_tbl := tw_tb6 (List.mem_of_getElem? (i := 63) rfl)
theorem kw_1264 : (Jvm.Cond.declares ({ cls := "java/lang/RuntimeException", name := "<init>", desc := "(Ljava/lang/String;)V" } : Jvm.MethodName)) ∈ lw_tbl := tw_tb6 (List.mem_of_getElem? (i := 64) rfl)
theorem kw_1265 : (Jvm.Cond.declares ({ cls := "java/lang/Exception", name := "<init>", desc := "()V" } : Jvm.MethodName)) ∈ lw_tbl := tw_tb6 (List.mem_of_getElem? (i := 65) rfl)
theorem kw_1266 : (Jvm.Cond.declares ({ cls := "java/lang/Exception", name := "<init>", desc := "(Ljava/lang/String;)V" } : Jvm.MethodName)) ∈ lw_tbl := tw_tb6 (List.mem_of_getElem? (i := 66) rfl)
theorem kw_1267 : (Jvm.Cond.declares ({ cls := "java/lang/Throwable", name := "<init>", desc := "()V" } : Jvm.MethodName)) ∈ lw_tbl := tw_tb6 (List.mem_of_getElem? (i := 67) rfl)
theorem kw_1268 : (Jvm.Cond.declares ({ cls := "java/lang/Throwable", name := "<init>", desc := "(Ljava/lang/String;)V" } : Jvm.MethodName)) ∈ lw_tbl := tw_tb6 (List.mem_of_getElem? (i := 68) rfl)
theorem kw_1269 : (Jvm.Cond.selects "java/util/NoSuchElementException" ({ cls := "java/lang/Throwable", name := "fillInStackTrace", desc := "(I)Ljava/lang/Throwable;" } : Jvm.MethodName) ({ cls := "java/lang/Throwable", name := "fillInStackTrace", desc := "(I)Ljava/lang/Throwable;" } : Jvm.MethodName)) ∈ lw_tbl := tw_tb6 (List.mem_of_getElem? (i := 69) rfl)
theorem kw_1270 : (Jvm.Cond.selects "java/util/NoSuchElementException" ({ cls := "java/lang/Throwable", name := "fillInStackTrace", desc := "()Ljava/lang/Throwable;" } : Jvm.MethodName) ({ cls := "java/lang/Throwable", name := "fillInStackTrace", desc := "()Ljava/lang/Throwable;" } : Jvm.MethodName)) ∈ lw_tbl := tw_tb6 (List.mem_of_getElem? (i := 70) rfl)
theorem kw_1271 : (Jvm.Cond.lays "java/util/NoSuchElementException" "java/lang/Throwable" "cause" "Ljava/lang/Throwable;") ∈ lw_tbl := tw_tb6 (List.mem_of_getElem? (i := 71) rfl)
theorem kw_1272 : (Jvm.Cond.lays "java/lang/Throwable" "java/lang/Throwable" "cause" "Ljava/lang/Throwable;") ∈ lw_tbl := tw_tb6 (List.mem_of_getElem? (i := 72) rfl)
theorem kw_1273 : (Jvm.Cond.lays "java/util/NoSuchElementException" "java/lang/Throwable" "stackTrace" "[Ljava/lang/StackTraceElement;") ∈ lw_tbl := tw_tb6 (List.mem_of_getElem? (i := 73) rfl)
theorem kw_1274 : (Jvm.Cond.lays "java/lang/Throwable" "java/lang/Throwable" "stackTrace" "[Ljava/lang/StackTraceElement;") ∈ lw_tbl := tw_tb6 (List.mem_of_getElem? (i := 74) rfl)
theorem kw_1275 : (Jvm.Cond.lays "java/util/NoSuchElementException" "java/lang/Throwable" "suppressedExceptions" "Ljava/util/List;") ∈ lw_tbl := tw_tb6 (List.mem_of_getElem? (i := 75) rfl)
theorem kw_1276 : (Jvm.Cond.lays "java/lang/Throwable" "java/lang/Throwable" "suppressedExceptions" "Ljava/util/List;") ∈ lw_tbl := tw_tb6 (List.mem_of_getElem? (i := 76) rfl)
theorem kw_1277 : (Jvm.Cond.lays "java/util/NoSuchElementException" "java/lang/Throwable" "detailMessage" "Ljava/lang/String;") ∈ lw_tbl := tw_tb6 (List.mem_of_getElem? (i := 77) rfl)
theorem kw_1278 : (Jvm.Cond.lays "java/lang/Throwable" "java/lang/Throwable" "detailMessage" "Ljava/lang/String;") ∈ lw_tbl := tw_tb6 (List.mem_of_getElem? (i := 78) rfl)
theorem kw_1279 : (Jvm.Cond.lays "java/util/NoSuchElementException" "java/lang/Throwable" "backtrace" "Ljava/lang/Object;") ∈ lw_tbl := tw_tb6 (List.mem_of_getElem? (i := 79) rfl)
theorem kw_1280 : (Jvm.Cond.lays "java/lang/Throwable" "java/lang/Throwable" "backtrace" "Ljava/lang/Object;") ∈ lw_tbl := tw_tb6 (List.mem_of_getElem? (i := 80) rfl)
theorem kw_1281 : (Jvm.Cond.fieldLink "java/lang/Throwable" (198 : Nat) "java/lang/Throwable" "backtrace" "Ljava/lang/Object;") ∈ lw_tbl := tw_tb6 (List.mem_of_getElem? (i := 81) rfl)
theorem kw_1282 : (Jvm.Cond.superclass "java/lang/Throwable" "java/lang/Object") ∈ lw_tbl := tw_tb6 (List.mem_of_getElem? (i := 82) rfl)
theorem kw_1283 : (Jvm.Cond.instanceMethod ({ cls := "java/lang/Throwable", name := "<init>", desc := "()V" } : Jvm.MethodName)) ∈ lw_tbl := tw_tb6 (List.mem_of_getElem? (i := 83) rfl)
theorem kw_1284 : (Jvm.Cond.code ({ cls := "java/lang/Throwable", name := "<init>", desc := "()V" } : Jvm.MethodName) prog_26_method_1_code (1 : Nat) (Option.none : Option Jvm.ClassFile.FieldType)) ∈ lw_tbl := tw_tb6 (List.mem_of_getElem? (i := 84) rfl)
theorem kw_1285 : (Jvm.Cond.methodLink "java/lang/Throwable" (1 : Nat) ({ cls := "java/lang/Object", name := "<init>", desc := "()V" } : Jvm.MethodName)) ∈ lw_tbl := tw_tb6 (List.mem_of_getElem? (i := 85) rfl)
theorem kw_1286 : (Jvm.Cond.fieldLink "java/lang/Throwable" (13 : Nat) "java/lang/Throwable" "UNASSIGNED_STACK" "[Ljava/lang/StackTraceElement;") ∈ lw_tbl := tw_tb6 (List.mem_of_getElem? (i := 86) rfl)
theorem kw_1287 : (Jvm.Cond.laysStatic "java/lang/Throwable" "UNASSIGNED_STACK" "[Ljava/lang/StackTraceElement;") ∈ lw_tbl := tw_tb6 (List.mem_of_getElem? (i := 87) rfl)
theorem kw_1288 : (Jvm.Cond.fieldLink "java/lang/Throwable" (20 : Nat) "java/lang/Throwable" "SUPPRESSED_SENTINEL" "Ljava/util/List;") ∈ lw_tbl := tw_tb6 (List.mem_of_getElem? (i := 88) rfl)
theorem kw_1289 : (Jvm.Cond.laysStatic "java/lang/Throwable" "SUPPRESSED_SENTINEL" "Ljava/util/List;") ∈ lw_tbl := tw_tb6 (List.mem_of_getElem? (i := 89) rfl)
theorem kw_1290 : (Jvm.Cond.methodLink "java/lang/Throwable" (27 : Nat) ({ cls := "java/lang/Throwable", name := "fillInStackTrace", desc := "()Ljava/lang/Throwable;" } : Jvm.MethodName)) ∈ lw_tbl := tw_tb6 (List.mem_of_getElem? (i := 90) rfl)
theorem kw_1291 : (Jvm.Cond.instanceMethod ({ cls := "java/lang/Throwable", name := "fillInStackTrace", desc := "()Ljava/lang/Throwable;" } : Jvm.MethodName)) ∈ lw_tbl := tw_tb6 (List.mem_of_getElem? (i := 91) rfl)
theorem kw_1292 : (Jvm.Cond.sameMethod "java/lang/Throwable" "java/lang/Throwable" "fillInStackTrace" "()Ljava/lang/Throwable;") ∈ lw_tbl := tw_tb6 (List.mem_of_getElem? (i := 92) rfl)
theorem kw_1293 : (Jvm.Cond.codeSync ({ cls := "java/lang/Throwable", name := "fillInStackTrace", desc := "()Ljava/lang/Throwable;" } : Jvm.MethodName) prog_26_method_18_code (1 : Nat) (Option.some (Jvm.ClassFile.FieldType.object "java/lang/Throwable"))) ∈ lw_tbl := tw_tb6 (List.mem_of_getElem? (i := 93) rfl)
theorem kw_1294 : (Jvm.Cond.methodLink "java/lang/Throwable" (202 : Nat) ({ cls := "java/lang/Throwable", name := "fillInStackTrace", desc := "(I)Ljava/lang/Throwable;" } : Jvm.MethodName)) ∈ lw_tbl := tw_tb6 (List.mem_of_getElem? (i := 94) rfl)
theorem kw_1295 : (Jvm.Cond.privateMethod ({ cls := "java/lang/Throwable", name := "fillInStackTrace", desc := "(I)Ljava/lang/Throwable;" } : Jvm.MethodName)) ∈ lw_tbl := tw_tb6 (List.mem_of_getElem? (i := 95) rfl)
theorem kw_1296 : (Jvm.Cond.instanceMethod ({ cls := "java/lang/Throwable", name := "fillInStackTrace", desc := "(I)Ljava/lang/Throwable;" } : Jvm.MethodName)) ∈ lw_tbl := tw_tb6 (List.mem_of_getElem? (i := 96) rfl)
theorem kw_1297 : (Jvm.Cond.instantiable "java/lang/Throwable" (6 : Nat)) ∈ lw_tbl := tw_tb6 (List.mem_of_getElem? (i := 97) rfl)
theorem kw_1298 : (Jvm.Cond.native ({ cls := "java/lang/Throwable", name := "fillInStackTrace", desc := "(I)Ljava/lang/Throwable;" } : Jvm.MethodName)) ∈ lw_tbl := tw_tb6 (List.mem_of_getElem? (i := 98) rfl)
theorem kw_1299 : (Jvm.Cond.methodLink "RaceByLaps" (226 : Nat) ({ cls := "java/util/NoSuchElementException", name := "<init>", desc := "()V" } : Jvm.MethodName)) ∈ lw_tbl := tw_tb6 (List.mem_of_getElem? (i := 99) rfl)
theorem kw_1300 : (Jvm.Cond.instanceMethod ({ cls := "java/util/NoSuchElementException", name := "<init>", desc := "()V" } : Jvm.MethodName)) ∈ lw_tbl := tw_tb6 (List.mem_of_getElem? (i := 100) rfl)
theorem kw_1301 : (Jvm.Cond.code ({ cls := "java/util/NoSuchElementException", name := "<init>", desc := "()V" } : Jvm.MethodName) prog_30_method_1_code (1 : Nat) (Option.none : Option Jvm.ClassFile.FieldType)) ∈ lw_tbl := tw_tb6 (List.mem_of_getElem? (i := 101) rfl)
theorem kw_1302 : (Jvm.Cond.methodLink "java/util/NoSuchElementException" (1 : Nat) ({ cls := "java/lang/RuntimeException", name := "<init>", desc := "()V" } : Jvm.MethodName)) ∈ lw_tbl := tw_tb6 (List.mem_of_getElem? (i := 102) rfl)
theorem kw_1303 : (Jvm.Cond.instanceMethod ({ cls := "java/lang/RuntimeException", name := "<init>", desc := "()V" } : Jvm.MethodName)) ∈ lw_tbl := tw_tb6 (List.mem_of_getElem? (i := 103) rfl)
theorem kw_1304 : (Jvm.Cond.code ({ cls := "java/lang/RuntimeException", name := "<init>", desc := "()V" } : Jvm.MethodName) prog_22_method_1_code (1 : Nat) (Option.none : Option Jvm.ClassFile.FieldType)) ∈ lw_tbl := tw_tb6 (List.mem_of_getElem? (i := 104) rfl)
theorem kw_1305 : (Jvm.Cond.methodLink "java/lang/RuntimeException" (1 : Nat) ({ cls := "java/lang/Exception", name := "<init>", desc := "()V" } : Jvm.MethodName)) ∈ lw_tbl := tw_tb6 (List.mem_of_getElem? (i := 105) rfl)
theorem kw_1306 : (Jvm.Cond.instanceMethod ({ cls := "java/lang/Exception", name := "<init>", desc := "()V" } : Jvm.MethodName)) ∈ lw_tbl := tw_tb6 (List.mem_of_getElem? (i := 106) rfl)
theorem kw_1307 : (Jvm.Cond.code ({ cls := "java/lang/Exception", name := "<init>", desc := "()V" } : Jvm.MethodName) prog_19_method_1_code (1 : Nat) (Option.none : Option Jvm.ClassFile.FieldType)) ∈ lw_tbl := tw_tb6 (List.mem_of_getElem? (i := 107) rfl)
theorem kw_1308 : (Jvm.Cond.methodLink "java/lang/Exception" (1 : Nat) ({ cls := "java/lang/Throwable", name := "<init>", desc := "()V" } : Jvm.MethodName)) ∈ lw_tbl := tw_tb6 (List.mem_of_getElem? (i := 108) rfl)
theorem kw_1309 : (Jvm.Cond.fieldLink "java/lang/Throwable" (198 : Nat) "java/lang/Throwable" "backtrace" "Ljava/lang/Object;") ∈ lw_tbl := tw_tb6 (List.mem_of_getElem? (i := 109) rfl)
theorem kw_1310 : (Jvm.Cond.fieldLink "java/lang/Throwable" (7 : Nat) "java/lang/Throwable" "cause" "Ljava/lang/Throwable;") ∈ lw_tbl := tw_tb6 (List.mem_of_getElem? (i := 110) rfl)
theorem kw_1311 : (Jvm.Cond.fieldLink "java/lang/Throwable" (17 : Nat) "java/lang/Throwable" "stackTrace" "[Ljava/lang/StackTraceElement;") ∈ lw_tbl := tw_tb6 (List.mem_of_getElem? (i := 111) rfl)
theorem kw_1312 : (Jvm.Cond.fieldLink "java/lang/Throwable" (24 : Nat) "java/lang/Throwable" "suppressedExceptions" "Ljava/util/List;") ∈ lw_tbl := tw_tb6 (List.mem_of_getElem? (i := 112) rfl)
theorem kw_1313 : (Jvm.Cond.soleField "java/lang/Throwable" "backtrace") ∈ lw_tbl := tw_tb6 (List.mem_of_getElem? (i := 113) rfl)
theorem kw_1314 : (Jvm.Cond.soleField "java/lang/Throwable" "detailMessage") ∈ lw_tbl := tw_tb6 (List.mem_of_getElem? (i := 114) rfl)
theorem kw_1315 : (Jvm.Cond.soleField "java/lang/Throwable" "cause") ∈ lw_tbl := tw_tb6 (List.mem_of_getElem? (i := 115) rfl)
theorem kw_1316 : (Jvm.Cond.soleField "java/lang/Throwable" "stackTrace") ∈ lw_tbl := tw_tb6 (List.mem_of_getElem? (i := 116) rfl)
theorem kw_1317 : (Jvm.Cond.lays "java/util/NoSuchElementException" "java/lang/Throwable" "depth" "I") ∈ lw_tbl := tw_tb6 (List.mem_of_getElem? (i := 117) rfl)
theorem kw_1318 : (Jvm.Cond.soleField "java/lang/Throwable" "depth") ∈ lw_tbl := tw_tb6 (List.mem_of_getElem? (i := 118) rfl)
theorem kw_1319 : (Jvm.Cond.soleField "java/lang/Throwable" "suppressedExceptions") ∈ lw_tbl := tw_tb6 (List.mem_of_getElem? (i := 119) rfl)
theorem kw_1320 : (Jvm.Cond.superclass "java/util/NoSuchElementException" "java/lang/RuntimeException") ∈ lw_tbl := tw_tb6 (List.mem_of_getElem? (i := 120) rfl)
theorem kw_1321 : (Jvm.Cond.methodLink "RaceByLaps" (234 : Nat) ({ cls := "RaceByLaps$Runner", name := "tell", desc := "(I)I" } : Jvm.MethodName)) ∈ lw_tbl := tw_tb6 (List.mem_of_getElem? (i := 121) rfl)
theorem kw_1322 : (Jvm.Cond.instanceMethod ({ cls := "RaceByLaps$Runner", name := "tell", desc := "(I)I" } : Jvm.MethodName)) ∈ lw_tbl := tw_tb6 (List.mem_of_getElem? (i := 122) rfl)
theorem kw_1323 : (Jvm.Cond.selects "RaceByLaps$Runner" ({ cls := "RaceByLaps$Runner", name := "tell", desc := "(I)I" } : Jvm.MethodName) ({ cls := "RaceByLaps$Runner", name := "tell", desc := "(I)I" } : Jvm.MethodName)) ∈ lw_tbl := tw_tb6 (List.mem_of_getElem? (i := 123) rfl)
theorem kw_1324 : (Jvm.Cond.code ({ cls := "RaceByLaps$Runner", name := "tell", desc := "(I)I" } : Jvm.MethodName) prog_8_method_9_code (2 : Nat) (Option.some Jvm.ClassFile.FieldType.int)) ∈ lw_tbl := tw_tb6 (List.mem_of_getElem? (i := 124) rfl)
theorem kw_1325 : (Jvm.Cond.methodLink "RaceByLaps$Runner" (99 : Nat) ({ cls := "java/lang/Integer", name := "bitCount", desc := "(I)I" } : Jvm.MethodName)) ∈ lw_tbl := tw_tb6 (List.mem_of_getElem? (i := 125) rfl)
theorem kw_1326 : (Jvm.Cond.methodLink "RaceByLaps$Runner" (105 : Nat) ({ cls := "RaceByLaps$Runner", name := "age", desc := "()I" } : Jvm.MethodName)) ∈ lw_tbl := tw_tb6 (List.mem_of_getElem? (i := 126) rfl)
theorem kw_1327 : (Jvm.Cond.methodLink "RaceByLapsLaw" (138 : Nat) ({ cls := "RaceByLapsLaw", name := "sum", desc := "(LRaceByLaps;II[J)I" } : Jvm.MethodName)) ∈ lw_tbl := tw_tb6 (List.mem_of_getElem? (i := 127) rfl)
theorem kw_1328 : (Jvm.Cond.static ({ cls := "RaceByLapsLaw", name := "sum", desc := "(LRaceByLaps;II[J)I" } : Jvm.MethodName)) ∈ lw_tbl := tw_tb6 (List.mem_of_getElem? (i := 128) rfl)
theorem kw_1329 : (Jvm.Cond.codeWith ({ cls := "RaceByLapsLaw", name := "sum", desc := "(LRaceByLaps;II[J)I" } : Jvm.MethodName) method_4_code (5 : Nat) (Option.some Jvm.ClassFile.FieldType.int) [((0 : Nat), (10 : Nat), (13 : Nat), (13 : Nat))]) ∈ lw_tbl := tw_tb6 (List.mem_of_getElem? (i := 129) rfl)
theorem kw_1330 : (Jvm.Cond.methodLink "RaceByLapsLaw" (15 : Nat) ({ cls := "RaceByLaps", name := "sum", desc := "(II)I" } : Jvm.MethodName)) ∈ lw_tbl := tw_tb6 (List.mem_of_getElem? (i := 130) rfl)
theorem kw_1331 : (Jvm.Cond.instanceMethod ({ cls := "RaceByLaps", name := "sum", desc := "(II)I" } : Jvm.MethodName)) ∈ lw_tbl := tw_tb6 (List.mem_of_getElem? (i := 131) rfl)
theorem kw_1332 : (Jvm.Cond.selects "RaceByLaps" ({ cls := "RaceByLaps", name := "sum", desc := "(II)I" } : Jvm.MethodName) ({ cls := "RaceByLaps", name := "sum", desc := "(II)I" } : Jvm.MethodName)) ∈ lw_tbl := tw_tb6 (List.mem_of_getElem? (i := 132) rfl)
theorem kw_1333 : (Jvm.Cond.code ({ cls := "RaceByLaps", name := "sum", desc := "(II)I" } : Jvm.MethodName) prog_1_method_27_code (3 : Nat) (Option.some Jvm.ClassFile.FieldType.int)) ∈ lw_tbl := tw_tb6 (List.mem_of_getElem? (i := 133) rfl)
theorem kw_1334 : (Jvm.Cond.methodLink "RaceByLapsLaw" (194 : Nat) ({ cls := "RaceByLapsLaw", name := "row", desc := "(LRaceByLaps;I[J)I" } : Jvm.MethodName)) ∈ lw_tbl := tw_tb6 (List.mem_of_getElem? (i := 134) rfl)
theorem kw_1335 : (Jvm.Cond.static ({ cls := "RaceByLapsLaw", name := "row", desc := "(LRaceByLaps;I[J)I" } : Jvm.MethodName)) ∈ lw_tbl := tw_tb6 (List.mem_of_getElem? (i := 135) rfl)
theorem kw_1336 : (Jvm.Cond.codeWith ({ cls := "RaceByLapsLaw", name := "row", desc := "(LRaceByLaps;I[J)I" } : Jvm.MethodName) method_5_code (4 : Nat) (Option.some Jvm.ClassFile.FieldType.int) [((0 : Nat), (9 : Nat), (12 : Nat), (13 : Nat))]) ∈ lw_tbl := tw_tb6 (List.mem_of_getElem? (i := 136) rfl)
theorem kw_1337 : (Jvm.Cond.methodLink "RaceByLapsLaw" (18 : Nat) ({ cls := "RaceByLaps", name := "row", desc := "(I)I" } : Jvm.MethodName)) ∈ lw_tbl := tw_tb6 (List.mem_of_getElem? (i := 137) rfl)
theorem kw_1338 : (Jvm.Cond.instanceMethod ({ cls := "RaceByLaps", name := "row", desc := "(I)I" } : Jvm.MethodName)) ∈ lw_tbl := tw_tb6 (List.mem_of_getElem? (i := 138) rfl)
theorem kw_1339 : (Jvm.Cond.selects "RaceByLaps" ({ cls := "RaceByLaps", name := "row", desc := "(I)I" } : Jvm.MethodName) ({ cls := "RaceByLaps", name := "row", desc := "(I)I" } : Jvm.MethodName)) ∈ lw_tbl := tw_tb6 (List.mem_of_getElem? (i := 139) rfl)
theorem kw_1340 : (Jvm.Cond.code ({ cls := "RaceByLaps", name := "row", desc := "(I)I" } : Jvm.MethodName) prog_1_method_41_code (2 : Nat) (Option.some Jvm.ClassFile.FieldType.int)) ∈ lw_tbl := tw_tb6 (List.mem_of_getElem? (i := 140) rfl)
theorem kw_1341 : (Jvm.Cond.methodLink "RaceByLapsLaw" (94 : Nat) ({ cls := "RaceByLapsModel", name := "thrown", desc := "()I" } : Jvm.MethodName)) ∈ lw_tbl := tw_tb6 (List.mem_of_getElem? (i := 141) rfl)
theorem kw_1342 : (Jvm.Cond.instanceMethod ({ cls := "RaceByLapsModel", name := "thrown", desc := "()I" } : Jvm.MethodName)) ∈ lw_tbl := tw_tb6 (List.mem_of_getElem? (i := 142) rfl)
theorem kw_1343 : (Jvm.Cond.selects "RaceByLapsModel" ({ cls := "RaceByLapsModel", name := "thrown", desc := "()I" } : Jvm.MethodName) ({ cls := "RaceByLapsModel", name := "thrown", desc := "()I" } : Jvm.MethodName)) ∈ lw_tbl := tw_tb6 (List.mem_of_getElem? (i := 143) rfl)
theorem kw_1344 : (Jvm.Cond.code ({ cls := "RaceByLapsModel", name := "thrown", desc := "()I" } : Jvm.MethodName) prog_14_method_1_code (1 : Nat) (Option.some Jvm.ClassFile.FieldType.int)) ∈ lw_tbl := tw_tb6 (List.mem_of_getElem? (i := 144) rfl)
theorem kw_1345 : (Jvm.Cond.methodLink "RaceByLapsLaw" (30 : Nat) ({ cls := "RaceByLapsModel", name := "track", desc := "(II)Z" } : Jvm.MethodName)) ∈ lw_tbl := tw_tb6 (List.mem_of_getElem? (i := 145) rfl)
theorem kw_1346 : (Jvm.Cond.instanceMethod ({ cls := "RaceByLapsModel", name := "track", desc := "(II)Z" } : Jvm.MethodName)) ∈ lw_tbl := tw_tb6 (List.mem_of_getElem? (i := 146) rfl)
theorem kw_1347 : (Jvm.Cond.selects "RaceByLapsModel" ({ cls := "RaceByLapsModel", name := "track", desc := "(II)Z" } : Jvm.MethodName) ({ cls := "RaceByLapsModel", name := "track", desc := "(II)Z" } : Jvm.MethodName)) ∈ lw_tbl := tw_tb6 (List.mem_of_getElem? (i := 147) rfl)
theorem kw_1348 : (Jvm.Cond.code ({ cls := "RaceByLapsModel", name := "track", desc := "(II)Z" } : Jvm.MethodName) prog_14_method_8_code (3 : Nat) (Option.some Jvm.ClassFile.FieldType.boolean)) ∈ lw_tbl := tw_tb6 (List.mem_of_getElem? (i := 148) rfl)
theorem kw_1349 : (Jvm.Cond.constantLong "RaceByLapsModel" (46 : Nat) (2 : Int64)) ∈ lw_tbl := tw_tb6 (List.mem_of_getElem? (i := 149) rfl)
theorem kw_1350 : (Jvm.Cond.constantLong "RaceByLapsModel" (48 : Nat) (5 : Int64)) ∈ lw_tbl := tw_tb6 (List.mem_of_getElem? (i := 150) rfl)
theorem kw_1351 : (Jvm.Cond.methodLink "RaceByLapsModel" (42 : Nat) ({ cls := "RaceByLapsModel", name := "in", desc := "(JJJ)Z" } : Jvm.MethodName)) ∈ lw_tbl := tw_tb6 (List.mem_of_getElem? (i := 151) rfl)
theorem kw_1352 : (Jvm.Cond.static ({ cls := "RaceByLapsModel", name := "in", desc := "(JJJ)Z" } : Jvm.MethodName)) ∈ lw_tbl := tw_tb6 (List.mem_of_getElem? (i := 152) rfl)
theorem kw_1353 : (Jvm.Cond.code ({ cls := "RaceByLapsModel", name := "in", desc := "(JJJ)Z" } : Jvm.MethodName) prog_14_method_2_code (6 : Nat) (Option.some Jvm.ClassFile.FieldType.boolean)) ∈ lw_tbl := tw_tb6 (List.mem_of_getElem? (i := 153) rfl)
theorem kw_1354 : (Jvm.Cond.constantLong "RaceByLapsModel" (50 : Nat) (12 : Int64)) ∈ lw_tbl := tw_tb6 (List.mem_of_getElem? (i := 154) rfl)
theorem kw_1355 : (Jvm.Cond.methodLink "RaceByLapsModel" (52 : Nat) ({ cls := "RaceByLapsModel", name := "lays", desc := "(II)V" } : Jvm.MethodName)) ∈ lw_tbl := tw_tb6 (List.mem_of_getElem? (i := 155) rfl)
theorem kw_1356 : (Jvm.Cond.privateMethod ({ cls := "RaceByLapsModel", name := "lays", desc := "(II)V" } : Jvm.MethodName)) ∈ lw_tbl := tw_tb6 (List.mem_of_getElem? (i := 156) rfl)
theorem kw_1357 : (Jvm.Cond.instanceMethod ({ cls := "RaceByLapsModel", name := "lays", desc := "(II)V" } : Jvm.MethodName)) ∈ lw_tbl := tw_tb6 (List.mem_of_getElem? (i := 157) rfl)
theorem kw_1358 : (Jvm.Cond.instantiable "RaceByLapsModel" (97 : Nat)) ∈ lw_tbl := tw_tb6 (List.mem_of_getElem? (i := 158) rfl)
theorem kw_1359 : (Jvm.Cond.code ({ cls := "RaceByLapsModel", name := "lays", desc := "(II)V" } : Jvm.MethodName) prog_14_method_5_code (4 : Nat) (Option.none : Option Jvm.ClassFile.FieldType)) ∈ lw_tbl := tw_tb6 (List.mem_of_getElem? (i := 159) rfl)
theorem kw_1360 : (Jvm.Cond.methodLink "RaceByLapsLaw" (35 : Nat) ({ cls := "RaceByLapsModel", name := "sector", desc := "(III)Z" } : Jvm.MethodName)) ∈ lw_tbl := tw_tb6 (List.mem_of_getElem? (i := 160) rfl)
theorem kw_1361 : (Jvm.Cond.instanceMethod ({ cls := "RaceByLapsModel", name := "sector", desc := "(III)Z" } : Jvm.MethodName)) ∈ lw_tbl := tw_tb6 (List.mem_of_getElem? (i := 161) rfl)
theorem kw_1362 : (Jvm.Cond.selects "RaceByLapsModel" ({ cls := "RaceByLapsModel", name := "sector", desc := "(III)Z" } : Jvm.MethodName) ({ cls := "RaceByLapsModel", name := "sector", desc := "(III)Z" } : Jvm.MethodName)) ∈ lw_tbl := tw_tb6 (List.mem_of_getElem? (i := 162) rfl)
theorem kw_1363 : (Jvm.Cond.code ({ cls := "RaceByLapsModel", name := "sector", desc := "(III)Z" } : Jvm.MethodName) prog_14_method_9_code (4 : Nat) (Option.some Jvm.ClassFile.FieldType.boolean)) ∈ lw_tbl := tw_tb6 (List.mem_of_getElem? (i := 163) rfl)
theorem kw_1364 : (Jvm.Cond.methodLink "RaceByLapsModel" (56 : Nat) ({ cls := "RaceByLapsModel", name := "isSector", desc := "(I)Z" } : Jvm.MethodName)) ∈ lw_tbl := tw_tb6 (List.mem_of_getElem? (i := 164) rfl)
theorem kw_1365 : (Jvm.Cond.privateMethod ({ cls := "RaceByLapsModel", name := "isSector", desc := "(I)Z" } : Jvm.MethodName)) ∈ lw_tbl := tw_tb6 (List.mem_of_getElem? (i := 165) rfl)
theorem kw_1366 : (Jvm.Cond.instanceMethod ({ cls := "RaceByLapsModel", name := "isSector", desc := "(I)Z" } : Jvm.MethodName)) ∈ lw_tbl := tw_tb6 (List.mem_of_getElem? (i := 166) rfl)
theorem kw_1367 : (Jvm.Cond.code ({ cls := "RaceByLapsModel", name := "isSector", desc := "(I)Z" } : Jvm.MethodName) prog_14_method_6_code (2 : Nat) (Option.some Jvm.ClassFile.FieldType.boolean)) ∈ lw_tbl := tw_tb6 (List.mem_of_getElem? (i := 167) rfl)
theorem kw_1368 : (Jvm.Cond.constantLong "RaceByLapsModel" (60 : Nat) (5000 : Int64)) ∈ lw_tbl := tw_tb6 (List.mem_of_getElem? (i := 168) rfl)
theorem kw_1369 : (Jvm.Cond.constantLong "RaceByLapsModel" (62 : Nat) (60000 : Int64)) ∈ lw_tbl := tw_tb6 (List.mem_of_getElem? (i := 169) rfl)
theorem kw_1370 : (Jvm.Cond.constantLong "RaceByLapsModel" (64 : Nat) (-1 : Int64)) ∈ lw_tbl := tw_tb6 (List.mem_of_getElem? (i := 170) rfl)
theorem kw_1371 : (Jvm.Cond.methodLink "RaceByLapsLaw" (40 : Nat) ({ cls := "RaceByLapsModel", name := "tyres", desc := "(III)I" } : Jvm.MethodName)) ∈ lw_tbl := tw_tb6 (List.mem_of_getElem? (i := 171) rfl)
theorem kw_1372 : (Jvm.Cond.instanceMethod ({ cls := "RaceByLapsModel", name := "tyres", desc := "(III)I" } : Jvm.MethodName)) ∈ lw_tbl := tw_tb6 (List.mem_of_getElem? (i := 172) rfl)
theorem kw_1373 : (Jvm.Cond.selects "RaceByLapsModel" ({ cls := "RaceByLapsModel", name := "tyres", desc := "(III)I" } : Jvm.MethodName) ({ cls := "RaceByLapsModel", name := "tyres", desc := "(III)I" } : Jvm.MethodName)) ∈ lw_tbl := tw_tb6 (List.mem_of_getElem? (i := 173) rfl)
theorem kw_1374 : (Jvm.Cond.code ({ cls := "RaceByLapsModel", name := "tyres", desc := "(III)I" } : Jvm.MethodName) prog_14_method_11_code (5 : Nat) (Option.some Jvm.ClassFile.FieldType.int)) ∈ lw_tbl := tw_tb6 (List.mem_of_getElem? (i := 174) rfl)
theorem kw_1375 : (Jvm.Cond.constantLong "RaceByLapsModel" (66 : Nat) (3 : Int64)) ∈ lw_tbl := tw_tb6 (List.mem_of_getElem? (i := 175) rfl)
theorem kw_1376 : (Jvm.Cond.methodLink "RaceByLapsModel" (68 : Nat) ({ cls := "RaceByLapsModel", name := "mostOfTyres", desc := "(I)I" } : Jvm.MethodName)) ∈ lw_tbl := tw_tb6 (List.mem_of_getElem? (i := 176) rfl)
theorem kw_1377 : (Jvm.Cond.static ({ cls := "RaceByLapsModel", name := "mostOfTyres", desc := "(I)I" } : Jvm.MethodName)) ∈ lw_tbl := tw_tb6 (List.mem_of_getElem? (i := 177) rfl)
theorem kw_1378 : (Jvm.Cond.code ({ cls := "RaceByLapsModel", name := "mostOfTyres", desc := "(I)I" } : Jvm.MethodName) prog_14_method_10_code (1 : Nat) (Option.some Jvm.ClassFile.FieldType.int)) ∈ lw_tbl := tw_tb6 (List.mem_of_getElem? (i := 178) rfl)
theorem kw_1379 : (Jvm.Cond.methodLink "RaceByLapsLaw" (44 : Nat) ({ cls := "RaceByLapsModel", name := "set", desc := "(II)I" } : Jvm.MethodName)) ∈ lw_tbl := tw_tb6 (List.mem_of_getElem? (i := 179) rfl)
theorem kw_1380 : (Jvm.Cond.instanceMethod ({ cls := "RaceByLapsModel", name := "set", desc := "(II)I" } : Jvm.MethodName)) ∈ lw_tbl := tw_tb6 (List.mem_of_getElem? (i := 180) rfl)
theorem kw_1381 : (Jvm.Cond.selects "RaceByLapsModel" ({ cls := "RaceByLapsModel", name := "set", desc := "(II)I" } : Jvm.MethodName) ({ cls := "RaceByLapsModel", name := "set", desc := "(II)I" } : Jvm.MethodName)) ∈ lw_tbl := tw_tb6 (List.mem_of_getElem? (i := 181) rfl)
theorem kw_1382 : (Jvm.Cond.code ({ cls := "RaceByLapsModel", name := "set", desc := "(II)I" } : Jvm.MethodName) prog_14_method_13_code (4 : Nat) (Option.some Jvm.ClassFile.FieldType.int)) ∈ lw_tbl := tw_tb6 (List.mem_of_getElem? (i := 182) rfl)
theorem kw_1383 : (Jvm.Cond.constantLong "RaceByLapsModel" (76 : Nat) (7 : Int64)) ∈ lw_tbl := tw_tb6 (List.mem_of_getElem? (i := 183) rfl)
theorem kw_1384 : (Jvm.Cond.constantLong "RaceByLapsModel" (78 : Nat) (100 : Int64)) ∈ lw_tbl := tw_tb6 (List.mem_of_getElem? (i := 184) rfl)
theorem kw_1385 : (Jvm.Cond.methodLink "RaceByLapsModel" (80 : Nat) ({ cls := "RaceByLapsModel", name := "mostOf", desc := "(I)I" } : Jvm.MethodName)) ∈ lw_tbl := tw_tb6 (List.mem_of_getElem? (i := 185) rfl)
theorem kw_1386 : (Jvm.Cond.static ({ cls := "RaceByLapsModel", name := "mostOf", desc := "(I)I" } : Jvm.MethodName)) ∈ lw_tbl := tw_tb6 (List.mem_of_getElem? (i := 186) rfl)
theorem kw_1387 : (Jvm.Cond.code ({ cls := "RaceByLapsModel", name := "mostOf", desc := "(I)I" } : Jvm.MethodName) prog_14_method_12_code (1 : Nat) (Option.some Jvm.ClassFile.FieldType.int)) ∈ lw_tbl := tw_tb6 (List.mem_of_getElem? (i := 187) rfl)
theorem kw_1388 : (Jvm.Cond.constant "RaceByLapsModel" (75 : Nat) (60000 : Int32)) ∈ lw_tbl := tw_tb6 (List.mem_of_getElem? (i := 188) rfl)
theorem kw_1389 : (Jvm.Cond.methodLink "RaceByLapsLaw" (48 : Nat) ({ cls := "RaceByLapsModel", name := "rain", desc := "(III)I" } : Jvm.MethodName)) ∈ lw_tbl := tw_tb6 (List.mem_of_getElem? (i := 189) rfl)
theorem kw_1390 : (Jvm.Cond.instanceMethod ({ cls := "RaceByLapsModel", name := "rain", desc := "(III)I" } : Jvm.MethodName)) ∈ lw_tbl := tw_tb6 (List.mem_of_getElem? (i := 190) rfl)
theorem kw_1391 : (Jvm.Cond.selects "RaceByLapsModel" ({ cls := "RaceByLapsModel", name := "rain", desc := "(III)I" } : Jvm.MethodName) ({ cls := "RaceByLapsModel", name := "rain", desc := "(III)I" } : Jvm.MethodName)) ∈ lw_tbl := tw_tb6 (List.mem_of_getElem? (i := 191) rfl)
theorem kw_1392 : (Jvm.Cond.code ({ cls := "RaceByLapsModel", name := "rain", desc := "(III)I" } : Jvm.MethodName) prog_14_method_14_code (4 : Nat) (Option.some Jvm.ClassFile.FieldType.int)) ∈ lw_tbl := tw_tb6 (List.mem_of_getElem? (i := 192) rfl)
theorem kw_1393 : (Jvm.Cond.methodLink "RaceByLapsLaw" (53 : Nat) ({ cls := "RaceByLapsModel", name := "flag", desc := "(IIII)I" } : Jvm.MethodName)) ∈ lw_tbl := tw_tb6 (List.mem_of_getElem? (i := 193) rfl)
theorem kw_1394 : (Jvm.Cond.instanceMethod ({ cls := "RaceByLapsModel", name := "flag", desc := "(IIII)I" } : Jvm.MethodName)) ∈ lw_tbl := tw_tb6 (List.mem_of_getElem? (i := 194) rfl)
theorem kw_1395 : (Jvm.Cond.selects "RaceByLapsModel" ({ cls := "RaceByLapsModel", name := "flag", desc := "(IIII)I" } : Jvm.MethodName) ({ cls := "RaceByLapsModel", name := "flag", desc := "(IIII)I" } : Jvm.MethodName)) ∈ lw_tbl := tw_tb6 (List.mem_of_getElem? (i := 195) rfl)
theorem kw_1396 : (Jvm.Cond.code ({ cls := "RaceByLapsModel", name := "flag", desc := "(IIII)I" } : Jvm.MethodName) prog_14_method_15_code (5 : Nat) (Option.some Jvm.ClassFile.FieldType.int)) ∈ lw_tbl := tw_tb6 (List.mem_of_getElem? (i := 196) rfl)
theorem kw_1397 : (Jvm.Cond.methodLink "RaceByLapsLaw" (58 : Nat) ({ cls := "RaceByLapsModel", name := "car", desc := "(IIIIII)I" } : Jvm.MethodName)) ∈ lw_tbl := tw_tb6 (List.mem_of_getElem? (i := 197) rfl)
theorem kw_1398 : (Jvm.Cond.instanceMethod ({ cls := "RaceByLapsModel", name := "car", desc := "(IIIIII)I" } : Jvm.MethodName)) ∈ lw_tbl := tw_tb6 (List.mem_of_getElem? (i := 198) rfl)
theorem kw_1399 : (Jvm.Cond.selects "RaceByLapsModel" ({ cls := "RaceByLapsModel", name := "car", desc := "(IIIIII)I" } : Jvm.MethodName) ({ cls := "RaceByLapsModel", name := "car", desc := "(IIIIII)I" } : Jvm.MethodName)) ∈ lw_tbl := tw_tb6 (List.mem_of_getElem? (i := 199) rfl)
theorem kw_1400 : (Jvm.Cond.code ({ cls := "RaceByLapsModel", name := "car", desc := "(IIIIII)I" } : Jvm.MethodName) prog_14_method_21_code (8 : Nat) (Option.some Jvm.ClassFile.FieldType.int)) ∈ lw_tbl := tw_tb6 (List.mem_of_getElem? (i := 200) rfl)
theorem kw_1401 : (Jvm.Cond.constantLong "RaceByLapsModel" (107 : Nat) (-2000 : Int64)) ∈ lw_tbl := tw_tb6 (List.mem_of_getElem? (i := 201) rfl)
theorem kw_1402 : (Jvm.Cond.constantLong "RaceByLapsModel" (109 : Nat) (2000 : Int64)) ∈ lw_tbl := tw_tb6 (List.mem_of_getElem? (i := 202) rfl)
theorem kw_1403 : (Jvm.Cond.constantLong "RaceByLapsModel" (111 : Nat) (200 : Int64)) ∈ lw_tbl := tw_tb6 (List.mem_of_getElem? (i := 203) rfl)
theorem kw_1404 : (Jvm.Cond.constantLong "RaceByLapsModel" (113 : Nat) (9 : Int64)) ∈ lw_tbl := tw_tb6 (List.mem_of_getElem? (i := 204) rfl)
theorem kw_1405 : (Jvm.Cond.methodLink "RaceByLapsLaw" (62 : Nat) ({ cls := "RaceByLapsModel", name := "tyre", desc := "(III)I" } : Jvm.MethodName)) ∈ lw_tbl := tw_tb6 (List.mem_of_getElem? (i := 205) rfl)
theorem kw_1406 : (Jvm.Cond.instanceMethod ({ cls := "RaceByLapsModel", name := "tyre", desc := "(III)I" } : Jvm.MethodName)) ∈ lw_tbl := tw_tb6 (List.mem_of_getElem? (i := 206) rfl)
theorem kw_1407 : (Jvm.Cond.selects "RaceByLapsModel" ({ cls := "RaceByLapsModel", name := "tyre", desc := "(III)I" } : Jvm.MethodName) ({ cls := "RaceByLapsModel", name := "tyre", desc := "(III)I" } : Jvm.MethodName)) ∈ lw_tbl := tw_tb6 (List.mem_of_getElem? (i := 207) rfl)
theorem kw_1408 : (Jvm.Cond.code ({ cls := "RaceByLapsModel", name := "tyre", desc := "(III)I" } : Jvm.MethodName) prog_14_method_22_code (4 : Nat) (Option.some Jvm.ClassFile.FieldType.int)) ∈ lw_tbl := tw_tb6 (List.mem_of_getElem? (i := 208) rfl)
theorem kw_1409 : (Jvm.Cond.methodLink "RaceByLapsModel" (145 : Nat) ({ cls := "RaceByLapsModel", name := "isCar", desc := "(I)Z" } : Jvm.MethodName)) ∈ lw_tbl := tw_tb6 (List.mem_of_getElem? (i := 209) rfl)
theorem kw_1410 : (Jvm.Cond.privateMethod ({ cls := "RaceByLapsModel", name := "isCar", desc := "(I)Z" } : Jvm.MethodName)) ∈ lw_tbl := tw_tb6 (List.mem_of_getElem? (i := 210) rfl)
theorem kw_1411 : (Jvm.Cond.instanceMethod ({ cls := "RaceByLapsModel", name := "isCar", desc := "(I)Z" } : Jvm.MethodName)) ∈ lw_tbl := tw_tb6 (List.mem_of_getElem? (i := 211) rfl)
theorem kw_1412 : (Jvm.Cond.code ({ cls := "RaceByLapsModel", name := "isCar", desc := "(I)Z" } : Jvm.MethodName) prog_14_method_19_code (2 : Nat) (Option.some Jvm.ClassFile.FieldType.boolean)) ∈ lw_tbl := tw_tb6 (List.mem_of_getElem? (i := 212) rfl)
theorem kw_1413 : (Jvm.Cond.methodLink "RaceByLapsLaw" (66 : Nat) ({ cls := "RaceByLapsModel", name := "order", desc := "(IIII)I" } : Jvm.MethodName)) ∈ lw_tbl := tw_tb6 (List.mem_of_getElem? (i := 213) rfl)
theorem kw_1414 : (Jvm.Cond.instanceMethod ({ cls := "RaceByLapsModel", name := "order", desc := "(IIII)I" } : Jvm.MethodName)) ∈ lw_tbl := tw_tb6 (List.mem_of_getElem? (i := 214) rfl)
theorem kw_1415 : (Jvm.Cond.selects "RaceByLapsModel" ({ cls := "RaceByLapsModel", name := "order", desc := "(IIII)I" } : Jvm.MethodName) ({ cls := "RaceByLapsModel", name := "order", desc := "(IIII)I" } : Jvm.MethodName)) ∈ lw_tbl := tw_tb6 (List.mem_of_getElem? (i := 215) rfl)
theorem kw_1416 : (Jvm.Cond.code ({ cls := "RaceByLapsModel", name := "order", desc := "(IIII)I" } : Jvm.MethodName) prog_14_method_23_code (6 : Nat) (Option.some Jvm.ClassFile.FieldType.int)) ∈ lw_tbl := tw_tb6 (List.mem_of_getElem? (i := 216) rfl)
theorem kw_1417 : (Jvm.Cond.methodLink "RaceByLapsModel" (154 : Nat) ({ cls := "RaceByLapsModel", name := "isLap", desc := "(I)Z" } : Jvm.MethodName)) ∈ lw_tbl := tw_tb6 (List.mem_of_getElem? (i := 217) rfl)
theorem kw_1418 : (Jvm.Cond.privateMethod ({ cls := "RaceByLapsModel", name := "isLap", desc := "(I)Z" } : Jvm.MethodName)) ∈ lw_tbl := tw_tb6 (List.mem_of_getElem? (i := 218) rfl)
theorem kw_1419 : (Jvm.Cond.instanceMethod ({ cls := "RaceByLapsModel", name := "isLap", desc := "(I)Z" } : Jvm.MethodName)) ∈ lw_tbl := tw_tb6 (List.mem_of_getElem? (i := 219) rfl)
theorem kw_1420 : (Jvm.Cond.code ({ cls := "RaceByLapsModel", name := "isLap", desc := "(I)Z" } : Jvm.MethodName) prog_14_method_7_code (2 : Nat) (Option.some Jvm.ClassFile.FieldType.boolean)) ∈ lw_tbl := tw_tb6 (List.mem_of_getElem? (i := 220) rfl)
theorem kw_1421 : (Jvm.Cond.methodLink "RaceByLapsLaw" (70 : Nat) ({ cls := "RaceByLapsModel", name := "stop", desc := "(IIII)I" } : Jvm.MethodName)) ∈ lw_tbl := tw_tb6 (List.mem_of_getElem? (i := 221) rfl)
theorem kw_1422 : (Jvm.Cond.instanceMethod ({ cls := "RaceByLapsModel", name := "stop", desc := "(IIII)I" } : Jvm.MethodName)) ∈ lw_tbl := tw_tb6 (List.mem_of_getElem? (i := 222) rfl)
theorem kw_1423 : (Jvm.Cond.selects "RaceByLapsModel" ({ cls := "RaceByLapsModel", name := "stop", desc := "(IIII)I" } : Jvm.MethodName) ({ cls := "RaceByLapsModel", name := "stop", desc := "(IIII)I" } : Jvm.MethodName)) ∈ lw_tbl := tw_tb6 (List.mem_of_getElem? (i := 223) rfl)
theorem kw_1424 : (Jvm.Cond.code ({ cls := "RaceByLapsModel", name := "stop", desc := "(IIII)I" } : Jvm.MethodName) prog_14_method_25_code (5 : Nat) (Option.some Jvm.ClassFile.FieldType.int)) ∈ lw_tbl := tw_tb6 (List.mem_of_getElem? (i := 224) rfl)
theorem kw_1425 : (Jvm.Cond.methodLink "RaceByLapsModel" (166 : Nat) ({ cls := "RaceByLapsModel", name := "isStopLap", desc := "(I)Z" } : Jvm.MethodName)) ∈ lw_tbl := tw_tb6 (List.mem_of_getElem? (i := 225) rfl)
theorem kw_1426 : (Jvm.Cond.privateMethod ({ cls := "RaceByLapsModel", name := "isStopLap", desc := "(I)Z" } : Jvm.MethodName)) ∈ lw_tbl := tw_tb6 (List.mem_of_getElem? (i := 226) rfl)
theorem kw_1427 : (Jvm.Cond.instanceMethod ({ cls := "RaceByLapsModel", name := "isStopLap", desc := "(I)Z" } : Jvm.MethodName)) ∈ lw_tbl := tw_tb6 (List.mem_of_getElem? (i := 227) rfl)
theorem kw_1428 : (Jvm.Cond.code ({ cls := "RaceByLapsModel", name := "isStopLap", desc := "(I)Z" } : Jvm.MethodName) prog_14_method_20_code (2 : Nat) (Option.some Jvm.ClassFile.FieldType.boolean)) ∈ lw_tbl := tw_tb6 (List.mem_of_getElem? (i := 228) rfl)
theorem kw_1429 : (Jvm.Cond.methodLink "RaceByLapsModel" (169 : Nat) ({ cls := "RaceByLapsModel", name := "isSet", desc := "(I)Z" } : Jvm.MethodName)) ∈ lw_tbl := tw_tb6 (List.mem_of_getElem? (i := 229) rfl)
theorem kw_1430 : (Jvm.Cond.static ({ cls := "RaceByLapsModel", name := "isSet", desc := "(I)Z" } : Jvm.MethodName)) ∈ lw_tbl := tw_tb6 (List.mem_of_getElem? (i := 230) rfl)
theorem kw_1431 : (Jvm.Cond.code ({ cls := "RaceByLapsModel", name := "isSet", desc := "(I)Z" } : Jvm.MethodName) prog_14_method_24_code (1 : Nat) (Option.some Jvm.ClassFile.FieldType.boolean)) ∈ lw_tbl := tw_tb6 (List.mem_of_getElem? (i := 231) rfl)
theorem kw_1432 : (Jvm.Cond.methodLink "RaceByLapsModel" (172 : Nat) ({ cls := "RaceByLapsModel", name := "puts", desc := "(IIII)V" } : Jvm.MethodName)) ∈ lw_tbl := tw_tb6 (List.mem_of_getElem? (i := 232) rfl)
theorem kw_1433 : (Jvm.Cond.privateMethod ({ cls := "RaceByLapsModel", name := "puts", desc := "(IIII)V" } : Jvm.MethodName)) ∈ lw_tbl := tw_tb6 (List.mem_of_getElem? (i := 233) rfl)
theorem kw_1434 : (Jvm.Cond.instanceMethod ({ cls := "RaceByLapsModel", name := "puts", desc := "(IIII)V" } : Jvm.MethodName)) ∈ lw_tbl := tw_tb6 (List.mem_of_getElem? (i := 234) rfl)
theorem kw_1435 : (Jvm.Cond.code ({ cls := "RaceByLapsModel", name := "puts", desc := "(IIII)V" } : Jvm.MethodName) prog_14_method_26_code (6 : Nat) (Option.none : Option Jvm.ClassFile.FieldType)) ∈ lw_tbl := tw_tb6 (List.mem_of_getElem? (i := 235) rfl)
theorem kw_1436 : (Jvm.Cond.methodLink "RaceByLapsLaw" (74 : Nat) ({ cls := "RaceByLapsModel", name := "drop", desc := "(II)I" } : Jvm.MethodName)) ∈ lw_tbl := tw_tb6 (List.mem_of_getElem? (i := 236) rfl)
theorem kw_1437 : (Jvm.Cond.instanceMethod ({ cls := "RaceByLapsModel", name := "drop", desc := "(II)I" } : Jvm.MethodName)) ∈ lw_tbl := tw_tb6 (List.mem_of_getElem? (i := 237) rfl)
theorem kw_1438 : (Jvm.Cond.selects "RaceByLapsModel" ({ cls := "RaceByLapsModel", name := "drop", desc := "(II)I" } : Jvm.MethodName) ({ cls := "RaceByLapsModel", name := "drop", desc := "(II)I" } : Jvm.MethodName)) ∈ lw_tbl := tw_tb6 (List.mem_of_getElem? (i := 238) rfl)
theorem kw_1439 : (Jvm.Cond.code ({ cls := "RaceByLapsModel", name := "drop", desc := "(II)I" } : Jvm.MethodName) prog_14_method_27_code (4 : Nat) (Option.some Jvm.ClassFile.FieldType.int)) ∈ lw_tbl := tw_tb6 (List.mem_of_getElem? (i := 239) rfl)
theorem kw_1440 : (Jvm.Cond.methodLink "RaceByLapsLaw" (83 : Nat) ({ cls := "RaceByLapsModel", name := "unplan", desc := "(I)Z" } : Jvm.MethodName)) ∈ lw_tbl := tw_tb7 (List.mem_of_getElem? (i := 0) rfl)
theorem kw_1441 : (Jvm.Cond.instanceMethod ({ cls := "RaceByLapsModel", name := "unplan", desc := "(I)Z" } : Jvm.MethodName)) ∈ lw_tbl := tw_tb7 (List.mem_of_getElem? (i := 1) rfl)
theorem kw_1442 : (Jvm.Cond.selects "RaceByLapsModel" ({ cls := "RaceByLapsModel", name := "unplan", desc := "(I)Z" } : Jvm.MethodName) ({ cls := "RaceByLapsModel", name := "unplan", desc := "(I)Z" } : Jvm.MethodName)) ∈ lw_tbl := tw_tb7 (List.mem_of_getElem? (i := 2) rfl)
theorem kw_1443 : (Jvm.Cond.code ({ cls := "RaceByLapsModel", name := "unplan", desc := "(I)Z" } : Jvm.MethodName) prog_14_method_28_code (3 : Nat) (Option.some Jvm.ClassFile.FieldType.boolean)) ∈ lw_tbl := tw_tb7 (List.mem_of_getElem? (i := 3) rfl)
theorem kw_1444 : (Jvm.Cond.methodLink "RaceByLapsLaw" (87 : Nat) ({ cls := "RaceByLapsModel", name := "count", desc := "(I)I" } : Jvm.MethodName)) ∈ lw_tbl := tw_tb7 (List.mem_of_getElem? (i := 4) rfl)
theorem kw_1445 : (Jvm.Cond.instanceMethod ({ cls := "RaceByLapsModel", name := "count", desc := "(I)I" } : Jvm.MethodName)) ∈ lw_tbl := tw_tb7 (List.mem_of_getElem? (i := 5) rfl)
theorem kw_1446 : (Jvm.Cond.selects "RaceByLapsModel" ({ cls := "RaceByLapsModel", name := "count", desc := "(I)I" } : Jvm.MethodName) ({ cls := "RaceByLapsModel", name := "count", desc := "(I)I" } : Jvm.MethodName)) ∈ lw_tbl := tw_tb7 (List.mem_of_getElem? (i := 6) rfl)
theorem kw_1447 : (Jvm.Cond.code ({ cls := "RaceByLapsModel", name := "count", desc := "(I)I" } : Jvm.MethodName) prog_14_method_29_code (4 : Nat) (Option.some Jvm.ClassFile.FieldType.int)) ∈ lw_tbl := tw_tb7 (List.mem_of_getElem? (i := 7) rfl)
theorem kw_1448 : (Jvm.Cond.methodLink "RaceByLapsLaw" (117 : Nat) ({ cls := "RaceByLapsModel", name := "sign", desc := "(I)I" } : Jvm.MethodName)) ∈ lw_tbl := tw_tb7 (List.mem_of_getElem? (i := 8) rfl)
theorem kw_1449 : (Jvm.Cond.instanceMethod ({ cls := "RaceByLapsModel", name := "sign", desc := "(I)I" } : Jvm.MethodName)) ∈ lw_tbl := tw_tb7 (List.mem_of_getElem? (i := 9) rfl)
theorem kw_1450 : (Jvm.Cond.selects "RaceByLapsModel" ({ cls := "RaceByLapsModel", name := "sign", desc := "(I)I" } : Jvm.MethodName) ({ cls := "RaceByLapsModel", name := "sign", desc := "(I)I" } : Jvm.MethodName)) ∈ lw_tbl := tw_tb7 (List.mem_of_getElem? (i := 10) rfl)
theorem kw_1451 : (Jvm.Cond.code ({ cls := "RaceByLapsModel", name := "sign", desc := "(I)I" } : Jvm.MethodName) prog_14_method_30_code (3 : Nat) (Option.some Jvm.ClassFile.FieldType.int)) ∈ lw_tbl := tw_tb7 (List.mem_of_getElem? (i := 11) rfl)
theorem kw_1452 : (Jvm.Cond.methodLink "RaceByLapsLaw" (121 : Nat) ({ cls := "RaceByLapsModel", name := "end", desc := "(I)Z" } : Jvm.MethodName)) ∈ lw_tbl := tw_tb7 (List.mem_of_getElem? (i := 12) rfl)
theorem kw_1453 : (Jvm.Cond.instanceMethod ({ cls := "RaceByLapsModel", name := "end", desc := "(I)Z" } : Jvm.MethodName)) ∈ lw_tbl := tw_tb7 (List.mem_of_getElem? (i := 13) rfl)
theorem kw_1454 : (Jvm.Cond.selects "RaceByLapsModel" ({ cls := "RaceByLapsModel", name := "end", desc := "(I)Z" } : Jvm.MethodName) ({ cls := "RaceByLapsModel", name := "end", desc := "(I)Z" } : Jvm.MethodName)) ∈ lw_tbl := tw_tb7 (List.mem_of_getElem? (i := 14) rfl)
theorem kw_1455 : (Jvm.Cond.code ({ cls := "RaceByLapsModel", name := "end", desc := "(I)Z" } : Jvm.MethodName) prog_14_method_31_code (2 : Nat) (Option.some Jvm.ClassFile.FieldType.boolean)) ∈ lw_tbl := tw_tb7 (List.mem_of_getElem? (i := 15) rfl)
theorem kw_1456 : (Jvm.Cond.methodLink "RaceByLapsLaw" (78 : Nat) ({ cls := "RaceByLapsModel", name := "plan", desc := "(I)I" } : Jvm.MethodName)) ∈ lw_tbl := tw_tb7 (List.mem_of_getElem? (i := 16) rfl)
theorem kw_1457 : (Jvm.Cond.instanceMethod ({ cls := "RaceByLapsModel", name := "plan", desc := "(I)I" } : Jvm.MethodName)) ∈ lw_tbl := tw_tb7 (List.mem_of_getElem? (i := 17) rfl)
theorem kw_1458 : (Jvm.Cond.selects "RaceByLapsModel" ({ cls := "RaceByLapsModel", name := "plan", desc := "(I)I" } : Jvm.MethodName) ({ cls := "RaceByLapsModel", name := "plan", desc := "(I)I" } : Jvm.MethodName)) ∈ lw_tbl := tw_tb7 (List.mem_of_getElem? (i := 18) rfl)
theorem kw_1459 : (Jvm.Cond.code ({ cls := "RaceByLapsModel", name := "plan", desc := "(I)I" } : Jvm.MethodName) prog_14_method_48_code (5 : Nat) (Option.some Jvm.ClassFile.FieldType.int)) ∈ lw_tbl := tw_tb7 (List.mem_of_getElem? (i := 19) rfl)
theorem kw_1460 : (Jvm.Cond.methodLink "RaceByLapsModel" (288 : Nat) ({ cls := "RaceByLapsModel", name := "reads", desc := "(IZ)I" } : Jvm.MethodName)) ∈ lw_tbl := tw_tb7 (List.mem_of_getElem? (i := 20) rfl)
theorem kw_1461 : (Jvm.Cond.privateMethod ({ cls := "RaceByLapsModel", name := "reads", desc := "(IZ)I" } : Jvm.MethodName)) ∈ lw_tbl := tw_tb7 (List.mem_of_getElem? (i := 21) rfl)
theorem kw_1462 : (Jvm.Cond.instanceMethod ({ cls := "RaceByLapsModel", name := "reads", desc := "(IZ)I" } : Jvm.MethodName)) ∈ lw_tbl := tw_tb7 (List.mem_of_getElem? (i := 22) rfl)
theorem kw_1463 : (Jvm.Cond.code ({ cls := "RaceByLapsModel", name := "reads", desc := "(IZ)I" } : Jvm.MethodName) prog_14_method_47_code (6 : Nat) (Option.some Jvm.ClassFile.FieldType.int)) ∈ lw_tbl := tw_tb7 (List.mem_of_getElem? (i := 23) rfl)
theorem kw_1464 : (Jvm.Cond.methodLink "RaceByLapsModel" (272 : Nat) ({ cls := "java/lang/Math", name := "min", desc := "(II)I" } : Jvm.MethodName)) ∈ lw_tbl := tw_tb7 (List.mem_of_getElem? (i := 24) rfl)
theorem kw_1465 : (Jvm.Cond.stringRef "RaceByLapsModel" (278 : Nat) "lrpafnokwvyth") ∈ lw_tbl := tw_tb7 (List.mem_of_getElem? (i := 25) rfl)
theorem kw_1466 : (Jvm.Cond.stringRef "RaceByLapsModel" (280 : Nat) "skplwcoft") ∈ lw_tbl := tw_tb7 (List.mem_of_getElem? (i := 26) rfl)
theorem kw_1467 : (Jvm.Cond.methodLink "RaceByLapsModel" (282 : Nat) ({ cls := "RaceByLapsModel", name := "lines", desc := "(I)Z" } : Jvm.MethodName)) ∈ lw_tbl := tw_tb7 (List.mem_of_getElem? (i := 27) rfl)
theorem kw_1468 : (Jvm.Cond.privateMethod ({ cls := "RaceByLapsModel", name := "lines", desc := "(I)Z" } : Jvm.MethodName)) ∈ lw_tbl := tw_tb7 (List.mem_of_getElem? (i := 28) rfl)
theorem kw_1469 : (Jvm.Cond.instanceMethod ({ cls := "RaceByLapsModel", name := "lines", desc := "(I)Z" } : Jvm.MethodName)) ∈ lw_tbl := tw_tb7 (List.mem_of_getElem? (i := 29) rfl)
theorem kw_1470 : (Jvm.Cond.code ({ cls := "RaceByLapsModel", name := "lines", desc := "(I)Z" } : Jvm.MethodName) prog_14_method_45_code (3 : Nat) (Option.some Jvm.ClassFile.FieldType.boolean)) ∈ lw_tbl := tw_tb7 (List.mem_of_getElem? (i := 30) rfl)
theorem kw_1471 : (Jvm.Cond.methodLink "RaceByLapsModel" (266 : Nat) ({ cls := "RaceByLapsModel", name := "line", desc := "(I)Z" } : Jvm.MethodName)) ∈ lw_tbl := tw_tb7 (List.mem_of_getElem? (i := 31) rfl)
theorem kw_1472 : (Jvm.Cond.privateMethod ({ cls := "RaceByLapsModel", name := "line", desc := "(I)Z" } : Jvm.MethodName)) ∈ lw_tbl := tw_tb7 (List.mem_of_getElem? (i := 32) rfl)
theorem kw_1473 : (Jvm.Cond.instanceMethod ({ cls := "RaceByLapsModel", name := "line", desc := "(I)Z" } : Jvm.MethodName)) ∈ lw_tbl := tw_tb7 (List.mem_of_getElem? (i := 33) rfl)
theorem kw_1474 : (Jvm.Cond.code ({ cls := "RaceByLapsModel", name := "line", desc := "(I)Z" } : Jvm.MethodName) prog_14_method_44_code (4 : Nat) (Option.some Jvm.ClassFile.FieldType.boolean)) ∈ lw_tbl := tw_tb7 (List.mem_of_getElem? (i := 34) rfl)
theorem kw_1475 : (Jvm.Cond.methodLink "RaceByLapsModel" (225 : Nat) ({ cls := "RaceByLapsModel", name := "isSign", desc := "(IC)Z" } : Jvm.MethodName)) ∈ lw_tbl := tw_tb7 (List.mem_of_getElem? (i := 35) rfl)
theorem kw_1476 : (Jvm.Cond.privateMethod ({ cls := "RaceByLapsModel", name := "isSign", desc := "(IC)Z" } : Jvm.MethodName)) ∈ lw_tbl := tw_tb7 (List.mem_of_getElem? (i := 36) rfl)
theorem kw_1477 : (Jvm.Cond.instanceMethod ({ cls := "RaceByLapsModel", name := "isSign", desc := "(IC)Z" } : Jvm.MethodName)) ∈ lw_tbl := tw_tb7 (List.mem_of_getElem? (i := 37) rfl)
theorem kw_1478 : (Jvm.Cond.code ({ cls := "RaceByLapsModel", name := "isSign", desc := "(IC)Z" } : Jvm.MethodName) prog_14_method_32_code (3 : Nat) (Option.some Jvm.ClassFile.FieldType.boolean)) ∈ lw_tbl := tw_tb7 (List.mem_of_getElem? (i := 38) rfl)
theorem kw_1479 : (Jvm.Cond.methodLink "RaceByLapsModel" (217 : Nat) ({ cls := "RaceByLapsModel", name := "marks", desc := "(I)V" } : Jvm.MethodName)) ∈ lw_tbl := tw_tb7 (List.mem_of_getElem? (i := 39) rfl)
theorem kw_1480 : (Jvm.Cond.privateMethod ({ cls := "RaceByLapsModel", name := "marks", desc := "(I)V" } : Jvm.MethodName)) ∈ lw_tbl := tw_tb7 (List.mem_of_getElem? (i := 40) rfl)
theorem kw_1481 : (Jvm.Cond.instanceMethod ({ cls := "RaceByLapsModel", name := "marks", desc := "(I)V" } : Jvm.MethodName)) ∈ lw_tbl := tw_tb7 (List.mem_of_getElem? (i := 41) rfl)
theorem kw_1482 : (Jvm.Cond.code ({ cls := "RaceByLapsModel", name := "marks", desc := "(I)V" } : Jvm.MethodName) prog_14_method_34_code (2 : Nat) (Option.none : Option Jvm.ClassFile.FieldType)) ∈ lw_tbl := tw_tb7 (List.mem_of_getElem? (i := 42) rfl)
theorem kw_1483 : (Jvm.Cond.methodLink "RaceByLapsModel" (232 : Nat) ({ cls := "RaceByLapsModel", name := "some", desc := "(I)Z" } : Jvm.MethodName)) ∈ lw_tbl := tw_tb7 (List.mem_of_getElem? (i := 43) rfl)
theorem kw_1484 : (Jvm.Cond.privateMethod ({ cls := "RaceByLapsModel", name := "some", desc := "(I)Z" } : Jvm.MethodName)) ∈ lw_tbl := tw_tb7 (List.mem_of_getElem? (i := 44) rfl)
theorem kw_1485 : (Jvm.Cond.instanceMethod ({ cls := "RaceByLapsModel", name := "some", desc := "(I)Z" } : Jvm.MethodName)) ∈ lw_tbl := tw_tb7 (List.mem_of_getElem? (i := 45) rfl)
theorem kw_1486 : (Jvm.Cond.code ({ cls := "RaceByLapsModel", name := "some", desc := "(I)Z" } : Jvm.MethodName) prog_14_method_43_code (3 : Nat) (Option.some Jvm.ClassFile.FieldType.boolean)) ∈ lw_tbl := tw_tb7 (List.mem_of_getElem? (i := 46) rfl)
theorem kw_1487 : (Jvm.Cond.methodLink "RaceByLapsModel" (259 : Nat) ({ cls := "RaceByLapsModel", name := "every", desc := "(I)Z" } : Jvm.MethodName)) ∈ lw_tbl := tw_tb7 (List.mem_of_getElem? (i := 47) rfl)
theorem kw_1488 : (Jvm.Cond.privateMethod ({ cls := "RaceByLapsModel", name := "every", desc := "(I)Z" } : Jvm.MethodName)) ∈ lw_tbl := tw_tb7 (List.mem_of_getElem? (i := 48) rfl)
theorem kw_1489 : (Jvm.Cond.instanceMethod ({ cls := "RaceByLapsModel", name := "every", desc := "(I)Z" } : Jvm.MethodName)) ∈ lw_tbl := tw_tb7 (List.mem_of_getElem? (i := 49) rfl)
theorem kw_1490 : (Jvm.Cond.code ({ cls := "RaceByLapsModel", name := "every", desc := "(I)Z" } : Jvm.MethodName) prog_14_method_42_code (3 : Nat) (Option.some Jvm.ClassFile.FieldType.boolean)) ∈ lw_tbl := tw_tb7 (List.mem_of_getElem? (i := 50) rfl)
theorem kw_1491 : (Jvm.Cond.methodLink "RaceByLapsModel" (256 : Nat) ({ cls := "RaceByLapsModel", name := "compared", desc := "(I)Z" } : Jvm.MethodName)) ∈ lw_tbl := tw_tb7 (List.mem_of_getElem? (i := 51) rfl)
theorem kw_1492 : (Jvm.Cond.privateMethod ({ cls := "RaceByLapsModel", name := "compared", desc := "(I)Z" } : Jvm.MethodName)) ∈ lw_tbl := tw_tb7 (List.mem_of_getElem? (i := 52) rfl)
theorem kw_1493 : (Jvm.Cond.instanceMethod ({ cls := "RaceByLapsModel", name := "compared", desc := "(I)Z" } : Jvm.MethodName)) ∈ lw_tbl := tw_tb7 (List.mem_of_getElem? (i := 53) rfl)
theorem kw_1494 : (Jvm.Cond.code ({ cls := "RaceByLapsModel", name := "compared", desc := "(I)Z" } : Jvm.MethodName) prog_14_method_41_code (4 : Nat) (Option.some Jvm.ClassFile.FieldType.boolean)) ∈ lw_tbl := tw_tb7 (List.mem_of_getElem? (i := 54) rfl)
theorem kw_1495 : (Jvm.Cond.methodLink "RaceByLapsModel" (251 : Nat) ({ cls := "RaceByLapsModel", name := "total", desc := "(I)Z" } : Jvm.MethodName)) ∈ lw_tbl := tw_tb7 (List.mem_of_getElem? (i := 55) rfl)
theorem kw_1496 : (Jvm.Cond.privateMethod ({ cls := "RaceByLapsModel", name := "total", desc := "(I)Z" } : Jvm.MethodName)) ∈ lw_tbl := tw_tb7 (List.mem_of_getElem? (i := 56) rfl)
theorem kw_1497 : (Jvm.Cond.instanceMethod ({ cls := "RaceByLapsModel", name := "total", desc := "(I)Z" } : Jvm.MethodName)) ∈ lw_tbl := tw_tb7 (List.mem_of_getElem? (i := 57) rfl)
theorem kw_1498 : (Jvm.Cond.code ({ cls := "RaceByLapsModel", name := "total", desc := "(I)Z" } : Jvm.MethodName) prog_14_method_40_code (4 : Nat) (Option.some Jvm.ClassFile.FieldType.boolean)) ∈ lw_tbl := tw_tb7 (List.mem_of_getElem? (i := 58) rfl)
theorem kw_1499 : (Jvm.Cond.methodLink "RaceByLapsModel" (246 : Nat) ({ cls := "RaceByLapsModel", name := "product", desc := "(I)Z" } : Jvm.MethodName)) ∈ lw_tbl := tw_tb7 (List.mem_of_getElem? (i := 59) rfl)
theorem kw_1500 : (Jvm.Cond.privateMethod ({ cls := "RaceByLapsModel", name := "product", desc := "(I)Z" } : Jvm.MethodName)) ∈ lw_tbl := tw_tb7 (List.mem_of_getElem? (i := 60) rfl)
theorem kw_1501 : (Jvm.Cond.instanceMethod ({ cls := "RaceByLapsModel", name := "product", desc := "(I)Z" } : Jvm.MethodName)) ∈ lw_tbl := tw_tb7 (List.mem_of_getElem? (i := 61) rfl)
theorem kw_1502 : (Jvm.Cond.code ({ cls := "RaceByLapsModel", name := "product", desc := "(I)Z" } : Jvm.MethodName) prog_14_method_39_code (3 : Nat) (Option.some Jvm.ClassFile.FieldType.boolean)) ∈ lw_tbl := tw_tb7 (List.mem_of_getElem? (i := 62) rfl)
theorem kw_1503 : (Jvm.Cond.methodLink "RaceByLapsModel" (240 : Nat) ({ cls := "RaceByLapsModel", name := "unary", desc := "(I)Z" } : Jvm.MethodName)) ∈ lw_tbl := tw_tb7 (List.mem_of_getElem? (i := 63) rfl)
theorem kw_1504 : (Jvm.Cond.privateMethod ({ cls := "RaceByLapsModel", name := "unary", desc := "(I)Z" } : Jvm.MethodName)) ∈ lw_tbl := tw_tb7 (List.mem_of_getElem? (i := 64) rfl)
theorem kw_1505 : (Jvm.Cond.instanceMethod ({ cls := "RaceByLapsModel", name := "unary", desc := "(I)Z" } : Jvm.MethodName)) ∈ lw_tbl := tw_tb7 (List.mem_of_getElem? (i := 65) rfl)
theorem kw_1506 : (Jvm.Cond.code ({ cls := "RaceByLapsModel", name := "unary", desc := "(I)Z" } : Jvm.MethodName) prog_14_method_38_code (3 : Nat) (Option.some Jvm.ClassFile.FieldType.boolean)) ∈ lw_tbl := tw_tb7 (List.mem_of_getElem? (i := 66) rfl)
theorem kw_1507 : (Jvm.Cond.stringRef "RaceByLapsModel" (235 : Nat) "!-") ∈ lw_tbl := tw_tb7 (List.mem_of_getElem? (i := 67) rfl)
theorem kw_1508 : (Jvm.Cond.methodLink "RaceByLapsModel" (213 : Nat) ({ cls := "RaceByLapsModel", name := "isOf", desc := "(ILjava/lang/String;)Z" } : Jvm.MethodName)) ∈ lw_tbl := tw_tb7 (List.mem_of_getElem? (i := 68) rfl)
theorem kw_1509 : (Jvm.Cond.privateMethod ({ cls := "RaceByLapsModel", name := "isOf", desc := "(ILjava/lang/String;)Z" } : Jvm.MethodName)) ∈ lw_tbl := tw_tb7 (List.mem_of_getElem? (i := 69) rfl)
theorem kw_1510 : (Jvm.Cond.instanceMethod ({ cls := "RaceByLapsModel", name := "isOf", desc := "(ILjava/lang/String;)Z" } : Jvm.MethodName)) ∈ lw_tbl := tw_tb7 (List.mem_of_getElem? (i := 70) rfl)
theorem kw_1511 : (Jvm.Cond.code ({ cls := "RaceByLapsModel", name := "isOf", desc := "(ILjava/lang/String;)Z" } : Jvm.MethodName) prog_14_method_33_code (3 : Nat) (Option.some Jvm.ClassFile.FieldType.boolean)) ∈ lw_tbl := tw_tb7 (List.mem_of_getElem? (i := 71) rfl)
theorem kw_1512 : (Jvm.Cond.methodLink "RaceByLapsModel" (197 : Nat) ({ cls := "java/lang/String", name := "indexOf", desc := "(I)I" } : Jvm.MethodName)) ∈ lw_tbl := tw_tb7 (List.mem_of_getElem? (i := 72) rfl)
theorem kw_1513 : (Jvm.Cond.methodLink "RaceByLapsModel" (237 : Nat) ({ cls := "RaceByLapsModel", name := "thing", desc := "(I)Z" } : Jvm.MethodName)) ∈ lw_tbl := tw_tb7 (List.mem_of_getElem? (i := 73) rfl)
theorem kw_1514 : (Jvm.Cond.privateMethod ({ cls := "RaceByLapsModel", name := "thing", desc := "(I)Z" } : Jvm.MethodName)) ∈ lw_tbl := tw_tb7 (List.mem_of_getElem? (i := 74) rfl)
theorem kw_1515 : (Jvm.Cond.instanceMethod ({ cls := "RaceByLapsModel", name := "thing", desc := "(I)Z" } : Jvm.MethodName)) ∈ lw_tbl := tw_tb7 (List.mem_of_getElem? (i := 75) rfl)
theorem kw_1516 : (Jvm.Cond.code ({ cls := "RaceByLapsModel", name := "thing", desc := "(I)Z" } : Jvm.MethodName) prog_14_method_37_code (2 : Nat) (Option.some Jvm.ClassFile.FieldType.boolean)) ∈ lw_tbl := tw_tb7 (List.mem_of_getElem? (i := 76) rfl)
theorem kw_1517 : (Jvm.Cond.stringRef "RaceByLapsModel" (211 : Nat) "0123456789") ∈ lw_tbl := tw_tb7 (List.mem_of_getElem? (i := 77) rfl)
theorem kw_1518 : (Jvm.Cond.methodLink "RaceByLapsModel" (229 : Nat) ({ cls := "RaceByLapsModel", name := "numeral", desc := "(I)Z" } : Jvm.MethodName)) ∈ lw_tbl := tw_tb7 (List.mem_of_getElem? (i := 78) rfl)
theorem kw_1519 : (Jvm.Cond.privateMethod ({ cls := "RaceByLapsModel", name := "numeral", desc := "(I)Z" } : Jvm.MethodName)) ∈ lw_tbl := tw_tb7 (List.mem_of_getElem? (i := 79) rfl)
theorem kw_1520 : (Jvm.Cond.instanceMethod ({ cls := "RaceByLapsModel", name := "numeral", desc := "(I)Z" } : Jvm.MethodName)) ∈ lw_tbl := tw_tb7 (List.mem_of_getElem? (i := 80) rfl)
theorem kw_1521 : (Jvm.Cond.code ({ cls := "RaceByLapsModel", name := "numeral", desc := "(I)Z" } : Jvm.MethodName) prog_14_method_36_code (4 : Nat) (Option.some Jvm.ClassFile.FieldType.boolean)) ∈ lw_tbl := tw_tb7 (List.mem_of_getElem? (i := 81) rfl)
theorem kw_1522 : (Jvm.Cond.methodLink "RaceByLapsModel" (243 : Nat) ({ cls := "RaceByLapsModel", name := "act", desc := "(I)I" } : Jvm.MethodName)) ∈ lw_tbl := tw_tb7 (List.mem_of_getElem? (i := 82) rfl)
theorem kw_1523 : (Jvm.Cond.static ({ cls := "RaceByLapsModel", name := "act", desc := "(I)I" } : Jvm.MethodName)) ∈ lw_tbl := tw_tb7 (List.mem_of_getElem? (i := 83) rfl)
theorem kw_1524 : (Jvm.Cond.code ({ cls := "RaceByLapsModel", name := "act", desc := "(I)I" } : Jvm.MethodName) prog_14_method_35_code (1 : Nat) (Option.some Jvm.ClassFile.FieldType.int)) ∈ lw_tbl := tw_tb7 (List.mem_of_getElem? (i := 84) rfl)
theorem kw_1525 : (Jvm.Cond.stringRef "RaceByLapsModel" (249 : Nat) "+-") ∈ lw_tbl := tw_tb7 (List.mem_of_getElem? (i := 85) rfl)
theorem kw_1526 : (Jvm.Cond.stringRef "RaceByLapsModel" (254 : Nat) "<>=") ∈ lw_tbl := tw_tb7 (List.mem_of_getElem? (i := 86) rfl)
theorem kw_1527 : (Jvm.Cond.stringRef "RaceByLapsModel" (262 : Nat) "b+=-gh.") ∈ lw_tbl := tw_tb7 (List.mem_of_getElem? (i := 87) rfl)
theorem kw_1528 : (Jvm.Cond.stringRef "RaceByLapsModel" (264 : Nat) "0123") ∈ lw_tbl := tw_tb7 (List.mem_of_getElem? (i := 88) rfl)
theorem kw_1529 : (Jvm.Cond.methodLink "RaceByLapsModel" (285 : Nat) ({ cls := "RaceByLapsModel", name := "law", desc := "(I)Z" } : Jvm.MethodName)) ∈ lw_tbl := tw_tb7 (List.mem_of_getElem? (i := 89) rfl)
theorem kw_1530 : (Jvm.Cond.privateMethod ({ cls := "RaceByLapsModel", name := "law", desc := "(I)Z" } : Jvm.MethodName)) ∈ lw_tbl := tw_tb7 (List.mem_of_getElem? (i := 90) rfl)
theorem kw_1531 : (Jvm.Cond.instanceMethod ({ cls := "RaceByLapsModel", name := "law", desc := "(I)Z" } : Jvm.MethodName)) ∈ lw_tbl := tw_tb7 (List.mem_of_getElem? (i := 91) rfl)
theorem kw_1532 : (Jvm.Cond.code ({ cls := "RaceByLapsModel", name := "law", desc := "(I)Z" } : Jvm.MethodName) prog_14_method_46_code (4 : Nat) (Option.some Jvm.ClassFile.FieldType.boolean)) ∈ lw_tbl := tw_tb7 (List.mem_of_getElem? (i := 92) rfl)
theorem kw_1533 : (Jvm.Cond.methodLink "RaceByLapsLaw" (93 : Nat) ({ cls := "RaceByLapsModel", name := "of", desc := "(II)I" } : Jvm.MethodName)) ∈ lw_tbl := tw_tb7 (List.mem_of_getElem? (i := 93) rfl)
theorem kw_1534 : (Jvm.Cond.instanceMethod ({ cls := "RaceByLapsModel", name := "of", desc := "(II)I" } : Jvm.MethodName)) ∈ lw_tbl := tw_tb7 (List.mem_of_getElem? (i := 94) rfl)
theorem kw_1535 : (Jvm.Cond.selects "RaceByLapsModel" ({ cls := "RaceByLapsModel", name := "of", desc := "(II)I" } : Jvm.MethodName) ({ cls := "RaceByLapsModel", name := "of", desc := "(II)I" } : Jvm.MethodName)) ∈ lw_tbl := tw_tb7 (List.mem_of_getElem? (i := 95) rfl)
theorem kw_1536 : (Jvm.Cond.code ({ cls := "RaceByLapsModel", name := "of", desc := "(II)I" } : Jvm.MethodName) prog_14_method_66_code (3 : Nat) (Option.some Jvm.ClassFile.FieldType.int)) ∈ lw_tbl := tw_tb7 (List.mem_of_getElem? (i := 96) rfl)
theorem kw_1537 : (Jvm.Cond.constantLong "RaceByLapsModel" (444 : Nat) (10 : Int64)) ∈ lw_tbl := tw_tb7 (List.mem_of_getElem? (i := 97) rfl)
theorem kw_1538 : (Jvm.Cond.methodLink "RaceByLapsModel" (446 : Nat) ({ cls := "RaceByLapsModel", name := "refuse", desc := "()I" } : Jvm.MethodName)) ∈ lw_tbl := tw_tb7 (List.mem_of_getElem? (i := 98) rfl)
theorem kw_1539 : (Jvm.Cond.privateMethod ({ cls := "RaceByLapsModel", name := "refuse", desc := "()I" } : Jvm.MethodName)) ∈ lw_tbl := tw_tb7 (List.mem_of_getElem? (i := 99) rfl)
theorem kw_1540 : (Jvm.Cond.instanceMethod ({ cls := "RaceByLapsModel", name := "refuse", desc := "()I" } : Jvm.MethodName)) ∈ lw_tbl := tw_tb7 (List.mem_of_getElem? (i := 100) rfl)
theorem kw_1541 : (Jvm.Cond.code ({ cls := "RaceByLapsModel", name := "refuse", desc := "()I" } : Jvm.MethodName) prog_14_method_3_code (1 : Nat) (Option.some Jvm.ClassFile.FieldType.int)) ∈ lw_tbl := tw_tb7 (List.mem_of_getElem? (i := 101) rfl)
theorem kw_1542 : (Jvm.Cond.methodLink "RaceByLapsModel" (449 : Nat) ({ cls := "RaceByLapsModel", name := "runs", desc := "()V" } : Jvm.MethodName)) ∈ lw_tbl := tw_tb7 (List.mem_of_getElem? (i := 102) rfl)
theorem kw_1543 : (Jvm.Cond.privateMethod ({ cls := "RaceByLapsModel", name := "runs", desc := "()V" } : Jvm.MethodName)) ∈ lw_tbl := tw_tb7 (List.mem_of_getElem? (i := 103) rfl)
theorem kw_1544 : (Jvm.Cond.instanceMethod ({ cls := "RaceByLapsModel", name := "runs", desc := "()V" } : Jvm.MethodName)) ∈ lw_tbl := tw_tb7 (List.mem_of_getElem? (i := 104) rfl)
theorem kw_1545 : (Jvm.Cond.code ({ cls := "RaceByLapsModel", name := "runs", desc := "()V" } : Jvm.MethodName) prog_14_method_53_code (2 : Nat) (Option.none : Option Jvm.ClassFile.FieldType)) ∈ lw_tbl := tw_tb7 (List.mem_of_getElem? (i := 105) rfl)
theorem kw_1546 : (Jvm.Cond.methodLink "RaceByLapsModel" (372 : Nat) ({ cls := "RaceByLapsModel", name := "starts", desc := "()V" } : Jvm.MethodName)) ∈ lw_tbl := tw_tb7 (List.mem_of_getElem? (i := 106) rfl)
theorem kw_1547 : (Jvm.Cond.privateMethod ({ cls := "RaceByLapsModel", name := "starts", desc := "()V" } : Jvm.MethodName)) ∈ lw_tbl := tw_tb7 (List.mem_of_getElem? (i := 107) rfl)
theorem kw_1548 : (Jvm.Cond.instanceMethod ({ cls := "RaceByLapsModel", name := "starts", desc := "()V" } : Jvm.MethodName)) ∈ lw_tbl := tw_tb7 (List.mem_of_getElem? (i := 108) rfl)
theorem kw_1549 : (Jvm.Cond.code ({ cls := "RaceByLapsModel", name := "starts", desc := "()V" } : Jvm.MethodName) prog_14_method_52_code (3 : Nat) (Option.none : Option Jvm.ClassFile.FieldType)) ∈ lw_tbl := tw_tb7 (List.mem_of_getElem? (i := 109) rfl)
theorem kw_1550 : (Jvm.Cond.methodLink "RaceByLapsModel" (376 : Nat) ({ cls := "RaceByLapsModel", name := "next", desc := "()I" } : Jvm.MethodName)) ∈ lw_tbl := tw_tb7 (List.mem_of_getElem? (i := 110) rfl)
theorem kw_1551 : (Jvm.Cond.privateMethod ({ cls := "RaceByLapsModel", name := "next", desc := "()I" } : Jvm.MethodName)) ∈ lw_tbl := tw_tb7 (List.mem_of_getElem? (i := 111) rfl)
theorem kw_1552 : (Jvm.Cond.instanceMethod ({ cls := "RaceByLapsModel", name := "next", desc := "()I" } : Jvm.MethodName)) ∈ lw_tbl := tw_tb7 (List.mem_of_getElem? (i := 112) rfl)
theorem kw_1553 : (Jvm.Cond.code ({ cls := "RaceByLapsModel", name := "next", desc := "()I" } : Jvm.MethodName) prog_14_method_54_code (3 : Nat) (Option.some Jvm.ClassFile.FieldType.int)) ∈ lw_tbl := tw_tb7 (List.mem_of_getElem? (i := 113) rfl)
theorem kw_1554 : (Jvm.Cond.methodLink "RaceByLapsModel" (383 : Nat) ({ cls := "RaceByLapsModel", name := "goesOn", desc := "(I)Z" } : Jvm.MethodName)) ∈ lw_tbl := tw_tb7 (List.mem_of_getElem? (i := 114) rfl)
theorem kw_1555 : (Jvm.Cond.privateMethod ({ cls := "RaceByLapsModel", name := "goesOn", desc := "(I)Z" } : Jvm.MethodName)) ∈ lw_tbl := tw_tb7 (List.mem_of_getElem? (i := 115) rfl)
theorem kw_1556 : (Jvm.Cond.instanceMethod ({ cls := "RaceByLapsModel", name := "goesOn", desc := "(I)Z" } : Jvm.MethodName)) ∈ lw_tbl := tw_tb7 (List.mem_of_getElem? (i := 116) rfl)
theorem kw_1557 : (Jvm.Cond.code ({ cls := "RaceByLapsModel", name := "goesOn", desc := "(I)Z" } : Jvm.MethodName) prog_14_method_51_code (2 : Nat) (Option.some Jvm.ClassFile.FieldType.boolean)) ∈ lw_tbl := tw_tb7 (List.mem_of_getElem? (i := 117) rfl)
theorem kw_1558 : (Jvm.Cond.methodLink "RaceByLapsModel" (380 : Nat) ({ cls := "RaceByLapsModel", name := "goes", desc := "(II)V" } : Jvm.MethodName)) ∈ lw_tbl := tw_tb7 (List.mem_of_getElem? (i := 118) rfl)
theorem kw_1559 : (Jvm.Cond.privateMethod ({ cls := "RaceByLapsModel", name := "goes", desc := "(II)V" } : Jvm.MethodName)) ∈ lw_tbl := tw_tb7 (List.mem_of_getElem? (i := 119) rfl)
theorem kw_1560 : (Jvm.Cond.instanceMethod ({ cls := "RaceByLapsModel", name := "goes", desc := "(II)V" } : Jvm.MethodName)) ∈ lw_tbl := tw_tb7 (List.mem_of_getElem? (i := 120) rfl)
theorem kw_1561 : (Jvm.Cond.code ({ cls := "RaceByLapsModel", name := "goes", desc := "(II)V" } : Jvm.MethodName) prog_14_method_60_code (8 : Nat) (Option.none : Option Jvm.ClassFile.FieldType)) ∈ lw_tbl := tw_tb7 (List.mem_of_getElem? (i := 121) rfl)
theorem kw_1562 : (Jvm.Cond.methodLink "RaceByLapsModel" (408 : Nat) ({ cls := "RaceByLapsModel", name := "hears", desc := "(II)V" } : Jvm.MethodName)) ∈ lw_tbl := tw_tb7 (List.mem_of_getElem? (i := 122) rfl)
theorem kw_1563 : (Jvm.Cond.privateMethod ({ cls := "RaceByLapsModel", name := "hears", desc := "(II)V" } : Jvm.MethodName)) ∈ lw_tbl := tw_tb7 (List.mem_of_getElem? (i := 123) rfl)
theorem kw_1564 : (Jvm.Cond.instanceMethod ({ cls := "RaceByLapsModel", name := "hears", desc := "(II)V" } : Jvm.MethodName)) ∈ lw_tbl := tw_tb7 (List.mem_of_getElem? (i := 124) rfl)
theorem kw_1565 : (Jvm.Cond.code ({ cls := "RaceByLapsModel", name := "hears", desc := "(II)V" } : Jvm.MethodName) prog_14_method_55_code (4 : Nat) (Option.none : Option Jvm.ClassFile.FieldType)) ∈ lw_tbl := tw_tb7 (List.mem_of_getElem? (i := 125) rfl)
theorem kw_1566 : (Jvm.Cond.methodLink "RaceByLapsModel" (411 : Nat) ({ cls := "RaceByLapsModel", name := "isSlow", desc := "(I)Z" } : Jvm.MethodName)) ∈ lw_tbl := tw_tb7 (List.mem_of_getElem? (i := 126) rfl)
theorem kw_1567 : (Jvm.Cond.privateMethod ({ cls := "RaceByLapsModel", name := "isSlow", desc := "(I)Z" } : Jvm.MethodName)) ∈ lw_tbl := tw_tb7 (List.mem_of_getElem? (i := 127) rfl)
theorem kw_1568 : (Jvm.Cond.instanceMethod ({ cls := "RaceByLapsModel", name := "isSlow", desc := "(I)Z" } : Jvm.MethodName)) ∈ lw_tbl := tw_tb7 (List.mem_of_getElem? (i := 128) rfl)
theorem kw_1569 : (Jvm.Cond.code ({ cls := "RaceByLapsModel", name := "isSlow", desc := "(I)Z" } : Jvm.MethodName) prog_14_method_17_code (4 : Nat) (Option.some Jvm.ClassFile.FieldType.boolean)) ∈ lw_tbl := tw_tb7 (List.mem_of_getElem? (i := 129) rfl)
theorem kw_1570 : (Jvm.Cond.methodLink "RaceByLapsModel" (414 : Nat) ({ cls := "RaceByLapsModel", name := "takes", desc := "(IIIZ)I" } : Jvm.MethodName)) ∈ lw_tbl := tw_tb7 (List.mem_of_getElem? (i := 130) rfl)
theorem kw_1571 : (Jvm.Cond.privateMethod ({ cls := "RaceByLapsModel", name := "takes", desc := "(IIIZ)I" } : Jvm.MethodName)) ∈ lw_tbl := tw_tb7 (List.mem_of_getElem? (i := 131) rfl)
theorem kw_1572 : (Jvm.Cond.instanceMethod ({ cls := "RaceByLapsModel", name := "takes", desc := "(IIIZ)I" } : Jvm.MethodName)) ∈ lw_tbl := tw_tb7 (List.mem_of_getElem? (i := 132) rfl)
theorem kw_1573 : (Jvm.Cond.code ({ cls := "RaceByLapsModel", name := "takes", desc := "(IIIZ)I" } : Jvm.MethodName) prog_14_method_57_code (8 : Nat) (Option.some Jvm.ClassFile.FieldType.int)) ∈ lw_tbl := tw_tb7 (List.mem_of_getElem? (i := 133) rfl)
theorem kw_1574 : (Jvm.Cond.methodLink "RaceByLapsModel" (386 : Nat) ({ cls := "RaceByLapsModel", name := "isFront", desc := "(I)Z" } : Jvm.MethodName)) ∈ lw_tbl := tw_tb7 (List.mem_of_getElem? (i := 134) rfl)
theorem kw_1575 : (Jvm.Cond.privateMethod ({ cls := "RaceByLapsModel", name := "isFront", desc := "(I)Z" } : Jvm.MethodName)) ∈ lw_tbl := tw_tb7 (List.mem_of_getElem? (i := 135) rfl)
theorem kw_1576 : (Jvm.Cond.instanceMethod ({ cls := "RaceByLapsModel", name := "isFront", desc := "(I)Z" } : Jvm.MethodName)) ∈ lw_tbl := tw_tb7 (List.mem_of_getElem? (i := 136) rfl)
theorem kw_1577 : (Jvm.Cond.code ({ cls := "RaceByLapsModel", name := "isFront", desc := "(I)Z" } : Jvm.MethodName) prog_14_method_56_code (4 : Nat) (Option.some Jvm.ClassFile.FieldType.boolean)) ∈ lw_tbl := tw_tb7 (List.mem_of_getElem? (i := 137) rfl)
theorem kw_1578 : (Jvm.Cond.methodLink "RaceByLapsModel" (389 : Nat) ({ cls := "RaceByLapsModel", name := "wet", desc := "(II)I" } : Jvm.MethodName)) ∈ lw_tbl := tw_tb7 (List.mem_of_getElem? (i := 138) rfl)
theorem kw_1579 : (Jvm.Cond.privateMethod ({ cls := "RaceByLapsModel", name := "wet", desc := "(II)I" } : Jvm.MethodName)) ∈ lw_tbl := tw_tb7 (List.mem_of_getElem? (i := 139) rfl)
theorem kw_1580 : (Jvm.Cond.instanceMethod ({ cls := "RaceByLapsModel", name := "wet", desc := "(II)I" } : Jvm.MethodName)) ∈ lw_tbl := tw_tb7 (List.mem_of_getElem? (i := 140) rfl)
theorem kw_1581 : (Jvm.Cond.code ({ cls := "RaceByLapsModel", name := "wet", desc := "(II)I" } : Jvm.MethodName) prog_14_method_16_code (5 : Nat) (Option.some Jvm.ClassFile.FieldType.int)) ∈ lw_tbl := tw_tb7 (List.mem_of_getElem? (i := 141) rfl)
theorem kw_1582 : (Jvm.Cond.methodLink "RaceByLapsModel" (392 : Nat) ({ cls := "java/lang/Math", name := "abs", desc := "(I)I" } : Jvm.MethodName)) ∈ lw_tbl := tw_tb7 (List.mem_of_getElem? (i := 142) rfl)
theorem kw_1583 : (Jvm.Cond.methodLink "RaceByLapsModel" (395 : Nat) ({ cls := "java/lang/Math", name := "max", desc := "(II)I" } : Jvm.MethodName)) ∈ lw_tbl := tw_tb7 (List.mem_of_getElem? (i := 143) rfl)
theorem kw_1584 : (Jvm.Cond.methodLink "RaceByLapsModel" (418 : Nat) ({ cls := "RaceByLapsModel", name := "held", desc := "(IIIIZ)I" } : Jvm.MethodName)) ∈ lw_tbl := tw_tb7 (List.mem_of_getElem? (i := 144) rfl)
theorem kw_1585 : (Jvm.Cond.privateMethod ({ cls := "RaceByLapsModel", name := "held", desc := "(IIIIZ)I" } : Jvm.MethodName)) ∈ lw_tbl := tw_tb7 (List.mem_of_getElem? (i := 145) rfl)
theorem kw_1586 : (Jvm.Cond.instanceMethod ({ cls := "RaceByLapsModel", name := "held", desc := "(IIIIZ)I" } : Jvm.MethodName)) ∈ lw_tbl := tw_tb7 (List.mem_of_getElem? (i := 146) rfl)
theorem kw_1587 : (Jvm.Cond.code ({ cls := "RaceByLapsModel", name := "held", desc := "(IIIIZ)I" } : Jvm.MethodName) prog_14_method_59_code (11 : Nat) (Option.some Jvm.ClassFile.FieldType.int)) ∈ lw_tbl := tw_tb7 (List.mem_of_getElem? (i := 147) rfl)
theorem kw_1588 : (Jvm.Cond.methodLink "RaceByLapsModel" (398 : Nat) ({ cls := "RaceByLapsModel", name := "isYellow", desc := "(II)Z" } : Jvm.MethodName)) ∈ lw_tbl := tw_tb7 (List.mem_of_getElem? (i := 148) rfl)
theorem kw_1589 : (Jvm.Cond.privateMethod ({ cls := "RaceByLapsModel", name := "isYellow", desc := "(II)Z" } : Jvm.MethodName)) ∈ lw_tbl := tw_tb7 (List.mem_of_getElem? (i := 149) rfl)
theorem kw_1590 : (Jvm.Cond.instanceMethod ({ cls := "RaceByLapsModel", name := "isYellow", desc := "(II)Z" } : Jvm.MethodName)) ∈ lw_tbl := tw_tb7 (List.mem_of_getElem? (i := 150) rfl)
theorem kw_1591 : (Jvm.Cond.code ({ cls := "RaceByLapsModel", name := "isYellow", desc := "(II)Z" } : Jvm.MethodName) prog_14_method_18_code (6 : Nat) (Option.some Jvm.ClassFile.FieldType.boolean)) ∈ lw_tbl := tw_tb7 (List.mem_of_getElem? (i := 151) rfl)
theorem kw_1592 : (Jvm.Cond.methodLink "RaceByLapsModel" (402 : Nat) ({ cls := "RaceByLapsModel", name := "latest", desc := "(III)I" } : Jvm.MethodName)) ∈ lw_tbl := tw_tb7 (List.mem_of_getElem? (i := 152) rfl)
theorem kw_1593 : (Jvm.Cond.privateMethod ({ cls := "RaceByLapsModel", name := "latest", desc := "(III)I" } : Jvm.MethodName)) ∈ lw_tbl := tw_tb7 (List.mem_of_getElem? (i := 153) rfl)
theorem kw_1594 : (Jvm.Cond.instanceMethod ({ cls := "RaceByLapsModel", name := "latest", desc := "(III)I" } : Jvm.MethodName)) ∈ lw_tbl := tw_tb7 (List.mem_of_getElem? (i := 154) rfl)
theorem kw_1595 : (Jvm.Cond.code ({ cls := "RaceByLapsModel", name := "latest", desc := "(III)I" } : Jvm.MethodName) prog_14_method_58_code (7 : Nat) (Option.some Jvm.ClassFile.FieldType.int)) ∈ lw_tbl := tw_tb7 (List.mem_of_getElem? (i := 155) rfl)
theorem kw_1596 : (Jvm.Cond.methodLink "RaceByLapsModel" (422 : Nat) ({ cls := "RaceByLapsModel", name := "endsLap", desc := "(III)V" } : Jvm.MethodName)) ∈ lw_tbl := tw_tb7 (List.mem_of_getElem? (i := 156) rfl)
theorem kw_1597 : (Jvm.Cond.privateMethod ({ cls := "RaceByLapsModel", name := "endsLap", desc := "(III)V" } : Jvm.MethodName)) ∈ lw_tbl := tw_tb7 (List.mem_of_getElem? (i := 157) rfl)
theorem kw_1598 : (Jvm.Cond.instanceMethod ({ cls := "RaceByLapsModel", name := "endsLap", desc := "(III)V" } : Jvm.MethodName)) ∈ lw_tbl := tw_tb7 (List.mem_of_getElem? (i := 158) rfl)
theorem kw_1599 : (Jvm.Cond.code ({ cls := "RaceByLapsModel", name := "endsLap", desc := "(III)V" } : Jvm.MethodName) prog_14_method_62_code (7 : Nat) (Option.none : Option Jvm.ClassFile.FieldType)) ∈ lw_tbl := tw_tb7 (List.mem_of_getElem? (i := 159) rfl)
theorem kw_1600 : (Jvm.Cond.methodLink "RaceByLapsModel" (426 : Nat) ({ cls := "RaceByLapsModel", name := "isOver", desc := "(II)Z" } : Jvm.MethodName)) ∈ lw_tbl := tw_tb7 (List.mem_of_getElem? (i := 160) rfl)
theorem kw_1601 : (Jvm.Cond.privateMethod ({ cls := "RaceByLapsModel", name := "isOver", desc := "(II)Z" } : Jvm.MethodName)) ∈ lw_tbl := tw_tb7 (List.mem_of_getElem? (i := 161) rfl)
theorem kw_1602 : (Jvm.Cond.instanceMethod ({ cls := "RaceByLapsModel", name := "isOver", desc := "(II)Z" } : Jvm.MethodName)) ∈ lw_tbl := tw_tb7 (List.mem_of_getElem? (i := 162) rfl)
theorem kw_1603 : (Jvm.Cond.code ({ cls := "RaceByLapsModel", name := "isOver", desc := "(II)Z" } : Jvm.MethodName) prog_14_method_61_code (6 : Nat) (Option.some Jvm.ClassFile.FieldType.boolean)) ∈ lw_tbl := tw_tb7 (List.mem_of_getElem? (i := 163) rfl)
theorem kw_1604 : (Jvm.Cond.methodLink "RaceByLapsModel" (432 : Nat) ({ cls := "RaceByLapsModel", name := "asks", desc := "(III)I" } : Jvm.MethodName)) ∈ lw_tbl := tw_tb7 (List.mem_of_getElem? (i := 164) rfl)
theorem kw_1605 : (Jvm.Cond.privateMethod ({ cls := "RaceByLapsModel", name := "asks", desc := "(III)I" } : Jvm.MethodName)) ∈ lw_tbl := tw_tb7 (List.mem_of_getElem? (i := 165) rfl)
theorem kw_1606 : (Jvm.Cond.instanceMethod ({ cls := "RaceByLapsModel", name := "asks", desc := "(III)I" } : Jvm.MethodName)) ∈ lw_tbl := tw_tb7 (List.mem_of_getElem? (i := 166) rfl)
theorem kw_1607 : (Jvm.Cond.code ({ cls := "RaceByLapsModel", name := "asks", desc := "(III)I" } : Jvm.MethodName) prog_14_method_64_code (10 : Nat) (Option.some Jvm.ClassFile.FieldType.int)) ∈ lw_tbl := tw_tb7 (List.mem_of_getElem? (i := 167) rfl)
theorem kw_1608 : (Jvm.Cond.methodLink "RaceByLapsModel" (438 : Nat) ({ cls := "RaceByLapsModel", name := "speaks", desc := "(III)V" } : Jvm.MethodName)) ∈ lw_tbl := tw_tb7 (List.mem_of_getElem? (i := 168) rfl)
theorem kw_1609 : (Jvm.Cond.privateMethod ({ cls := "RaceByLapsModel", name := "speaks", desc := "(III)V" } : Jvm.MethodName)) ∈ lw_tbl := tw_tb7 (List.mem_of_getElem? (i := 169) rfl)
theorem kw_1610 : (Jvm.Cond.instanceMethod ({ cls := "RaceByLapsModel", name := "speaks", desc := "(III)V" } : Jvm.MethodName)) ∈ lw_tbl := tw_tb7 (List.mem_of_getElem? (i := 170) rfl)
theorem kw_1611 : (Jvm.Cond.code ({ cls := "RaceByLapsModel", name := "speaks", desc := "(III)V" } : Jvm.MethodName) prog_14_method_65_code (9 : Nat) (Option.none : Option Jvm.ClassFile.FieldType)) ∈ lw_tbl := tw_tb7 (List.mem_of_getElem? (i := 171) rfl)
theorem kw_1612 : (Jvm.Cond.methodLink "RaceByLapsModel" (292 : Nat) ({ cls := "RaceByLapsModel", name := "truth", desc := "(Z)I" } : Jvm.MethodName)) ∈ lw_tbl := tw_tb7 (List.mem_of_getElem? (i := 172) rfl)
theorem kw_1613 : (Jvm.Cond.static ({ cls := "RaceByLapsModel", name := "truth", desc := "(Z)I" } : Jvm.MethodName)) ∈ lw_tbl := tw_tb7 (List.mem_of_getElem? (i := 173) rfl)
theorem kw_1614 : (Jvm.Cond.code ({ cls := "RaceByLapsModel", name := "truth", desc := "(Z)I" } : Jvm.MethodName) prog_14_method_4_code (1 : Nat) (Option.some Jvm.ClassFile.FieldType.int)) ∈ lw_tbl := tw_tb7 (List.mem_of_getElem? (i := 174) rfl)
theorem kw_1615 : (Jvm.Cond.methodLink "RaceByLapsModel" (441 : Nat) ({ cls := "RaceByLapsModel", name := "gives", desc := "(II)I" } : Jvm.MethodName)) ∈ lw_tbl := tw_tb7 (List.mem_of_getElem? (i := 175) rfl)
theorem kw_1616 : (Jvm.Cond.privateMethod ({ cls := "RaceByLapsModel", name := "gives", desc := "(II)I" } : Jvm.MethodName)) ∈ lw_tbl := tw_tb7 (List.mem_of_getElem? (i := 176) rfl)
theorem kw_1617 : (Jvm.Cond.instanceMethod ({ cls := "RaceByLapsModel", name := "gives", desc := "(II)I" } : Jvm.MethodName)) ∈ lw_tbl := tw_tb7 (List.mem_of_getElem? (i := 177) rfl)
theorem kw_1618 : (Jvm.Cond.code ({ cls := "RaceByLapsModel", name := "gives", desc := "(II)I" } : Jvm.MethodName) prog_14_method_50_code (6 : Nat) (Option.some Jvm.ClassFile.FieldType.int)) ∈ lw_tbl := tw_tb7 (List.mem_of_getElem? (i := 178) rfl)
theorem kw_1619 : (Jvm.Cond.methodLink "RaceByLapsModel" (302 : Nat) ({ cls := "RaceByLapsModel", name := "acted", desc := "(III)I" } : Jvm.MethodName)) ∈ lw_tbl := tw_tb7 (List.mem_of_getElem? (i := 179) rfl)
theorem kw_1620 : (Jvm.Cond.static ({ cls := "RaceByLapsModel", name := "acted", desc := "(III)I" } : Jvm.MethodName)) ∈ lw_tbl := tw_tb7 (List.mem_of_getElem? (i := 180) rfl)
theorem kw_1621 : (Jvm.Cond.code ({ cls := "RaceByLapsModel", name := "acted", desc := "(III)I" } : Jvm.MethodName) prog_14_method_49_code (3 : Nat) (Option.some Jvm.ClassFile.FieldType.int)) ∈ lw_tbl := tw_tb7 (List.mem_of_getElem? (i := 181) rfl)
theorem kw_1622 : (Jvm.Cond.methodLink "RaceByLapsModel" (435 : Nat) ({ cls := "RaceByLapsModel", name := "boxes", desc := "(IIII)V" } : Jvm.MethodName)) ∈ lw_tbl := tw_tb7 (List.mem_of_getElem? (i := 182) rfl)
theorem kw_1623 : (Jvm.Cond.privateMethod ({ cls := "RaceByLapsModel", name := "boxes", desc := "(IIII)V" } : Jvm.MethodName)) ∈ lw_tbl := tw_tb7 (List.mem_of_getElem? (i := 183) rfl)
theorem kw_1624 : (Jvm.Cond.instanceMethod ({ cls := "RaceByLapsModel", name := "boxes", desc := "(IIII)V" } : Jvm.MethodName)) ∈ lw_tbl := tw_tb7 (List.mem_of_getElem? (i := 184) rfl)
theorem kw_1625 : (Jvm.Cond.code ({ cls := "RaceByLapsModel", name := "boxes", desc := "(IIII)V" } : Jvm.MethodName) prog_14_method_63_code (9 : Nat) (Option.none : Option Jvm.ClassFile.FieldType)) ∈ lw_tbl := tw_tb7 (List.mem_of_getElem? (i := 185) rfl)
theorem kw_1626 : (Jvm.Cond.methodLink "RaceByLapsModel" (452 : Nat) ({ cls := "java/lang/Integer", name := "bitCount", desc := "(I)I" } : Jvm.MethodName)) ∈ lw_tbl := tw_tb7 (List.mem_of_getElem? (i := 186) rfl)
theorem kw_1627 : (Jvm.Cond.methodLink "RaceByLapsLaw" (101 : Nat) ({ cls := "RaceByLapsModel", name := "at", desc := "(III)I" } : Jvm.MethodName)) ∈ lw_tbl := tw_tb7 (List.mem_of_getElem? (i := 187) rfl)
theorem kw_1628 : (Jvm.Cond.instanceMethod ({ cls := "RaceByLapsModel", name := "at", desc := "(III)I" } : Jvm.MethodName)) ∈ lw_tbl := tw_tb7 (List.mem_of_getElem? (i := 188) rfl)
theorem kw_1629 : (Jvm.Cond.selects "RaceByLapsModel" ({ cls := "RaceByLapsModel", name := "at", desc := "(III)I" } : Jvm.MethodName) ({ cls := "RaceByLapsModel", name := "at", desc := "(III)I" } : Jvm.MethodName)) ∈ lw_tbl := tw_tb7 (List.mem_of_getElem? (i := 189) rfl)
theorem kw_1630 : (Jvm.Cond.code ({ cls := "RaceByLapsModel", name := "at", desc := "(III)I" } : Jvm.MethodName) prog_14_method_67_code (4 : Nat) (Option.some Jvm.ClassFile.FieldType.int)) ∈ lw_tbl := tw_tb7 (List.mem_of_getElem? (i := 190) rfl)
theorem kw_1631 : (Jvm.Cond.methodLink "RaceByLapsLaw" (105 : Nat) ({ cls := "RaceByLapsModel", name := "led", desc := "(II)I" } : Jvm.MethodName)) ∈ lw_tbl := tw_tb7 (List.mem_of_getElem? (i := 191) rfl)
theorem kw_1632 : (Jvm.Cond.instanceMethod ({ cls := "RaceByLapsModel", name := "led", desc := "(II)I" } : Jvm.MethodName)) ∈ lw_tbl := tw_tb7 (List.mem_of_getElem? (i := 192) rfl)
theorem kw_1633 : (Jvm.Cond.selects "RaceByLapsModel" ({ cls := "RaceByLapsModel", name := "led", desc := "(II)I" } : Jvm.MethodName) ({ cls := "RaceByLapsModel", name := "led", desc := "(II)I" } : Jvm.MethodName)) ∈ lw_tbl := tw_tb7 (List.mem_of_getElem? (i := 193) rfl)
theorem kw_1634 : (Jvm.Cond.code ({ cls := "RaceByLapsModel", name := "led", desc := "(II)I" } : Jvm.MethodName) prog_14_method_69_code (3 : Nat) (Option.some Jvm.ClassFile.FieldType.int)) ∈ lw_tbl := tw_tb7 (List.mem_of_getElem? (i := 194) rfl)
theorem kw_1635 : (Jvm.Cond.methodLink "RaceByLapsModel" (457 : Nat) ({ cls := "RaceByLapsModel", name := "ledBy", desc := "(II)I" } : Jvm.MethodName)) ∈ lw_tbl := tw_tb7 (List.mem_of_getElem? (i := 195) rfl)
theorem kw_1636 : (Jvm.Cond.privateMethod ({ cls := "RaceByLapsModel", name := "ledBy", desc := "(II)I" } : Jvm.MethodName)) ∈ lw_tbl := tw_tb7 (List.mem_of_getElem? (i := 196) rfl)
theorem kw_1637 : (Jvm.Cond.instanceMethod ({ cls := "RaceByLapsModel", name := "ledBy", desc := "(II)I" } : Jvm.MethodName)) ∈ lw_tbl := tw_tb7 (List.mem_of_getElem? (i := 197) rfl)
theorem kw_1638 : (Jvm.Cond.code ({ cls := "RaceByLapsModel", name := "ledBy", desc := "(II)I" } : Jvm.MethodName) prog_14_method_68_code (9 : Nat) (Option.some Jvm.ClassFile.FieldType.int)) ∈ lw_tbl := tw_tb7 (List.mem_of_getElem? (i := 198) rfl)
theorem kw_1639 : (Jvm.Cond.methodLink "RaceByLapsLaw" (109 : Nat) ({ cls := "RaceByLapsModel", name := "waited", desc := "(I)I" } : Jvm.MethodName)) ∈ lw_tbl := tw_tb7 (List.mem_of_getElem? (i := 199) rfl)
theorem kw_1640 : (Jvm.Cond.instanceMethod ({ cls := "RaceByLapsModel", name := "waited", desc := "(I)I" } : Jvm.MethodName)) ∈ lw_tbl := tw_tb7 (List.mem_of_getElem? (i := 200) rfl)
theorem kw_1641 : (Jvm.Cond.selects "RaceByLapsModel" ({ cls := "RaceByLapsModel", name := "waited", desc := "(I)I" } : Jvm.MethodName) ({ cls := "RaceByLapsModel", name := "waited", desc := "(I)I" } : Jvm.MethodName)) ∈ lw_tbl := tw_tb7 (List.mem_of_getElem? (i := 201) rfl)
theorem kw_1642 : (Jvm.Cond.code ({ cls := "RaceByLapsModel", name := "waited", desc := "(I)I" } : Jvm.MethodName) prog_14_method_70_code (2 : Nat) (Option.some Jvm.ClassFile.FieldType.int)) ∈ lw_tbl := tw_tb7 (List.mem_of_getElem? (i := 202) rfl)
theorem kw_1643 : (Jvm.Cond.methodLink "RaceByLapsLaw" (113 : Nat) ({ cls := "RaceByLapsModel", name := "leads", desc := "()I" } : Jvm.MethodName)) ∈ lw_tbl := tw_tb7 (List.mem_of_getElem? (i := 203) rfl)
theorem kw_1644 : (Jvm.Cond.instanceMethod ({ cls := "RaceByLapsModel", name := "leads", desc := "()I" } : Jvm.MethodName)) ∈ lw_tbl := tw_tb7 (List.mem_of_getElem? (i := 204) rfl)
theorem kw_1645 : (Jvm.Cond.selects "RaceByLapsModel" ({ cls := "RaceByLapsModel", name := "leads", desc := "()I" } : Jvm.MethodName) ({ cls := "RaceByLapsModel", name := "leads", desc := "()I" } : Jvm.MethodName)) ∈ lw_tbl := tw_tb7 (List.mem_of_getElem? (i := 205) rfl)
theorem kw_1646 : (Jvm.Cond.code ({ cls := "RaceByLapsModel", name := "leads", desc := "()I" } : Jvm.MethodName) prog_14_method_71_code (3 : Nat) (Option.some Jvm.ClassFile.FieldType.int)) ∈ lw_tbl := tw_tb7 (List.mem_of_getElem? (i := 206) rfl)
theorem kw_1647 : (Jvm.Cond.methodLink "RaceByLapsLaw" (125 : Nat) ({ cls := "RaceByLapsModel", name := "rule", desc := "(I)I" } : Jvm.MethodName)) ∈ lw_tbl := tw_tb7 (List.mem_of_getElem? (i := 207) rfl)
theorem kw_1648 : (Jvm.Cond.instanceMethod ({ cls := "RaceByLapsModel", name := "rule", desc := "(I)I" } : Jvm.MethodName)) ∈ lw_tbl := tw_tb7 (List.mem_of_getElem? (i := 208) rfl)
theorem kw_1649 : (Jvm.Cond.selects "RaceByLapsModel" ({ cls := "RaceByLapsModel", name := "rule", desc := "(I)I" } : Jvm.MethodName) ({ cls := "RaceByLapsModel", name := "rule", desc := "(I)I" } : Jvm.MethodName)) ∈ lw_tbl := tw_tb7 (List.mem_of_getElem? (i := 209) rfl)
theorem kw_1650 : (Jvm.Cond.code ({ cls := "RaceByLapsModel", name := "rule", desc := "(I)I" } : Jvm.MethodName) prog_14_method_73_code (3 : Nat) (Option.some Jvm.ClassFile.FieldType.int)) ∈ lw_tbl := tw_tb7 (List.mem_of_getElem? (i := 210) rfl)
theorem kw_1651 : (Jvm.Cond.methodLink "RaceByLapsModel" (462 : Nat) ({ cls := "RaceByLapsModel", name := "isDay", desc := "(I)Z" } : Jvm.MethodName)) ∈ lw_tbl := tw_tb7 (List.mem_of_getElem? (i := 211) rfl)
theorem kw_1652 : (Jvm.Cond.static ({ cls := "RaceByLapsModel", name := "isDay", desc := "(I)Z" } : Jvm.MethodName)) ∈ lw_tbl := tw_tb7 (List.mem_of_getElem? (i := 212) rfl)
theorem kw_1653 : (Jvm.Cond.code ({ cls := "RaceByLapsModel", name := "isDay", desc := "(I)Z" } : Jvm.MethodName) prog_14_method_72_code (1 : Nat) (Option.some Jvm.ClassFile.FieldType.boolean)) ∈ lw_tbl := tw_tb7 (List.mem_of_getElem? (i := 213) rfl)
theorem kw_1654 : (Jvm.Cond.constantLong "RaceByLapsModel" (460 : Nat) (99 : Int64)) ∈ lw_tbl := tw_tb7 (List.mem_of_getElem? (i := 214) rfl)
theorem kw_1655 : (Jvm.Cond.methodLink "RaceByLapsLaw" (129 : Nat) ({ cls := "RaceByLapsModel", name := "finding", desc := "(IIII)I" } : Jvm.MethodName)) ∈ lw_tbl := tw_tb7 (List.mem_of_getElem? (i := 215) rfl)
theorem kw_1656 : (Jvm.Cond.instanceMethod ({ cls := "RaceByLapsModel", name := "finding", desc := "(IIII)I" } : Jvm.MethodName)) ∈ lw_tbl := tw_tb7 (List.mem_of_getElem? (i := 216) rfl)
theorem kw_1657 : (Jvm.Cond.selects "RaceByLapsModel" ({ cls := "RaceByLapsModel", name := "finding", desc := "(IIII)I" } : Jvm.MethodName) ({ cls := "RaceByLapsModel", name := "finding", desc := "(IIII)I" } : Jvm.MethodName)) ∈ lw_tbl := tw_tb7 (List.mem_of_getElem? (i := 217) rfl)
theorem kw_1658 : (Jvm.Cond.code ({ cls := "RaceByLapsModel", name := "finding", desc := "(IIII)I" } : Jvm.MethodName) prog_14_method_74_code (6 : Nat) (Option.some Jvm.ClassFile.FieldType.int)) ∈ lw_tbl := tw_tb7 (List.mem_of_getElem? (i := 218) rfl)
theorem kw_1659 : (Jvm.Cond.constantLong "RaceByLapsModel" (468 : Nat) (999 : Int64)) ∈ lw_tbl := tw_tb7 (List.mem_of_getElem? (i := 219) rfl)
theorem kw_1660 : (Jvm.Cond.constantLong "RaceByLapsModel" (470 : Nat) (-60000 : Int64)) ∈ lw_tbl := tw_tb7 (List.mem_of_getElem? (i := 220) rfl)
theorem kw_1661 : (Jvm.Cond.methodLink "RaceByLapsLaw" (133 : Nat) ({ cls := "RaceByLapsModel", name := "seconds", desc := "(II)I" } : Jvm.MethodName)) ∈ lw_tbl := tw_tb7 (List.mem_of_getElem? (i := 221) rfl)
theorem kw_1662 : (Jvm.Cond.instanceMethod ({ cls := "RaceByLapsModel", name := "seconds", desc := "(II)I" } : Jvm.MethodName)) ∈ lw_tbl := tw_tb7 (List.mem_of_getElem? (i := 222) rfl)
theorem kw_1663 : (Jvm.Cond.selects "RaceByLapsModel" ({ cls := "RaceByLapsModel", name := "seconds", desc := "(II)I" } : Jvm.MethodName) ({ cls := "RaceByLapsModel", name := "seconds", desc := "(II)I" } : Jvm.MethodName)) ∈ lw_tbl := tw_tb7 (List.mem_of_getElem? (i := 223) rfl)
theorem kw_1664 : (Jvm.Cond.code ({ cls := "RaceByLapsModel", name := "seconds", desc := "(II)I" } : Jvm.MethodName) prog_14_method_78_code (3 : Nat) (Option.some Jvm.ClassFile.FieldType.int)) ∈ lw_tbl := tw_tb7 (List.mem_of_getElem? (i := 224) rfl)
theorem kw_1665 : (Jvm.Cond.methodLink "RaceByLapsModel" (487 : Nat) ({ cls := "RaceByLapsModel", name := "secondsOf", desc := "(II)I" } : Jvm.MethodName)) ∈ lw_tbl := tw_tb7 (List.mem_of_getElem? (i := 225) rfl)
theorem kw_1666 : (Jvm.Cond.privateMethod ({ cls := "RaceByLapsModel", name := "secondsOf", desc := "(II)I" } : Jvm.MethodName)) ∈ lw_tbl := tw_tb7 (List.mem_of_getElem? (i := 226) rfl)
theorem kw_1667 : (Jvm.Cond.instanceMethod ({ cls := "RaceByLapsModel", name := "secondsOf", desc := "(II)I" } : Jvm.MethodName)) ∈ lw_tbl := tw_tb7 (List.mem_of_getElem? (i := 227) rfl)
theorem kw_1668 : (Jvm.Cond.code ({ cls := "RaceByLapsModel", name := "secondsOf", desc := "(II)I" } : Jvm.MethodName) prog_14_method_77_code (6 : Nat) (Option.some Jvm.ClassFile.FieldType.int)) ∈ lw_tbl := tw_tb7 (List.mem_of_getElem? (i := 228) rfl)
theorem kw_1669 : (Jvm.Cond.methodLink "RaceByLapsModel" (484 : Nat) ({ cls := "RaceByLapsModel", name := "weight", desc := "(II)I" } : Jvm.MethodName)) ∈ lw_tbl := tw_tb7 (List.mem_of_getElem? (i := 229) rfl)
theorem kw_1670 : (Jvm.Cond.privateMethod ({ cls := "RaceByLapsModel", name := "weight", desc := "(II)I" } : Jvm.MethodName)) ∈ lw_tbl := tw_tb7 (List.mem_of_getElem? (i := 230) rfl)
theorem kw_1671 : (Jvm.Cond.instanceMethod ({ cls := "RaceByLapsModel", name := "weight", desc := "(II)I" } : Jvm.MethodName)) ∈ lw_tbl := tw_tb7 (List.mem_of_getElem? (i := 231) rfl)
theorem kw_1672 : (Jvm.Cond.code ({ cls := "RaceByLapsModel", name := "weight", desc := "(II)I" } : Jvm.MethodName) prog_14_method_75_code (5 : Nat) (Option.some Jvm.ClassFile.FieldType.int)) ∈ lw_tbl := tw_tb7 (List.mem_of_getElem? (i := 232) rfl)
theorem kw_1673 : (Jvm.Cond.methodLink "RaceByLapsLaw" (137 : Nat) ({ cls := "RaceByLapsModel", name := "place", desc := "(II)I" } : Jvm.MethodName)) ∈ lw_tbl := tw_tb7 (List.mem_of_getElem? (i := 233) rfl)
theorem kw_1674 : (Jvm.Cond.instanceMethod ({ cls := "RaceByLapsModel", name := "place", desc := "(II)I" } : Jvm.MethodName)) ∈ lw_tbl := tw_tb7 (List.mem_of_getElem? (i := 234) rfl)
theorem kw_1675 : (Jvm.Cond.selects "RaceByLapsModel" ({ cls := "RaceByLapsModel", name := "place", desc := "(II)I" } : Jvm.MethodName) ({ cls := "RaceByLapsModel", name := "place", desc := "(II)I" } : Jvm.MethodName)) ∈ lw_tbl := tw_tb7 (List.mem_of_getElem? (i := 235) rfl)
theorem kw_1676 : (Jvm.Cond.code ({ cls := "RaceByLapsModel", name := "place", desc := "(II)I" } : Jvm.MethodName) prog_14_method_82_code (3 : Nat) (Option.some Jvm.ClassFile.FieldType.int)) ∈ lw_tbl := tw_tb7 (List.mem_of_getElem? (i := 236) rfl)
theorem kw_1677 : (Jvm.Cond.methodLink "RaceByLapsModel" (502 : Nat) ({ cls := "RaceByLapsModel", name := "judges", desc := "(I)V" } : Jvm.MethodName)) ∈ lw_tbl := tw_tb7 (List.mem_of_getElem? (i := 237) rfl)
theorem kw_1678 : (Jvm.Cond.privateMethod ({ cls := "RaceByLapsModel", name := "judges", desc := "(I)V" } : Jvm.MethodName)) ∈ lw_tbl := tw_tb7 (List.mem_of_getElem? (i := 238) rfl)
theorem kw_1679 : (Jvm.Cond.instanceMethod ({ cls := "RaceByLapsModel", name := "judges", desc := "(I)V" } : Jvm.MethodName)) ∈ lw_tbl := tw_tb7 (List.mem_of_getElem? (i := 239) rfl)
theorem kw_1680 : (Jvm.Cond.code ({ cls := "RaceByLapsModel", name := "judges", desc := "(I)V" } : Jvm.MethodName) prog_14_method_79_code (4 : Nat) (Option.none : Option Jvm.ClassFile.FieldType)) ∈ lw_tbl := tw_tb8 (List.mem_of_getElem? (i := 0) rfl)
theorem kw_1681 : (Jvm.Cond.methodLink "RaceByLapsModel" (496 : Nat) ({ cls := "RaceByLapsModel", name := "timeFound", desc := "(II)I" } : Jvm.MethodName)) ∈ lw_tbl := tw_tb8 (List.mem_of_getElem? (i := 1) rfl)
theorem kw_1682 : (Jvm.Cond.privateMethod ({ cls := "RaceByLapsModel", name := "timeFound", desc := "(II)I" } : Jvm.MethodName)) ∈ lw_tbl := tw_tb8 (List.mem_of_getElem? (i := 2) rfl)
theorem kw_1683 : (Jvm.Cond.instanceMethod ({ cls := "RaceByLapsModel", name := "timeFound", desc := "(II)I" } : Jvm.MethodName)) ∈ lw_tbl := tw_tb8 (List.mem_of_getElem? (i := 3) rfl)
theorem kw_1684 : (Jvm.Cond.code ({ cls := "RaceByLapsModel", name := "timeFound", desc := "(II)I" } : Jvm.MethodName) prog_14_method_76_code (5 : Nat) (Option.some Jvm.ClassFile.FieldType.int)) ∈ lw_tbl := tw_tb8 (List.mem_of_getElem? (i := 4) rfl)
theorem kw_1685 : (Jvm.Cond.methodLink "RaceByLapsModel" (505 : Nat) ({ cls := "RaceByLapsModel", name := "placeOf", desc := "(IZ)I" } : Jvm.MethodName)) ∈ lw_tbl := tw_tb8 (List.mem_of_getElem? (i := 5) rfl)
theorem kw_1686 : (Jvm.Cond.privateMethod ({ cls := "RaceByLapsModel", name := "placeOf", desc := "(IZ)I" } : Jvm.MethodName)) ∈ lw_tbl := tw_tb8 (List.mem_of_getElem? (i := 6) rfl)
theorem kw_1687 : (Jvm.Cond.instanceMethod ({ cls := "RaceByLapsModel", name := "placeOf", desc := "(IZ)I" } : Jvm.MethodName)) ∈ lw_tbl := tw_tb8 (List.mem_of_getElem? (i := 7) rfl)
theorem kw_1688 : (Jvm.Cond.code ({ cls := "RaceByLapsModel", name := "placeOf", desc := "(IZ)I" } : Jvm.MethodName) prog_14_method_81_code (5 : Nat) (Option.some Jvm.ClassFile.FieldType.int)) ∈ lw_tbl := tw_tb8 (List.mem_of_getElem? (i := 8) rfl)
theorem kw_1689 : (Jvm.Cond.methodLink "RaceByLapsModel" (499 : Nat) ({ cls := "RaceByLapsModel", name := "isBetter", desc := "(II)Z" } : Jvm.MethodName)) ∈ lw_tbl := tw_tb8 (List.mem_of_getElem? (i := 9) rfl)
theorem kw_1690 : (Jvm.Cond.privateMethod ({ cls := "RaceByLapsModel", name := "isBetter", desc := "(II)Z" } : Jvm.MethodName)) ∈ lw_tbl := tw_tb8 (List.mem_of_getElem? (i := 10) rfl)
theorem kw_1691 : (Jvm.Cond.instanceMethod ({ cls := "RaceByLapsModel", name := "isBetter", desc := "(II)Z" } : Jvm.MethodName)) ∈ lw_tbl := tw_tb8 (List.mem_of_getElem? (i := 11) rfl)
theorem kw_1692 : (Jvm.Cond.code ({ cls := "RaceByLapsModel", name := "isBetter", desc := "(II)Z" } : Jvm.MethodName) prog_14_method_80_code (5 : Nat) (Option.some Jvm.ClassFile.FieldType.boolean)) ∈ lw_tbl := tw_tb8 (List.mem_of_getElem? (i := 12) rfl)
theorem kw_1693 : (Jvm.Cond.methodLink "RaceByLapsLaw" (140 : Nat) ({ cls := "RaceByLapsModel", name := "sum", desc := "(II)I" } : Jvm.MethodName)) ∈ lw_tbl := tw_tb8 (List.mem_of_getElem? (i := 13) rfl)
theorem kw_1694 : (Jvm.Cond.instanceMethod ({ cls := "RaceByLapsModel", name := "sum", desc := "(II)I" } : Jvm.MethodName)) ∈ lw_tbl := tw_tb8 (List.mem_of_getElem? (i := 14) rfl)
theorem kw_1695 : (Jvm.Cond.selects "RaceByLapsModel" ({ cls := "RaceByLapsModel", name := "sum", desc := "(II)I" } : Jvm.MethodName) ({ cls := "RaceByLapsModel", name := "sum", desc := "(II)I" } : Jvm.MethodName)) ∈ lw_tbl := tw_tb8 (List.mem_of_getElem? (i := 15) rfl)
theorem kw_1696 : (Jvm.Cond.code ({ cls := "RaceByLapsModel", name := "sum", desc := "(II)I" } : Jvm.MethodName) prog_14_method_83_code (3 : Nat) (Option.some Jvm.ClassFile.FieldType.int)) ∈ lw_tbl := tw_tb8 (List.mem_of_getElem? (i := 16) rfl)
theorem kw_1697 : (Jvm.Cond.methodLink "RaceByLapsLaw" (144 : Nat) ({ cls := "RaceByLapsModel", name := "within", desc := "(II)I" } : Jvm.MethodName)) ∈ lw_tbl := tw_tb8 (List.mem_of_getElem? (i := 17) rfl)
theorem kw_1698 : (Jvm.Cond.instanceMethod ({ cls := "RaceByLapsModel", name := "within", desc := "(II)I" } : Jvm.MethodName)) ∈ lw_tbl := tw_tb8 (List.mem_of_getElem? (i := 18) rfl)
theorem kw_1699 : (Jvm.Cond.selects "RaceByLapsModel" ({ cls := "RaceByLapsModel", name := "within", desc := "(II)I" } : Jvm.MethodName) ({ cls := "RaceByLapsModel", name := "within", desc := "(II)I" } : Jvm.MethodName)) ∈ lw_tbl := tw_tb8 (List.mem_of_getElem? (i := 19) rfl)
theorem kw_1700 : (Jvm.Cond.code ({ cls := "RaceByLapsModel", name := "within", desc := "(II)I" } : Jvm.MethodName) prog_14_method_84_code (3 : Nat) (Option.some Jvm.ClassFile.FieldType.int)) ∈ lw_tbl := tw_tb8 (List.mem_of_getElem? (i := 20) rfl)
theorem kw_1701 : (Jvm.Cond.methodLink "RaceByLapsLaw" (148 : Nat) ({ cls := "RaceByLapsModel", name := "result", desc := "(I)I" } : Jvm.MethodName)) ∈ lw_tbl := tw_tb8 (List.mem_of_getElem? (i := 21) rfl)
theorem kw_1702 : (Jvm.Cond.instanceMethod ({ cls := "RaceByLapsModel", name := "result", desc := "(I)I" } : Jvm.MethodName)) ∈ lw_tbl := tw_tb8 (List.mem_of_getElem? (i := 22) rfl)
theorem kw_1703 : (Jvm.Cond.selects "RaceByLapsModel" ({ cls := "RaceByLapsModel", name := "result", desc := "(I)I" } : Jvm.MethodName) ({ cls := "RaceByLapsModel", name := "result", desc := "(I)I" } : Jvm.MethodName)) ∈ lw_tbl := tw_tb8 (List.mem_of_getElem? (i := 23) rfl)
theorem kw_1704 : (Jvm.Cond.code ({ cls := "RaceByLapsModel", name := "result", desc := "(I)I" } : Jvm.MethodName) prog_14_method_85_code (3 : Nat) (Option.some Jvm.ClassFile.FieldType.int)) ∈ lw_tbl := tw_tb8 (List.mem_of_getElem? (i := 24) rfl)
theorem kw_1705 : (Jvm.Cond.methodLink "RaceByLapsLaw" (152 : Nat) ({ cls := "RaceByLapsModel", name := "move", desc := "(IIII)I" } : Jvm.MethodName)) ∈ lw_tbl := tw_tb8 (List.mem_of_getElem? (i := 25) rfl)
theorem kw_1706 : (Jvm.Cond.instanceMethod ({ cls := "RaceByLapsModel", name := "move", desc := "(IIII)I" } : Jvm.MethodName)) ∈ lw_tbl := tw_tb8 (List.mem_of_getElem? (i := 26) rfl)
theorem kw_1707 : (Jvm.Cond.selects "RaceByLapsModel" ({ cls := "RaceByLapsModel", name := "move", desc := "(IIII)I" } : Jvm.MethodName) ({ cls := "RaceByLapsModel", name := "move", desc := "(IIII)I" } : Jvm.MethodName)) ∈ lw_tbl := tw_tb8 (List.mem_of_getElem? (i := 27) rfl)
theorem kw_1708 : (Jvm.Cond.code ({ cls := "RaceByLapsModel", name := "move", desc := "(IIII)I" } : Jvm.MethodName) prog_14_method_86_code (8 : Nat) (Option.some Jvm.ClassFile.FieldType.int)) ∈ lw_tbl := tw_tb8 (List.mem_of_getElem? (i := 28) rfl)
theorem kw_1709 : (Jvm.Cond.methodLink "RaceByLapsLaw" (156 : Nat) ({ cls := "RaceByLapsModel", name := "best", desc := "(III)I" } : Jvm.MethodName)) ∈ lw_tbl := tw_tb8 (List.mem_of_getElem? (i := 29) rfl)
theorem kw_1710 : (Jvm.Cond.instanceMethod ({ cls := "RaceByLapsModel", name := "best", desc := "(III)I" } : Jvm.MethodName)) ∈ lw_tbl := tw_tb8 (List.mem_of_getElem? (i := 30) rfl)
theorem kw_1711 : (Jvm.Cond.selects "RaceByLapsModel" ({ cls := "RaceByLapsModel", name := "best", desc := "(III)I" } : Jvm.MethodName) ({ cls := "RaceByLapsModel", name := "best", desc := "(III)I" } : Jvm.MethodName)) ∈ lw_tbl := tw_tb8 (List.mem_of_getElem? (i := 31) rfl)
theorem kw_1712 : (Jvm.Cond.code ({ cls := "RaceByLapsModel", name := "best", desc := "(III)I" } : Jvm.MethodName) prog_14_method_93_code (5 : Nat) (Option.some Jvm.ClassFile.FieldType.int)) ∈ lw_tbl := tw_tb8 (List.mem_of_getElem? (i := 32) rfl)
theorem kw_1713 : (Jvm.Cond.methodLink "RaceByLapsModel" (553 : Nat) ({ cls := "RaceByLapsModel", name := "isAsked", desc := "(III)Z" } : Jvm.MethodName)) ∈ lw_tbl := tw_tb8 (List.mem_of_getElem? (i := 33) rfl)
theorem kw_1714 : (Jvm.Cond.privateMethod ({ cls := "RaceByLapsModel", name := "isAsked", desc := "(III)Z" } : Jvm.MethodName)) ∈ lw_tbl := tw_tb8 (List.mem_of_getElem? (i := 34) rfl)
theorem kw_1715 : (Jvm.Cond.instanceMethod ({ cls := "RaceByLapsModel", name := "isAsked", desc := "(III)Z" } : Jvm.MethodName)) ∈ lw_tbl := tw_tb8 (List.mem_of_getElem? (i := 35) rfl)
theorem kw_1716 : (Jvm.Cond.code ({ cls := "RaceByLapsModel", name := "isAsked", desc := "(III)Z" } : Jvm.MethodName) prog_14_method_92_code (4 : Nat) (Option.some Jvm.ClassFile.FieldType.boolean)) ∈ lw_tbl := tw_tb8 (List.mem_of_getElem? (i := 36) rfl)
theorem kw_1717 : (Jvm.Cond.methodLink "RaceByLapsModel" (557 : Nat) ({ cls := "RaceByLapsModel", name := "bests", desc := "(III)Z" } : Jvm.MethodName)) ∈ lw_tbl := tw_tb8 (List.mem_of_getElem? (i := 37) rfl)
theorem kw_1718 : (Jvm.Cond.privateMethod ({ cls := "RaceByLapsModel", name := "bests", desc := "(III)Z" } : Jvm.MethodName)) ∈ lw_tbl := tw_tb8 (List.mem_of_getElem? (i := 38) rfl)
theorem kw_1719 : (Jvm.Cond.instanceMethod ({ cls := "RaceByLapsModel", name := "bests", desc := "(III)Z" } : Jvm.MethodName)) ∈ lw_tbl := tw_tb8 (List.mem_of_getElem? (i := 39) rfl)
theorem kw_1720 : (Jvm.Cond.code ({ cls := "RaceByLapsModel", name := "bests", desc := "(III)Z" } : Jvm.MethodName) prog_14_method_91_code (8 : Nat) (Option.some Jvm.ClassFile.FieldType.boolean)) ∈ lw_tbl := tw_tb8 (List.mem_of_getElem? (i := 40) rfl)
theorem kw_1721 : (Jvm.Cond.methodLink "RaceByLapsModel" (543 : Nat) ({ cls := "RaceByLapsModel", name := "clears", desc := "(I)V" } : Jvm.MethodName)) ∈ lw_tbl := tw_tb8 (List.mem_of_getElem? (i := 41) rfl)
theorem kw_1722 : (Jvm.Cond.privateMethod ({ cls := "RaceByLapsModel", name := "clears", desc := "(I)V" } : Jvm.MethodName)) ∈ lw_tbl := tw_tb8 (List.mem_of_getElem? (i := 42) rfl)
theorem kw_1723 : (Jvm.Cond.instanceMethod ({ cls := "RaceByLapsModel", name := "clears", desc := "(I)V" } : Jvm.MethodName)) ∈ lw_tbl := tw_tb8 (List.mem_of_getElem? (i := 43) rfl)
theorem kw_1724 : (Jvm.Cond.code ({ cls := "RaceByLapsModel", name := "clears", desc := "(I)V" } : Jvm.MethodName) prog_14_method_87_code (3 : Nat) (Option.none : Option Jvm.ClassFile.FieldType)) ∈ lw_tbl := tw_tb8 (List.mem_of_getElem? (i := 44) rfl)
theorem kw_1725 : (Jvm.Cond.methodLink "RaceByLapsModel" (546 : Nat) ({ cls := "RaceByLapsModel", name := "tries", desc := "(IIIIIII)V" } : Jvm.MethodName)) ∈ lw_tbl := tw_tb8 (List.mem_of_getElem? (i := 45) rfl)
theorem kw_1726 : (Jvm.Cond.privateMethod ({ cls := "RaceByLapsModel", name := "tries", desc := "(IIIIIII)V" } : Jvm.MethodName)) ∈ lw_tbl := tw_tb8 (List.mem_of_getElem? (i := 46) rfl)
theorem kw_1727 : (Jvm.Cond.instanceMethod ({ cls := "RaceByLapsModel", name := "tries", desc := "(IIIIIII)V" } : Jvm.MethodName)) ∈ lw_tbl := tw_tb8 (List.mem_of_getElem? (i := 47) rfl)
theorem kw_1728 : (Jvm.Cond.code ({ cls := "RaceByLapsModel", name := "tries", desc := "(IIIIIII)V" } : Jvm.MethodName) prog_14_method_90_code (9 : Nat) (Option.none : Option Jvm.ClassFile.FieldType)) ∈ lw_tbl := tw_tb8 (List.mem_of_getElem? (i := 48) rfl)
theorem kw_1729 : (Jvm.Cond.methodLink "RaceByLapsModel" (533 : Nat) ({ cls := "RaceByLapsModel", name := "isAhead", desc := "(IIII)Z" } : Jvm.MethodName)) ∈ lw_tbl := tw_tb8 (List.mem_of_getElem? (i := 49) rfl)
theorem kw_1730 : (Jvm.Cond.static ({ cls := "RaceByLapsModel", name := "isAhead", desc := "(IIII)Z" } : Jvm.MethodName)) ∈ lw_tbl := tw_tb8 (List.mem_of_getElem? (i := 50) rfl)
theorem kw_1731 : (Jvm.Cond.code ({ cls := "RaceByLapsModel", name := "isAhead", desc := "(IIII)Z" } : Jvm.MethodName) prog_14_method_89_code (4 : Nat) (Option.some Jvm.ClassFile.FieldType.boolean)) ∈ lw_tbl := tw_tb8 (List.mem_of_getElem? (i := 51) rfl)
theorem kw_1732 : (Jvm.Cond.methodLink "RaceByLapsModel" (550 : Nat) ({ cls := "RaceByLapsModel", name := "putsBack", desc := "(I)V" } : Jvm.MethodName)) ∈ lw_tbl := tw_tb8 (List.mem_of_getElem? (i := 52) rfl)
theorem kw_1733 : (Jvm.Cond.privateMethod ({ cls := "RaceByLapsModel", name := "putsBack", desc := "(I)V" } : Jvm.MethodName)) ∈ lw_tbl := tw_tb8 (List.mem_of_getElem? (i := 53) rfl)
theorem kw_1734 : (Jvm.Cond.instanceMethod ({ cls := "RaceByLapsModel", name := "putsBack", desc := "(I)V" } : Jvm.MethodName)) ∈ lw_tbl := tw_tb8 (List.mem_of_getElem? (i := 54) rfl)
theorem kw_1735 : (Jvm.Cond.code ({ cls := "RaceByLapsModel", name := "putsBack", desc := "(I)V" } : Jvm.MethodName) prog_14_method_88_code (3 : Nat) (Option.none : Option Jvm.ClassFile.FieldType)) ∈ lw_tbl := tw_tb8 (List.mem_of_getElem? (i := 55) rfl)
theorem kw_1736 : (Jvm.Cond.methodLink "RaceByLapsLaw" (160 : Nat) ({ cls := "RaceByLapsModel", name := "gain", desc := "(III)I" } : Jvm.MethodName)) ∈ lw_tbl := tw_tb8 (List.mem_of_getElem? (i := 56) rfl)
theorem kw_1737 : (Jvm.Cond.instanceMethod ({ cls := "RaceByLapsModel", name := "gain", desc := "(III)I" } : Jvm.MethodName)) ∈ lw_tbl := tw_tb8 (List.mem_of_getElem? (i := 57) rfl)
theorem kw_1738 : (Jvm.Cond.selects "RaceByLapsModel" ({ cls := "RaceByLapsModel", name := "gain", desc := "(III)I" } : Jvm.MethodName) ({ cls := "RaceByLapsModel", name := "gain", desc := "(III)I" } : Jvm.MethodName)) ∈ lw_tbl := tw_tb8 (List.mem_of_getElem? (i := 58) rfl)
theorem kw_1739 : (Jvm.Cond.code ({ cls := "RaceByLapsModel", name := "gain", desc := "(III)I" } : Jvm.MethodName) prog_14_method_94_code (6 : Nat) (Option.some Jvm.ClassFile.FieldType.int)) ∈ lw_tbl := tw_tb8 (List.mem_of_getElem? (i := 59) rfl)
theorem kw_1740 : (Jvm.Cond.methodLink "RaceByLapsLaw" (164 : Nat) ({ cls := "RaceByLapsModel", name := "option", desc := "(III)I" } : Jvm.MethodName)) ∈ lw_tbl := tw_tb8 (List.mem_of_getElem? (i := 60) rfl)
theorem kw_1741 : (Jvm.Cond.instanceMethod ({ cls := "RaceByLapsModel", name := "option", desc := "(III)I" } : Jvm.MethodName)) ∈ lw_tbl := tw_tb8 (List.mem_of_getElem? (i := 61) rfl)
theorem kw_1742 : (Jvm.Cond.selects "RaceByLapsModel" ({ cls := "RaceByLapsModel", name := "option", desc := "(III)I" } : Jvm.MethodName) ({ cls := "RaceByLapsModel", name := "option", desc := "(III)I" } : Jvm.MethodName)) ∈ lw_tbl := tw_tb8 (List.mem_of_getElem? (i := 62) rfl)
theorem kw_1743 : (Jvm.Cond.code ({ cls := "RaceByLapsModel", name := "option", desc := "(III)I" } : Jvm.MethodName) prog_14_method_95_code (5 : Nat) (Option.some Jvm.ClassFile.FieldType.int)) ∈ lw_tbl := tw_tb8 (List.mem_of_getElem? (i := 63) rfl)
theorem kw_1744 : (Jvm.Cond.methodLink "RaceByLapsLaw" (168 : Nat) ({ cls := "RaceByLapsModel", name := "clear", desc := "()I" } : Jvm.MethodName)) ∈ lw_tbl := tw_tb8 (List.mem_of_getElem? (i := 64) rfl)
theorem kw_1745 : (Jvm.Cond.instanceMethod ({ cls := "RaceByLapsModel", name := "clear", desc := "()I" } : Jvm.MethodName)) ∈ lw_tbl := tw_tb8 (List.mem_of_getElem? (i := 65) rfl)
theorem kw_1746 : (Jvm.Cond.selects "RaceByLapsModel" ({ cls := "RaceByLapsModel", name := "clear", desc := "()I" } : Jvm.MethodName) ({ cls := "RaceByLapsModel", name := "clear", desc := "()I" } : Jvm.MethodName)) ∈ lw_tbl := tw_tb8 (List.mem_of_getElem? (i := 66) rfl)
theorem kw_1747 : (Jvm.Cond.code ({ cls := "RaceByLapsModel", name := "clear", desc := "()I" } : Jvm.MethodName) prog_14_method_96_code (3 : Nat) (Option.some Jvm.ClassFile.FieldType.int)) ∈ lw_tbl := tw_tb8 (List.mem_of_getElem? (i := 67) rfl)
theorem kw_1748 : (Jvm.Cond.methodLink "RaceByLapsLaw" (172 : Nat) ({ cls := "RaceByLapsModel", name := "settle", desc := "(III)I" } : Jvm.MethodName)) ∈ lw_tbl := tw_tb8 (List.mem_of_getElem? (i := 68) rfl)
theorem kw_1749 : (Jvm.Cond.instanceMethod ({ cls := "RaceByLapsModel", name := "settle", desc := "(III)I" } : Jvm.MethodName)) ∈ lw_tbl := tw_tb8 (List.mem_of_getElem? (i := 69) rfl)
theorem kw_1750 : (Jvm.Cond.selects "RaceByLapsModel" ({ cls := "RaceByLapsModel", name := "settle", desc := "(III)I" } : Jvm.MethodName) ({ cls := "RaceByLapsModel", name := "settle", desc := "(III)I" } : Jvm.MethodName)) ∈ lw_tbl := tw_tb8 (List.mem_of_getElem? (i := 70) rfl)
theorem kw_1751 : (Jvm.Cond.code ({ cls := "RaceByLapsModel", name := "settle", desc := "(III)I" } : Jvm.MethodName) prog_14_method_98_code (6 : Nat) (Option.some Jvm.ClassFile.FieldType.int)) ∈ lw_tbl := tw_tb8 (List.mem_of_getElem? (i := 71) rfl)
theorem kw_1752 : (Jvm.Cond.methodLink "RaceByLapsModel" (566 : Nat) ({ cls := "RaceByLapsModel", name := "chooses", desc := "(II)V" } : Jvm.MethodName)) ∈ lw_tbl := tw_tb8 (List.mem_of_getElem? (i := 72) rfl)
theorem kw_1753 : (Jvm.Cond.privateMethod ({ cls := "RaceByLapsModel", name := "chooses", desc := "(II)V" } : Jvm.MethodName)) ∈ lw_tbl := tw_tb8 (List.mem_of_getElem? (i := 73) rfl)
theorem kw_1754 : (Jvm.Cond.instanceMethod ({ cls := "RaceByLapsModel", name := "chooses", desc := "(II)V" } : Jvm.MethodName)) ∈ lw_tbl := tw_tb8 (List.mem_of_getElem? (i := 74) rfl)
theorem kw_1755 : (Jvm.Cond.code ({ cls := "RaceByLapsModel", name := "chooses", desc := "(II)V" } : Jvm.MethodName) prog_14_method_97_code (3 : Nat) (Option.none : Option Jvm.ClassFile.FieldType)) ∈ lw_tbl := tw_tb8 (List.mem_of_getElem? (i := 75) rfl)
theorem kw_1756 : (Jvm.Cond.methodLink "RaceByLapsModel" (581 : Nat) ({ cls := "RaceByLapsModel", name := "isSettled", desc := "(IIII)Z" } : Jvm.MethodName)) ∈ lw_tbl := tw_tb8 (List.mem_of_getElem? (i := 76) rfl)
theorem kw_1757 : (Jvm.Cond.privateMethod ({ cls := "RaceByLapsModel", name := "isSettled", desc := "(IIII)Z" } : Jvm.MethodName)) ∈ lw_tbl := tw_tb8 (List.mem_of_getElem? (i := 77) rfl)
theorem kw_1758 : (Jvm.Cond.instanceMethod ({ cls := "RaceByLapsModel", name := "isSettled", desc := "(IIII)Z" } : Jvm.MethodName)) ∈ lw_tbl := tw_tb8 (List.mem_of_getElem? (i := 78) rfl)
theorem kw_1759 : (Jvm.Cond.code ({ cls := "RaceByLapsModel", name := "isSettled", desc := "(IIII)Z" } : Jvm.MethodName) prog_14_method_99_code (8 : Nat) (Option.some Jvm.ClassFile.FieldType.boolean)) ∈ lw_tbl := tw_tb8 (List.mem_of_getElem? (i := 79) rfl)
theorem kw_1760 : (Jvm.Cond.methodLink "RaceByLapsLaw" (177 : Nat) ({ cls := "RaceByLapsModel", name := "lost", desc := "(IZ)Z" } : Jvm.MethodName)) ∈ lw_tbl := tw_tb8 (List.mem_of_getElem? (i := 80) rfl)
theorem kw_1761 : (Jvm.Cond.instanceMethod ({ cls := "RaceByLapsModel", name := "lost", desc := "(IZ)Z" } : Jvm.MethodName)) ∈ lw_tbl := tw_tb8 (List.mem_of_getElem? (i := 81) rfl)
theorem kw_1762 : (Jvm.Cond.selects "RaceByLapsModel" ({ cls := "RaceByLapsModel", name := "lost", desc := "(IZ)Z" } : Jvm.MethodName) ({ cls := "RaceByLapsModel", name := "lost", desc := "(IZ)Z" } : Jvm.MethodName)) ∈ lw_tbl := tw_tb8 (List.mem_of_getElem? (i := 82) rfl)
theorem kw_1763 : (Jvm.Cond.code ({ cls := "RaceByLapsModel", name := "lost", desc := "(IZ)Z" } : Jvm.MethodName) prog_14_method_100_code (3 : Nat) (Option.some Jvm.ClassFile.FieldType.boolean)) ∈ lw_tbl := tw_tb8 (List.mem_of_getElem? (i := 83) rfl)
theorem kw_1764 : (Jvm.Cond.methodLink "RaceByLapsLaw" (181 : Nat) ({ cls := "RaceByLapsModel", name := "known", desc := "(IIII)I" } : Jvm.MethodName)) ∈ lw_tbl := tw_tb8 (List.mem_of_getElem? (i := 84) rfl)
theorem kw_1765 : (Jvm.Cond.instanceMethod ({ cls := "RaceByLapsModel", name := "known", desc := "(IIII)I" } : Jvm.MethodName)) ∈ lw_tbl := tw_tb8 (List.mem_of_getElem? (i := 85) rfl)
theorem kw_1766 : (Jvm.Cond.selects "RaceByLapsModel" ({ cls := "RaceByLapsModel", name := "known", desc := "(IIII)I" } : Jvm.MethodName) ({ cls := "RaceByLapsModel", name := "known", desc := "(IIII)I" } : Jvm.MethodName)) ∈ lw_tbl := tw_tb8 (List.mem_of_getElem? (i := 86) rfl)
theorem kw_1767 : (Jvm.Cond.code ({ cls := "RaceByLapsModel", name := "known", desc := "(IIII)I" } : Jvm.MethodName) prog_14_method_102_code (5 : Nat) (Option.some Jvm.ClassFile.FieldType.int)) ∈ lw_tbl := tw_tb8 (List.mem_of_getElem? (i := 87) rfl)
theorem kw_1768 : (Jvm.Cond.methodLink "RaceByLapsModel" (584 : Nat) ({ cls := "RaceByLapsModel", name := "knownOf", desc := "(III)I" } : Jvm.MethodName)) ∈ lw_tbl := tw_tb8 (List.mem_of_getElem? (i := 88) rfl)
theorem kw_1769 : (Jvm.Cond.privateMethod ({ cls := "RaceByLapsModel", name := "knownOf", desc := "(III)I" } : Jvm.MethodName)) ∈ lw_tbl := tw_tb8 (List.mem_of_getElem? (i := 89) rfl)
theorem kw_1770 : (Jvm.Cond.instanceMethod ({ cls := "RaceByLapsModel", name := "knownOf", desc := "(III)I" } : Jvm.MethodName)) ∈ lw_tbl := tw_tb8 (List.mem_of_getElem? (i := 90) rfl)
theorem kw_1771 : (Jvm.Cond.code ({ cls := "RaceByLapsModel", name := "knownOf", desc := "(III)I" } : Jvm.MethodName) prog_14_method_101_code (7 : Nat) (Option.some Jvm.ClassFile.FieldType.int)) ∈ lw_tbl := tw_tb8 (List.mem_of_getElem? (i := 91) rfl)
theorem kw_1772 : (Jvm.Cond.methodLink "RaceByLapsLaw" (185 : Nat) ({ cls := "RaceByLapsModel", name := "ahead", desc := "(IIII)I" } : Jvm.MethodName)) ∈ lw_tbl := tw_tb8 (List.mem_of_getElem? (i := 92) rfl)
theorem kw_1773 : (Jvm.Cond.instanceMethod ({ cls := "RaceByLapsModel", name := "ahead", desc := "(IIII)I" } : Jvm.MethodName)) ∈ lw_tbl := tw_tb8 (List.mem_of_getElem? (i := 93) rfl)
theorem kw_1774 : (Jvm.Cond.selects "RaceByLapsModel" ({ cls := "RaceByLapsModel", name := "ahead", desc := "(IIII)I" } : Jvm.MethodName) ({ cls := "RaceByLapsModel", name := "ahead", desc := "(IIII)I" } : Jvm.MethodName)) ∈ lw_tbl := tw_tb8 (List.mem_of_getElem? (i := 94) rfl)
theorem kw_1775 : (Jvm.Cond.code ({ cls := "RaceByLapsModel", name := "ahead", desc := "(IIII)I" } : Jvm.MethodName) prog_14_method_103_code (7 : Nat) (Option.some Jvm.ClassFile.FieldType.int)) ∈ lw_tbl := tw_tb8 (List.mem_of_getElem? (i := 95) rfl)
theorem kw_1776 : (Jvm.Cond.methodLink "RaceByLapsLaw" (189 : Nat) ({ cls := "RaceByLapsModel", name := "wall", desc := "(II)I" } : Jvm.MethodName)) ∈ lw_tbl := tw_tb8 (List.mem_of_getElem? (i := 96) rfl)
theorem kw_1777 : (Jvm.Cond.instanceMethod ({ cls := "RaceByLapsModel", name := "wall", desc := "(II)I" } : Jvm.MethodName)) ∈ lw_tbl := tw_tb8 (List.mem_of_getElem? (i := 97) rfl)
theorem kw_1778 : (Jvm.Cond.selects "RaceByLapsModel" ({ cls := "RaceByLapsModel", name := "wall", desc := "(II)I" } : Jvm.MethodName) ({ cls := "RaceByLapsModel", name := "wall", desc := "(II)I" } : Jvm.MethodName)) ∈ lw_tbl := tw_tb8 (List.mem_of_getElem? (i := 98) rfl)
theorem kw_1779 : (Jvm.Cond.code ({ cls := "RaceByLapsModel", name := "wall", desc := "(II)I" } : Jvm.MethodName) prog_14_method_105_code (9 : Nat) (Option.some Jvm.ClassFile.FieldType.int)) ∈ lw_tbl := tw_tb8 (List.mem_of_getElem? (i := 99) rfl)
theorem kw_1780 : (Jvm.Cond.methodLink "RaceByLapsModel" (587 : Nat) ({ cls := "RaceByLapsModel", name := "toldLine", desc := "(II)I" } : Jvm.MethodName)) ∈ lw_tbl := tw_tb8 (List.mem_of_getElem? (i := 100) rfl)
theorem kw_1781 : (Jvm.Cond.privateMethod ({ cls := "RaceByLapsModel", name := "toldLine", desc := "(II)I" } : Jvm.MethodName)) ∈ lw_tbl := tw_tb8 (List.mem_of_getElem? (i := 101) rfl)
theorem kw_1782 : (Jvm.Cond.instanceMethod ({ cls := "RaceByLapsModel", name := "toldLine", desc := "(II)I" } : Jvm.MethodName)) ∈ lw_tbl := tw_tb8 (List.mem_of_getElem? (i := 102) rfl)
theorem kw_1783 : (Jvm.Cond.code ({ cls := "RaceByLapsModel", name := "toldLine", desc := "(II)I" } : Jvm.MethodName) prog_14_method_104_code (6 : Nat) (Option.some Jvm.ClassFile.FieldType.int)) ∈ lw_tbl := tw_tb8 (List.mem_of_getElem? (i := 103) rfl)
theorem kw_1784 : (Jvm.Cond.methodLink "RaceByLapsLaw" (193 : Nat) ({ cls := "RaceByLapsModel", name := "why", desc := "(II)I" } : Jvm.MethodName)) ∈ lw_tbl := tw_tb8 (List.mem_of_getElem? (i := 104) rfl)
theorem kw_1785 : (Jvm.Cond.instanceMethod ({ cls := "RaceByLapsModel", name := "why", desc := "(II)I" } : Jvm.MethodName)) ∈ lw_tbl := tw_tb8 (List.mem_of_getElem? (i := 105) rfl)
theorem kw_1786 : (Jvm.Cond.selects "RaceByLapsModel" ({ cls := "RaceByLapsModel", name := "why", desc := "(II)I" } : Jvm.MethodName) ({ cls := "RaceByLapsModel", name := "why", desc := "(II)I" } : Jvm.MethodName)) ∈ lw_tbl := tw_tb8 (List.mem_of_getElem? (i := 106) rfl)
theorem kw_1787 : (Jvm.Cond.code ({ cls := "RaceByLapsModel", name := "why", desc := "(II)I" } : Jvm.MethodName) prog_14_method_106_code (3 : Nat) (Option.some Jvm.ClassFile.FieldType.int)) ∈ lw_tbl := tw_tb8 (List.mem_of_getElem? (i := 107) rfl)
theorem kw_1788 : (Jvm.Cond.classLink "RaceByLapsLaw" (23 : Nat) "RaceByLapsModel") ∈ lw_tbl := tw_tb8 (List.mem_of_getElem? (i := 108) rfl)
theorem kw_1789 : (Jvm.Cond.methodLink "RaceByLapsLaw" (25 : Nat) ({ cls := "RaceByLapsModel", name := "<init>", desc := "()V" } : Jvm.MethodName)) ∈ lw_tbl := tw_tb8 (List.mem_of_getElem? (i := 109) rfl)
theorem kw_1790 : (Jvm.Cond.instanceMethod ({ cls := "RaceByLapsModel", name := "<init>", desc := "()V" } : Jvm.MethodName)) ∈ lw_tbl := tw_tb8 (List.mem_of_getElem? (i := 110) rfl)
theorem kw_1791 : (Jvm.Cond.code ({ cls := "RaceByLapsModel", name := "<init>", desc := "()V" } : Jvm.MethodName) prog_14_method_107_code (2 : Nat) (Option.none : Option Jvm.ClassFile.FieldType)) ∈ lw_tbl := tw_tb8 (List.mem_of_getElem? (i := 111) rfl)
theorem kw_1792 : (Jvm.Cond.methodLink "RaceByLapsModel" (590 : Nat) ({ cls := "java/lang/Object", name := "<init>", desc := "()V" } : Jvm.MethodName)) ∈ lw_tbl := tw_tb8 (List.mem_of_getElem? (i := 112) rfl)
theorem kw_1793 : (Jvm.Cond.stringRef "RaceByLapsModel" (595 : Nat) "") ∈ lw_tbl := tw_tb8 (List.mem_of_getElem? (i := 113) rfl)
theorem kw_1794 : (Jvm.Cond.fieldLink "RaceByLapsModel" (3 : Nat) "RaceByLapsModel" "thrown" "I") ∈ lw_tbl := tw_tb8 (List.mem_of_getElem? (i := 114) rfl)
theorem kw_1795 : (Jvm.Cond.fieldLink "RaceByLapsModel" (7 : Nat) "RaceByLapsModel" "sectors" "I") ∈ lw_tbl := tw_tb8 (List.mem_of_getElem? (i := 115) rfl)
theorem kw_1796 : (Jvm.Cond.fieldLink "RaceByLapsModel" (10 : Nat) "RaceByLapsModel" "laps" "I") ∈ lw_tbl := tw_tb8 (List.mem_of_getElem? (i := 116) rfl)
theorem kw_1797 : (Jvm.Cond.fieldLink "RaceByLapsModel" (13 : Nat) "RaceByLapsModel" "length" "[I") ∈ lw_tbl := tw_tb8 (List.mem_of_getElem? (i := 117) rfl)
theorem kw_1798 : (Jvm.Cond.fieldLink "RaceByLapsModel" (17 : Nat) "RaceByLapsModel" "ease" "[I") ∈ lw_tbl := tw_tb8 (List.mem_of_getElem? (i := 118) rfl)
theorem kw_1799 : (Jvm.Cond.fieldLink "RaceByLapsModel" (20 : Nat) "RaceByLapsModel" "isLost" "[Z") ∈ lw_tbl := tw_tb8 (List.mem_of_getElem? (i := 119) rfl)
theorem kw_1800 : (Jvm.Cond.fieldLink "RaceByLapsModel" (72 : Nat) "RaceByLapsModel" "tyre" "[I") ∈ lw_tbl := tw_tb8 (List.mem_of_getElem? (i := 120) rfl)
theorem kw_1801 : (Jvm.Cond.fieldLink "RaceByLapsModel" (83 : Nat) "RaceByLapsModel" "number" "[I") ∈ lw_tbl := tw_tb8 (List.mem_of_getElem? (i := 121) rfl)
theorem kw_1802 : (Jvm.Cond.fieldLink "RaceByLapsModel" (24 : Nat) "RaceByLapsModel" "rains" "I") ∈ lw_tbl := tw_tb8 (List.mem_of_getElem? (i := 122) rfl)
theorem kw_1803 : (Jvm.Cond.fieldLink "RaceByLapsModel" (86 : Nat) "RaceByLapsModel" "rainSector" "[I") ∈ lw_tbl := tw_tb8 (List.mem_of_getElem? (i := 123) rfl)
theorem kw_1804 : (Jvm.Cond.fieldLink "RaceByLapsModel" (89 : Nat) "RaceByLapsModel" "rainTime" "[I") ∈ lw_tbl := tw_tb8 (List.mem_of_getElem? (i := 124) rfl)
theorem kw_1805 : (Jvm.Cond.fieldLink "RaceByLapsModel" (92 : Nat) "RaceByLapsModel" "rainWet" "[I") ∈ lw_tbl := tw_tb8 (List.mem_of_getElem? (i := 125) rfl)
theorem kw_1806 : (Jvm.Cond.fieldLink "RaceByLapsModel" (27 : Nat) "RaceByLapsModel" "flags" "I") ∈ lw_tbl := tw_tb8 (List.mem_of_getElem? (i := 126) rfl)
theorem kw_1807 : (Jvm.Cond.fieldLink "RaceByLapsModel" (95 : Nat) "RaceByLapsModel" "flagSector" "[I") ∈ lw_tbl := tw_tb8 (List.mem_of_getElem? (i := 127) rfl)
theorem kw_1808 : (Jvm.Cond.fieldLink "RaceByLapsModel" (98 : Nat) "RaceByLapsModel" "flagFrom" "[I") ∈ lw_tbl := tw_tb8 (List.mem_of_getElem? (i := 128) rfl)
theorem kw_1809 : (Jvm.Cond.fieldLink "RaceByLapsModel" (101 : Nat) "RaceByLapsModel" "flagTo" "[I") ∈ lw_tbl := tw_tb8 (List.mem_of_getElem? (i := 129) rfl)
theorem kw_1810 : (Jvm.Cond.fieldLink "RaceByLapsModel" (104 : Nat) "RaceByLapsModel" "flagKind" "[I") ∈ lw_tbl := tw_tb8 (List.mem_of_getElem? (i := 130) rfl)
theorem kw_1811 : (Jvm.Cond.fieldLink "RaceByLapsModel" (30 : Nat) "RaceByLapsModel" "cars" "I") ∈ lw_tbl := tw_tb8 (List.mem_of_getElem? (i := 131) rfl)
theorem kw_1812 : (Jvm.Cond.fieldLink "RaceByLapsModel" (115 : Nat) "RaceByLapsModel" "off" "[I") ∈ lw_tbl := tw_tb8 (List.mem_of_getElem? (i := 132) rfl)
theorem kw_1813 : (Jvm.Cond.fieldLink "RaceByLapsModel" (118 : Nat) "RaceByLapsModel" "tank" "[I") ∈ lw_tbl := tw_tb8 (List.mem_of_getElem? (i := 133) rfl)
theorem kw_1814 : (Jvm.Cond.fieldLink "RaceByLapsModel" (121 : Nat) "RaceByLapsModel" "burn" "[I") ∈ lw_tbl := tw_tb8 (List.mem_of_getElem? (i := 134) rfl)
theorem kw_1815 : (Jvm.Cond.fieldLink "RaceByLapsModel" (124 : Nat) "RaceByLapsModel" "team" "[I") ∈ lw_tbl := tw_tb8 (List.mem_of_getElem? (i := 135) rfl)
theorem kw_1816 : (Jvm.Cond.fieldLink "RaceByLapsModel" (127 : Nat) "RaceByLapsModel" "clas" "[I") ∈ lw_tbl := tw_tb8 (List.mem_of_getElem? (i := 136) rfl)
theorem kw_1817 : (Jvm.Cond.fieldLink "RaceByLapsModel" (130 : Nat) "RaceByLapsModel" "startFuel" "[I") ∈ lw_tbl := tw_tb8 (List.mem_of_getElem? (i := 137) rfl)
theorem kw_1818 : (Jvm.Cond.fieldLink "RaceByLapsModel" (133 : Nat) "RaceByLapsModel" "sets" "[I") ∈ lw_tbl := tw_tb8 (List.mem_of_getElem? (i := 138) rfl)
theorem kw_1819 : (Jvm.Cond.fieldLink "RaceByLapsModel" (148 : Nat) "RaceByLapsModel" "setKind" "[I") ∈ lw_tbl := tw_tb8 (List.mem_of_getElem? (i := 139) rfl)
theorem kw_1820 : (Jvm.Cond.fieldLink "RaceByLapsModel" (151 : Nat) "RaceByLapsModel" "setAge" "[I") ∈ lw_tbl := tw_tb8 (List.mem_of_getElem? (i := 140) rfl)
theorem kw_1821 : (Jvm.Cond.fieldLink "RaceByLapsModel" (136 : Nat) "RaceByLapsModel" "orders" "[I") ∈ lw_tbl := tw_tb8 (List.mem_of_getElem? (i := 141) rfl)
theorem kw_1822 : (Jvm.Cond.fieldLink "RaceByLapsModel" (157 : Nat) "RaceByLapsModel" "orderLap" "[I") ∈ lw_tbl := tw_tb8 (List.mem_of_getElem? (i := 142) rfl)
theorem kw_1823 : (Jvm.Cond.fieldLink "RaceByLapsModel" (160 : Nat) "RaceByLapsModel" "orderWhat" "[I") ∈ lw_tbl := tw_tb8 (List.mem_of_getElem? (i := 143) rfl)
theorem kw_1824 : (Jvm.Cond.fieldLink "RaceByLapsModel" (163 : Nat) "RaceByLapsModel" "orderTo" "[I") ∈ lw_tbl := tw_tb8 (List.mem_of_getElem? (i := 144) rfl)
theorem kw_1825 : (Jvm.Cond.fieldLink "RaceByLapsModel" (139 : Nat) "RaceByLapsModel" "stops" "[I") ∈ lw_tbl := tw_tb8 (List.mem_of_getElem? (i := 145) rfl)
theorem kw_1826 : (Jvm.Cond.fieldLink "RaceByLapsModel" (176 : Nat) "RaceByLapsModel" "stopLap" "[I") ∈ lw_tbl := tw_tb8 (List.mem_of_getElem? (i := 146) rfl)
theorem kw_1827 : (Jvm.Cond.fieldLink "RaceByLapsModel" (179 : Nat) "RaceByLapsModel" "stopSet" "[I") ∈ lw_tbl := tw_tb8 (List.mem_of_getElem? (i := 147) rfl)
theorem kw_1828 : (Jvm.Cond.fieldLink "RaceByLapsModel" (182 : Nat) "RaceByLapsModel" "stopFuel" "[I") ∈ lw_tbl := tw_tb8 (List.mem_of_getElem? (i := 148) rfl)
theorem kw_1829 : (Jvm.Cond.fieldLink "RaceByLapsModel" (142 : Nat) "RaceByLapsModel" "hasPlan" "[Z") ∈ lw_tbl := tw_tb8 (List.mem_of_getElem? (i := 149) rfl)
theorem kw_1830 : (Jvm.Cond.fieldLink "RaceByLapsModel" (39 : Nat) "RaceByLapsModel" "options" "[I") ∈ lw_tbl := tw_tb8 (List.mem_of_getElem? (i := 150) rfl)
theorem kw_1831 : (Jvm.Cond.fieldLink "RaceByLapsModel" (560 : Nat) "RaceByLapsModel" "optionLap" "[I") ∈ lw_tbl := tw_tb8 (List.mem_of_getElem? (i := 151) rfl)
theorem kw_1832 : (Jvm.Cond.fieldLink "RaceByLapsModel" (563 : Nat) "RaceByLapsModel" "optionSet" "[I") ∈ lw_tbl := tw_tb8 (List.mem_of_getElem? (i := 152) rfl)
theorem kw_1833 : (Jvm.Cond.fieldLink "RaceByLapsModel" (191 : Nat) "RaceByLapsModel" "tape" "[I") ∈ lw_tbl := tw_tb8 (List.mem_of_getElem? (i := 153) rfl)
theorem kw_1834 : (Jvm.Cond.fieldLink "RaceByLapsModel" (188 : Nat) "RaceByLapsModel" "taped" "I") ∈ lw_tbl := tw_tb8 (List.mem_of_getElem? (i := 154) rfl)
theorem kw_1835 : (Jvm.Cond.fieldLink "RaceByLapsModel" (194 : Nat) "RaceByLapsModel" "at" "I") ∈ lw_tbl := tw_tb8 (List.mem_of_getElem? (i := 155) rfl)
theorem kw_1836 : (Jvm.Cond.fieldLink "RaceByLapsModel" (205 : Nat) "RaceByLapsModel" "into" "I") ∈ lw_tbl := tw_tb8 (List.mem_of_getElem? (i := 156) rfl)
theorem kw_1837 : (Jvm.Cond.fieldLink "RaceByLapsModel" (221 : Nat) "RaceByLapsModel" "names" "Ljava/lang/String;") ∈ lw_tbl := tw_tb8 (List.mem_of_getElem? (i := 157) rfl)
theorem kw_1838 : (Jvm.Cond.fieldLink "RaceByLapsModel" (202 : Nat) "RaceByLapsModel" "code" "[I") ∈ lw_tbl := tw_tb8 (List.mem_of_getElem? (i := 158) rfl)
theorem kw_1839 : (Jvm.Cond.fieldLink "RaceByLapsModel" (208 : Nat) "RaceByLapsModel" "codes" "[I") ∈ lw_tbl := tw_tb8 (List.mem_of_getElem? (i := 159) rfl)
theorem kw_1840 : (Jvm.Cond.fieldLink "RaceByLapsModel" (296 : Nat) "RaceByLapsModel" "stack" "[I") ∈ lw_tbl := tw_tb8 (List.mem_of_getElem? (i := 160) rfl)
theorem kw_1841 : (Jvm.Cond.fieldLink "RaceByLapsModel" (306 : Nat) "RaceByLapsModel" "behind" "I") ∈ lw_tbl := tw_tb8 (List.mem_of_getElem? (i := 161) rfl)
theorem kw_1842 : (Jvm.Cond.fieldLink "RaceByLapsModel" (299 : Nat) "RaceByLapsModel" "spoken" "[I") ∈ lw_tbl := tw_tb8 (List.mem_of_getElem? (i := 162) rfl)
theorem kw_1843 : (Jvm.Cond.fieldLink "RaceByLapsModel" (309 : Nat) "RaceByLapsModel" "state" "[I") ∈ lw_tbl := tw_tb8 (List.mem_of_getElem? (i := 163) rfl)
theorem kw_1844 : (Jvm.Cond.fieldLink "RaceByLapsModel" (321 : Nat) "RaceByLapsModel" "stateTime" "[I") ∈ lw_tbl := tw_tb8 (List.mem_of_getElem? (i := 164) rfl)
theorem kw_1845 : (Jvm.Cond.fieldLink "RaceByLapsModel" (318 : Nat) "RaceByLapsModel" "nextTime" "[I") ∈ lw_tbl := tw_tb8 (List.mem_of_getElem? (i := 165) rfl)
theorem kw_1846 : (Jvm.Cond.fieldLink "RaceByLapsModel" (324 : Nat) "RaceByLapsModel" "begun" "[I") ∈ lw_tbl := tw_tb8 (List.mem_of_getElem? (i := 166) rfl)
theorem kw_1847 : (Jvm.Cond.fieldLink "RaceByLapsModel" (327 : Nat) "RaceByLapsModel" "ended" "[I") ∈ lw_tbl := tw_tb8 (List.mem_of_getElem? (i := 167) rfl)
theorem kw_1848 : (Jvm.Cond.fieldLink "RaceByLapsModel" (330 : Nat) "RaceByLapsModel" "fuel" "[I") ∈ lw_tbl := tw_tb8 (List.mem_of_getElem? (i := 168) rfl)
theorem kw_1849 : (Jvm.Cond.fieldLink "RaceByLapsModel" (333 : Nat) "RaceByLapsModel" "on" "[I") ∈ lw_tbl := tw_tb8 (List.mem_of_getElem? (i := 169) rfl)
theorem kw_1850 : (Jvm.Cond.fieldLink "RaceByLapsModel" (360 : Nat) "RaceByLapsModel" "age" "[I") ∈ lw_tbl := tw_tb8 (List.mem_of_getElem? (i := 170) rfl)
theorem kw_1851 : (Jvm.Cond.fieldLink "RaceByLapsModel" (336 : Nat) "RaceByLapsModel" "mode" "[I") ∈ lw_tbl := tw_tb8 (List.mem_of_getElem? (i := 171) rfl)
theorem kw_1852 : (Jvm.Cond.fieldLink "RaceByLapsModel" (339 : Nat) "RaceByLapsModel" "bold" "[I") ∈ lw_tbl := tw_tb8 (List.mem_of_getElem? (i := 172) rfl)
theorem kw_1853 : (Jvm.Cond.fieldLink "RaceByLapsModel" (342 : Nat) "RaceByLapsModel" "stopped" "[I") ∈ lw_tbl := tw_tb8 (List.mem_of_getElem? (i := 173) rfl)
theorem kw_1854 : (Jvm.Cond.fieldLink "RaceByLapsModel" (345 : Nat) "RaceByLapsModel" "kinds" "[I") ∈ lw_tbl := tw_tb8 (List.mem_of_getElem? (i := 174) rfl)
theorem kw_1855 : (Jvm.Cond.fieldLink "RaceByLapsModel" (348 : Nat) "RaceByLapsModel" "offences" "[I") ∈ lw_tbl := tw_tb8 (List.mem_of_getElem? (i := 175) rfl)
theorem kw_1856 : (Jvm.Cond.fieldLink "RaceByLapsModel" (351 : Nat) "RaceByLapsModel" "passes" "[I") ∈ lw_tbl := tw_tb8 (List.mem_of_getElem? (i := 176) rfl)
theorem kw_1857 : (Jvm.Cond.fieldLink "RaceByLapsModel" (354 : Nat) "RaceByLapsModel" "heldOften" "[I") ∈ lw_tbl := tw_tb8 (List.mem_of_getElem? (i := 177) rfl)
theorem kw_1858 : (Jvm.Cond.fieldLink "RaceByLapsModel" (357 : Nat) "RaceByLapsModel" "waitedFor" "[I") ∈ lw_tbl := tw_tb8 (List.mem_of_getElem? (i := 178) rfl)
theorem kw_1859 : (Jvm.Cond.fieldLink "RaceByLapsModel" (363 : Nat) "RaceByLapsModel" "ends" "[I") ∈ lw_tbl := tw_tb8 (List.mem_of_getElem? (i := 179) rfl)
theorem kw_1860 : (Jvm.Cond.fieldLink "RaceByLapsModel" (366 : Nat) "RaceByLapsModel" "began" "[I") ∈ lw_tbl := tw_tb8 (List.mem_of_getElem? (i := 180) rfl)
theorem kw_1861 : (Jvm.Cond.fieldLink "RaceByLapsModel" (405 : Nat) "RaceByLapsModel" "beganEnd" "[I") ∈ lw_tbl := tw_tb8 (List.mem_of_getElem? (i := 181) rfl)
theorem kw_1862 : (Jvm.Cond.fieldLink "RaceByLapsModel" (315 : Nat) "RaceByLapsModel" "boxFree" "[I") ∈ lw_tbl := tw_tb8 (List.mem_of_getElem? (i := 182) rfl)
theorem kw_1863 : (Jvm.Cond.fieldLink "RaceByLapsModel" (369 : Nat) "RaceByLapsModel" "lineDone" "[I") ∈ lw_tbl := tw_tb8 (List.mem_of_getElem? (i := 183) rfl)
theorem kw_1864 : (Jvm.Cond.fieldLink "RaceByLapsModel" (312 : Nat) "RaceByLapsModel" "turn" "I") ∈ lw_tbl := tw_tb8 (List.mem_of_getElem? (i := 184) rfl)
theorem kw_1865 : (Jvm.Cond.fieldLink "RaceByLapsModel" (429 : Nat) "RaceByLapsModel" "isAlone" "[Z") ∈ lw_tbl := tw_tb8 (List.mem_of_getElem? (i := 185) rfl)
theorem kw_1866 : (Jvm.Cond.fieldLink "RaceByLapsModel" (33 : Nat) "RaceByLapsModel" "rules" "I") ∈ lw_tbl := tw_tb8 (List.mem_of_getElem? (i := 186) rfl)
theorem kw_1867 : (Jvm.Cond.fieldLink "RaceByLapsModel" (465 : Nat) "RaceByLapsModel" "ruleDay" "[I") ∈ lw_tbl := tw_tb8 (List.mem_of_getElem? (i := 187) rfl)
theorem kw_1868 : (Jvm.Cond.fieldLink "RaceByLapsModel" (269 : Nat) "RaceByLapsModel" "ruleSeconds" "[I") ∈ lw_tbl := tw_tb8 (List.mem_of_getElem? (i := 188) rfl)
theorem kw_1869 : (Jvm.Cond.fieldLink "RaceByLapsModel" (36 : Nat) "RaceByLapsModel" "findings" "I") ∈ lw_tbl := tw_tb8 (List.mem_of_getElem? (i := 189) rfl)
theorem kw_1870 : (Jvm.Cond.fieldLink "RaceByLapsModel" (472 : Nat) "RaceByLapsModel" "findingDay" "[I") ∈ lw_tbl := tw_tb8 (List.mem_of_getElem? (i := 190) rfl)
theorem kw_1871 : (Jvm.Cond.fieldLink "RaceByLapsModel" (475 : Nat) "RaceByLapsModel" "findingCar" "[I") ∈ lw_tbl := tw_tb8 (List.mem_of_getElem? (i := 191) rfl)
theorem kw_1872 : (Jvm.Cond.fieldLink "RaceByLapsModel" (478 : Nat) "RaceByLapsModel" "findingWhat" "[I") ∈ lw_tbl := tw_tb8 (List.mem_of_getElem? (i := 192) rfl)
theorem kw_1873 : (Jvm.Cond.fieldLink "RaceByLapsModel" (481 : Nat) "RaceByLapsModel" "findingTo" "[I") ∈ lw_tbl := tw_tb8 (List.mem_of_getElem? (i := 193) rfl)
theorem kw_1874 : (Jvm.Cond.fieldLink "RaceByLapsModel" (490 : Nat) "RaceByLapsModel" "isIn" "[Z") ∈ lw_tbl := tw_tb8 (List.mem_of_getElem? (i := 194) rfl)
theorem kw_1875 : (Jvm.Cond.fieldLink "RaceByLapsModel" (493 : Nat) "RaceByLapsModel" "sums" "[I") ∈ lw_tbl := tw_tb8 (List.mem_of_getElem? (i := 195) rfl)
theorem kw_1876 : (Jvm.Cond.fieldLink "RaceByLapsModel" (185 : Nat) "RaceByLapsModel" "rows" "I") ∈ lw_tbl := tw_tb8 (List.mem_of_getElem? (i := 196) rfl)
theorem kw_1877 : (Jvm.Cond.fieldLink "RaceByLapsModel" (508 : Nat) "RaceByLapsModel" "row" "[I") ∈ lw_tbl := tw_tb8 (List.mem_of_getElem? (i := 197) rfl)
theorem kw_1878 : (Jvm.Cond.fieldLink "RaceByLapsModel" (511 : Nat) "RaceByLapsModel" "keptLap" "[I") ∈ lw_tbl := tw_tb8 (List.mem_of_getElem? (i := 198) rfl)
theorem kw_1879 : (Jvm.Cond.fieldLink "RaceByLapsModel" (514 : Nat) "RaceByLapsModel" "keptSet" "[I") ∈ lw_tbl := tw_tb8 (List.mem_of_getElem? (i := 199) rfl)
theorem kw_1880 : (Jvm.Cond.fieldLink "RaceByLapsModel" (517 : Nat) "RaceByLapsModel" "keptFuel" "[I") ∈ lw_tbl := tw_tb8 (List.mem_of_getElem? (i := 200) rfl)
theorem kw_1881 : (Jvm.Cond.fieldLink "RaceByLapsModel" (520 : Nat) "RaceByLapsModel" "keptStops" "[I") ∈ lw_tbl := tw_tb8 (List.mem_of_getElem? (i := 201) rfl)
theorem kw_1882 : (Jvm.Cond.fieldLink "RaceByLapsModel" (523 : Nat) "RaceByLapsModel" "anyTry" "Z") ∈ lw_tbl := tw_tb8 (List.mem_of_getElem? (i := 202) rfl)
theorem kw_1883 : (Jvm.Cond.fieldLink "RaceByLapsModel" (527 : Nat) "RaceByLapsModel" "bestPlace" "I") ∈ lw_tbl := tw_tb8 (List.mem_of_getElem? (i := 203) rfl)
theorem kw_1884 : (Jvm.Cond.fieldLink "RaceByLapsModel" (530 : Nat) "RaceByLapsModel" "bestSum" "I") ∈ lw_tbl := tw_tb8 (List.mem_of_getElem? (i := 204) rfl)
theorem kw_1885 : (Jvm.Cond.fieldLink "RaceByLapsModel" (537 : Nat) "RaceByLapsModel" "bestLaps" "[I") ∈ lw_tbl := tw_tb8 (List.mem_of_getElem? (i := 205) rfl)
theorem kw_1886 : (Jvm.Cond.fieldLink "RaceByLapsModel" (540 : Nat) "RaceByLapsModel" "bestSets" "[I") ∈ lw_tbl := tw_tb8 (List.mem_of_getElem? (i := 206) rfl)
theorem kw_1887 : (Jvm.Cond.fieldLink "RaceByLapsModel" (569 : Nat) "RaceByLapsModel" "placeA" "[I") ∈ lw_tbl := tw_tb8 (List.mem_of_getElem? (i := 207) rfl)
theorem kw_1888 : (Jvm.Cond.fieldLink "RaceByLapsModel" (572 : Nat) "RaceByLapsModel" "sumA" "[I") ∈ lw_tbl := tw_tb8 (List.mem_of_getElem? (i := 208) rfl)
theorem kw_1889 : (Jvm.Cond.fieldLink "RaceByLapsModel" (575 : Nat) "RaceByLapsModel" "placeB" "[I") ∈ lw_tbl := tw_tb8 (List.mem_of_getElem? (i := 209) rfl)
theorem kw_1890 : (Jvm.Cond.fieldLink "RaceByLapsModel" (578 : Nat) "RaceByLapsModel" "sumB" "[I") ∈ lw_tbl := tw_tb8 (List.mem_of_getElem? (i := 210) rfl)
theorem kw_1891 : (Jvm.Cond.lays "RaceByLapsModel" "RaceByLapsModel" "thrown" "I") ∈ lw_tbl := tw_tb8 (List.mem_of_getElem? (i := 211) rfl)
theorem kw_1892 : (Jvm.Cond.soleField "RaceByLapsModel" "thrown") ∈ lw_tbl := tw_tb8 (List.mem_of_getElem? (i := 212) rfl)
theorem kw_1893 : (Jvm.Cond.lays "RaceByLapsModel" "RaceByLapsModel" "sectors" "I") ∈ lw_tbl := tw_tb8 (List.mem_of_getElem? (i := 213) rfl)
theorem kw_1894 : (Jvm.Cond.soleField "RaceByLapsModel" "sectors") ∈ lw_tbl := tw_tb8 (List.mem_of_getElem? (i := 214) rfl)
theorem kw_1895 : (Jvm.Cond.lays "RaceByLapsModel" "RaceByLapsModel" "laps" "I") ∈ lw_tbl := tw_tb8 (List.mem_of_getElem? (i := 215) rfl)
theorem kw_1896 : (Jvm.Cond.soleField "RaceByLapsModel" "laps") ∈ lw_tbl := tw_tb8 (List.mem_of_getElem? (i := 216) rfl)
theorem kw_1897 : (Jvm.Cond.laysFinal "RaceByLapsModel" "RaceByLapsModel" "length" "[I") ∈ lw_tbl := tw_tb8 (List.mem_of_getElem? (i := 217) rfl)
theorem kw_1898 : (Jvm.Cond.soleField "RaceByLapsModel" "length") ∈ lw_tbl := tw_tb8 (List.mem_of_getElem? (i := 218) rfl)
theorem kw_1899 : (Jvm.Cond.laysFinal "RaceByLapsModel" "RaceByLapsModel" "ease" "[I") ∈ lw_tbl := tw_tb8 (List.mem_of_getElem? (i := 219) rfl)
theorem kw_1900 : (Jvm.Cond.soleField "RaceByLapsModel" "ease") ∈ lw_tbl := tw_tb8 (List.mem_of_getElem? (i := 220) rfl)
theorem kw_1901 : (Jvm.Cond.laysFinal "RaceByLapsModel" "RaceByLapsModel" "isLost" "[Z") ∈ lw_tbl := tw_tb8 (List.mem_of_getElem? (i := 221) rfl)
theorem kw_1902 : (Jvm.Cond.soleField "RaceByLapsModel" "isLost") ∈ lw_tbl := tw_tb8 (List.mem_of_getElem? (i := 222) rfl)
theorem kw_1903 : (Jvm.Cond.laysFinal "RaceByLapsModel" "RaceByLapsModel" "tyre" "[I") ∈ lw_tbl := tw_tb8 (List.mem_of_getElem? (i := 223) rfl)
theorem kw_1904 : (Jvm.Cond.soleField "RaceByLapsModel" "tyre") ∈ lw_tbl := tw_tb8 (List.mem_of_getElem? (i := 224) rfl)
theorem kw_1905 : (Jvm.Cond.laysFinal "RaceByLapsModel" "RaceByLapsModel" "number" "[I") ∈ lw_tbl := tw_tb8 (List.mem_of_getElem? (i := 225) rfl)
theorem kw_1906 : (Jvm.Cond.soleField "RaceByLapsModel" "number") ∈ lw_tbl := tw_tb8 (List.mem_of_getElem? (i := 226) rfl)
theorem kw_1907 : (Jvm.Cond.lays "RaceByLapsModel" "RaceByLapsModel" "rains" "I") ∈ lw_tbl := tw_tb8 (List.mem_of_getElem? (i := 227) rfl)
theorem kw_1908 : (Jvm.Cond.soleField "RaceByLapsModel" "rains") ∈ lw_tbl := tw_tb8 (List.mem_of_getElem? (i := 228) rfl)
theorem kw_1909 : (Jvm.Cond.laysFinal "RaceByLapsModel" "RaceByLapsModel" "rainSector" "[I") ∈ lw_tbl := tw_tb8 (List.mem_of_getElem? (i := 229) rfl)
theorem kw_1910 : (Jvm.Cond.soleField "RaceByLapsModel" "rainSector") ∈ lw_tbl := tw_tb8 (List.mem_of_getElem? (i := 230) rfl)
theorem kw_1911 : (Jvm.Cond.laysFinal "RaceByLapsModel" "RaceByLapsModel" "rainTime" "[I") ∈ lw_tbl := tw_tb8 (List.mem_of_getElem? (i := 231) rfl)
theorem kw_1912 : (Jvm.Cond.soleField "RaceByLapsModel" "rainTime") ∈ lw_tbl := tw_tb8 (List.mem_of_getElem? (i := 232) rfl)
theorem kw_1913 : (Jvm.Cond.laysFinal "RaceByLapsModel" "RaceByLapsModel" "rainWet" "[I") ∈ lw_tbl := tw_tb8 (List.mem_of_getElem? (i := 233) rfl)
theorem kw_1914 : (Jvm.Cond.soleField "RaceByLapsModel" "rainWet") ∈ lw_tbl := tw_tb8 (List.mem_of_getElem? (i := 234) rfl)
theorem kw_1915 : (Jvm.Cond.lays "RaceByLapsModel" "RaceByLapsModel" "flags" "I") ∈ lw_tbl := tw_tb8 (List.mem_of_getElem? (i := 235) rfl)
theorem kw_1916 : (Jvm.Cond.soleField "RaceByLapsModel" "flags") ∈ lw_tbl := tw_tb8 (List.mem_of_getElem? (i := 236) rfl)
theorem kw_1917 : (Jvm.Cond.laysFinal "RaceByLapsModel" "RaceByLapsModel" "flagSector" "[I") ∈ lw_tbl := tw_tb8 (List.mem_of_getElem? (i := 237) rfl)
theorem kw_1918 : (Jvm.Cond.soleField "RaceByLapsModel" "flagSector") ∈ lw_tbl := tw_tb8 (List.mem_of_getElem? (i := 238) rfl)
theorem kw_1919 : (Jvm.Cond.laysFinal "RaceByLapsModel" "RaceByLapsModel" "flagFrom" "[I") ∈ lw_tbl := tw_tb8 (List.mem_of_getElem? (i := 239) rfl)
theorem kw_1920 : (Jvm.Cond.soleField "RaceByLapsModel" "flagFrom") ∈ lw_tbl := tw_tb9 (List.mem_of_getElem? (i := 0) rfl)
theorem kw_1921 : (Jvm.Cond.laysFinal "RaceByLapsModel" "RaceByLapsModel" "flagTo" "[I") ∈ lw_tbl := tw_tb9 (List.mem_of_getElem? (i := 1) rfl)
theorem kw_1922 : (Jvm.Cond.soleField "RaceByLapsModel" "flagTo") ∈ lw_tbl := tw_tb9 (List.mem_of_getElem? (i := 2) rfl)
theorem kw_1923 : (Jvm.Cond.laysFinal "RaceByLapsModel" "RaceByLapsModel" "flagKind" "[I") ∈ lw_tbl := tw_tb9 (List.mem_of_getElem? (i := 3) rfl)
theorem kw_1924 : (Jvm.Cond.soleField "RaceByLapsModel" "flagKind") ∈ lw_tbl := tw_tb9 (List.mem_of_getElem? (i := 4) rfl)
theorem kw_1925 : (Jvm.Cond.lays "RaceByLapsModel" "RaceByLapsModel" "cars" "I") ∈ lw_tbl := tw_tb9 (List.mem_of_getElem? (i := 5) rfl)
theorem kw_1926 : (Jvm.Cond.soleField "RaceByLapsModel" "cars") ∈ lw_tbl := tw_tb9 (List.mem_of_getElem? (i := 6) rfl)
theorem kw_1927 : (Jvm.Cond.laysFinal "RaceByLapsModel" "RaceByLapsModel" "off" "[I") ∈ lw_tbl := tw_tb9 (List.mem_of_getElem? (i := 7) rfl)
theorem kw_1928 : (Jvm.Cond.soleField "RaceByLapsModel" "off") ∈ lw_tbl := tw_tb9 (List.mem_of_getElem? (i := 8) rfl)
theorem kw_1929 : (Jvm.Cond.laysFinal "RaceByLapsModel" "RaceByLapsModel" "tank" "[I") ∈ lw_tbl := tw_tb9 (List.mem_of_getElem? (i := 9) rfl)
theorem kw_1930 : (Jvm.Cond.soleField "RaceByLapsModel" "tank") ∈ lw_tbl := tw_tb9 (List.mem_of_getElem? (i := 10) rfl)
theorem kw_1931 : (Jvm.Cond.laysFinal "RaceByLapsModel" "RaceByLapsModel" "burn" "[I") ∈ lw_tbl := tw_tb9 (List.mem_of_getElem? (i := 11) rfl)
theorem kw_1932 : (Jvm.Cond.soleField "RaceByLapsModel" "burn") ∈ lw_tbl := tw_tb9 (List.mem_of_getElem? (i := 12) rfl)
theorem kw_1933 : (Jvm.Cond.laysFinal "RaceByLapsModel" "RaceByLapsModel" "team" "[I") ∈ lw_tbl := tw_tb9 (List.mem_of_getElem? (i := 13) rfl)
theorem kw_1934 : (Jvm.Cond.soleField "RaceByLapsModel" "team") ∈ lw_tbl := tw_tb9 (List.mem_of_getElem? (i := 14) rfl)
theorem kw_1935 : (Jvm.Cond.laysFinal "RaceByLapsModel" "RaceByLapsModel" "clas" "[I") ∈ lw_tbl := tw_tb9 (List.mem_of_getElem? (i := 15) rfl)
theorem kw_1936 : (Jvm.Cond.soleField "RaceByLapsModel" "clas") ∈ lw_tbl := tw_tb9 (List.mem_of_getElem? (i := 16) rfl)
theorem kw_1937 : (Jvm.Cond.laysFinal "RaceByLapsModel" "RaceByLapsModel" "startFuel" "[I") ∈ lw_tbl := tw_tb9 (List.mem_of_getElem? (i := 17) rfl)
theorem kw_1938 : (Jvm.Cond.soleField "RaceByLapsModel" "startFuel") ∈ lw_tbl := tw_tb9 (List.mem_of_getElem? (i := 18) rfl)
theorem kw_1939 : (Jvm.Cond.laysFinal "RaceByLapsModel" "RaceByLapsModel" "sets" "[I") ∈ lw_tbl := tw_tb9 (List.mem_of_getElem? (i := 19) rfl)
theorem kw_1940 : (Jvm.Cond.soleField "RaceByLapsModel" "sets") ∈ lw_tbl := tw_tb9 (List.mem_of_getElem? (i := 20) rfl)
theorem kw_1941 : (Jvm.Cond.laysFinal "RaceByLapsModel" "RaceByLapsModel" "setKind" "[I") ∈ lw_tbl := tw_tb9 (List.mem_of_getElem? (i := 21) rfl)
theorem kw_1942 : (Jvm.Cond.soleField "RaceByLapsModel" "setKind") ∈ lw_tbl := tw_tb9 (List.mem_of_getElem? (i := 22) rfl)
theorem kw_1943 : (Jvm.Cond.laysFinal "RaceByLapsModel" "RaceByLapsModel" "setAge" "[I") ∈ lw_tbl := tw_tb9 (List.mem_of_getElem? (i := 23) rfl)
theorem kw_1944 : (Jvm.Cond.soleField "RaceByLapsModel" "setAge") ∈ lw_tbl := tw_tb9 (List.mem_of_getElem? (i := 24) rfl)
theorem kw_1945 : (Jvm.Cond.laysFinal "RaceByLapsModel" "RaceByLapsModel" "orders" "[I") ∈ lw_tbl := tw_tb9 (List.mem_of_getElem? (i := 25) rfl)
theorem kw_1946 : (Jvm.Cond.soleField "RaceByLapsModel" "orders") ∈ lw_tbl := tw_tb9 (List.mem_of_getElem? (i := 26) rfl)
theorem kw_1947 : (Jvm.Cond.laysFinal "RaceByLapsModel" "RaceByLapsModel" "orderLap" "[I") ∈ lw_tbl := tw_tb9 (List.mem_of_getElem? (i := 27) rfl)
theorem kw_1948 : (Jvm.Cond.soleField "RaceByLapsModel" "orderLap") ∈ lw_tbl := tw_tb9 (List.mem_of_getElem? (i := 28) rfl)
theorem kw_1949 : (Jvm.Cond.laysFinal "RaceByLapsModel" "RaceByLapsModel" "orderWhat" "[I") ∈ lw_tbl := tw_tb9 (List.mem_of_getElem? (i := 29) rfl)
theorem kw_1950 : (Jvm.Cond.soleField "RaceByLapsModel" "orderWhat") ∈ lw_tbl := tw_tb9 (List.mem_of_getElem? (i := 30) rfl)
theorem kw_1951 : (Jvm.Cond.laysFinal "RaceByLapsModel" "RaceByLapsModel" "orderTo" "[I") ∈ lw_tbl := tw_tb9 (List.mem_of_getElem? (i := 31) rfl)
theorem kw_1952 : (Jvm.Cond.soleField "RaceByLapsModel" "orderTo") ∈ lw_tbl := tw_tb9 (List.mem_of_getElem? (i := 32) rfl)
theorem kw_1953 : (Jvm.Cond.laysFinal "RaceByLapsModel" "RaceByLapsModel" "stops" "[I") ∈ lw_tbl := tw_tb9 (List.mem_of_getElem? (i := 33) rfl)
theorem kw_1954 : (Jvm.Cond.soleField "RaceByLapsModel" "stops") ∈ lw_tbl := tw_tb9 (List.mem_of_getElem? (i := 34) rfl)
theorem kw_1955 : (Jvm.Cond.laysFinal "RaceByLapsModel" "RaceByLapsModel" "stopLap" "[I") ∈ lw_tbl := tw_tb9 (List.mem_of_getElem? (i := 35) rfl)
theorem kw_1956 : (Jvm.Cond.soleField "RaceByLapsModel" "stopLap") ∈ lw_tbl := tw_tb9 (List.mem_of_getElem? (i := 36) rfl)
theorem kw_1957 : (Jvm.Cond.laysFinal "RaceByLapsModel" "RaceByLapsModel" "stopSet" "[I") ∈ lw_tbl := tw_tb9 (List.mem_of_getElem? (i := 37) rfl)
theorem kw_1958 : (Jvm.Cond.soleField "RaceByLapsModel" "stopSet") ∈ lw_tbl := tw_tb9 (List.mem_of_getElem? (i := 38) rfl)
theorem kw_1959 : (Jvm.Cond.laysFinal "RaceByLapsModel" "RaceByLapsModel" "stopFuel" "[I") ∈ lw_tbl := tw_tb9 (List.mem_of_getElem? (i := 39) rfl)
theorem kw_1960 : (Jvm.Cond.soleField "RaceByLapsModel" "stopFuel") ∈ lw_tbl := tw_tb9 (List.mem_of_getElem? (i := 40) rfl)
theorem kw_1961 : (Jvm.Cond.laysFinal "RaceByLapsModel" "RaceByLapsModel" "hasPlan" "[Z") ∈ lw_tbl := tw_tb9 (List.mem_of_getElem? (i := 41) rfl)
theorem kw_1962 : (Jvm.Cond.soleField "RaceByLapsModel" "hasPlan") ∈ lw_tbl := tw_tb9 (List.mem_of_getElem? (i := 42) rfl)
theorem kw_1963 : (Jvm.Cond.laysFinal "RaceByLapsModel" "RaceByLapsModel" "options" "[I") ∈ lw_tbl := tw_tb9 (List.mem_of_getElem? (i := 43) rfl)
theorem kw_1964 : (Jvm.Cond.soleField "RaceByLapsModel" "options") ∈ lw_tbl := tw_tb9 (List.mem_of_getElem? (i := 44) rfl)
theorem kw_1965 : (Jvm.Cond.laysFinal "RaceByLapsModel" "RaceByLapsModel" "optionLap" "[I") ∈ lw_tbl := tw_tb9 (List.mem_of_getElem? (i := 45) rfl)
theorem kw_1966 : (Jvm.Cond.soleField "RaceByLapsModel" "optionLap") ∈ lw_tbl := tw_tb9 (List.mem_of_getElem? (i := 46) rfl)
theorem kw_1967 : (Jvm.Cond.laysFinal "RaceByLapsModel" "RaceByLapsModel" "optionSet" "[I") ∈ lw_tbl := tw_tb9 (List.mem_of_getElem? (i := 47) rfl)
theorem kw_1968 : (Jvm.Cond.soleField "RaceByLapsModel" "optionSet") ∈ lw_tbl := tw_tb9 (List.mem_of_getElem? (i := 48) rfl)
theorem kw_1969 : (Jvm.Cond.laysFinal "RaceByLapsModel" "RaceByLapsModel" "tape" "[I") ∈ lw_tbl := tw_tb9 (List.mem_of_getElem? (i := 49) rfl)
theorem kw_1970 : (Jvm.Cond.soleField "RaceByLapsModel" "tape") ∈ lw_tbl := tw_tb9 (List.mem_of_getElem? (i := 50) rfl)
theorem kw_1971 : (Jvm.Cond.lays "RaceByLapsModel" "RaceByLapsModel" "taped" "I") ∈ lw_tbl := tw_tb9 (List.mem_of_getElem? (i := 51) rfl)
theorem kw_1972 : (Jvm.Cond.soleField "RaceByLapsModel" "taped") ∈ lw_tbl := tw_tb9 (List.mem_of_getElem? (i := 52) rfl)
theorem kw_1973 : (Jvm.Cond.lays "RaceByLapsModel" "RaceByLapsModel" "at" "I") ∈ lw_tbl := tw_tb9 (List.mem_of_getElem? (i := 53) rfl)
theorem kw_1974 : (Jvm.Cond.soleField "RaceByLapsModel" "at") ∈ lw_tbl := tw_tb9 (List.mem_of_getElem? (i := 54) rfl)
theorem kw_1975 : (Jvm.Cond.lays "RaceByLapsModel" "RaceByLapsModel" "into" "I") ∈ lw_tbl := tw_tb9 (List.mem_of_getElem? (i := 55) rfl)
theorem kw_1976 : (Jvm.Cond.soleField "RaceByLapsModel" "into") ∈ lw_tbl := tw_tb9 (List.mem_of_getElem? (i := 56) rfl)
theorem kw_1977 : (Jvm.Cond.lays "RaceByLapsModel" "RaceByLapsModel" "names" "Ljava/lang/String;") ∈ lw_tbl := tw_tb9 (List.mem_of_getElem? (i := 57) rfl)
theorem kw_1978 : (Jvm.Cond.soleField "RaceByLapsModel" "names") ∈ lw_tbl := tw_tb9 (List.mem_of_getElem? (i := 58) rfl)
theorem kw_1979 : (Jvm.Cond.laysFinal "RaceByLapsModel" "RaceByLapsModel" "code" "[I") ∈ lw_tbl := tw_tb9 (List.mem_of_getElem? (i := 59) rfl)
theorem kw_1980 : (Jvm.Cond.soleField "RaceByLapsModel" "code") ∈ lw_tbl := tw_tb9 (List.mem_of_getElem? (i := 60) rfl)
theorem kw_1981 : (Jvm.Cond.laysFinal "RaceByLapsModel" "RaceByLapsModel" "codes" "[I") ∈ lw_tbl := tw_tb9 (List.mem_of_getElem? (i := 61) rfl)
theorem kw_1982 : (Jvm.Cond.soleField "RaceByLapsModel" "codes") ∈ lw_tbl := tw_tb9 (List.mem_of_getElem? (i := 62) rfl)
theorem kw_1983 : (Jvm.Cond.laysFinal "RaceByLapsModel" "RaceByLapsModel" "stack" "[I") ∈ lw_tbl := tw_tb9 (List.mem_of_getElem? (i := 63) rfl)
theorem kw_1984 : (Jvm.Cond.soleField "RaceByLapsModel" "stack") ∈ lw_tbl := tw_tb9 (List.mem_of_getElem? (i := 64) rfl)
theorem kw_1985 : (Jvm.Cond.lays "RaceByLapsModel" "RaceByLapsModel" "behind" "I") ∈ lw_tbl := tw_tb9 (List.mem_of_getElem? (i := 65) rfl)
theorem kw_1986 : (Jvm.Cond.soleField "RaceByLapsModel" "behind") ∈ lw_tbl := tw_tb9 (List.mem_of_getElem? (i := 66) rfl)
theorem kw_1987 : (Jvm.Cond.laysFinal "RaceByLapsModel" "RaceByLapsModel" "spoken" "[I") ∈ lw_tbl := tw_tb9 (List.mem_of_getElem? (i := 67) rfl)
theorem kw_1988 : (Jvm.Cond.soleField "RaceByLapsModel" "spoken") ∈ lw_tbl := tw_tb9 (List.mem_of_getElem? (i := 68) rfl)
theorem kw_1989 : (Jvm.Cond.laysFinal "RaceByLapsModel" "RaceByLapsModel" "state" "[I") ∈ lw_tbl := tw_tb9 (List.mem_of_getElem? (i := 69) rfl)
theorem kw_1990 : (Jvm.Cond.soleField "RaceByLapsModel" "state") ∈ lw_tbl := tw_tb9 (List.mem_of_getElem? (i := 70) rfl)
theorem kw_1991 : (Jvm.Cond.laysFinal "RaceByLapsModel" "RaceByLapsModel" "stateTime" "[I") ∈ lw_tbl := tw_tb9 (List.mem_of_getElem? (i := 71) rfl)
theorem kw_1992 : (Jvm.Cond.soleField "RaceByLapsModel" "stateTime") ∈ lw_tbl := tw_tb9 (List.mem_of_getElem? (i := 72) rfl)
theorem kw_1993 : (Jvm.Cond.laysFinal "RaceByLapsModel" "RaceByLapsModel" "nextTime" "[I") ∈ lw_tbl := tw_tb9 (List.mem_of_getElem? (i := 73) rfl)
theorem kw_1994 : (Jvm.Cond.soleField "RaceByLapsModel" "nextTime") ∈ lw_tbl := tw_tb9 (List.mem_of_getElem? (i := 74) rfl)
theorem kw_1995 : (Jvm.Cond.laysFinal "RaceByLapsModel" "RaceByLapsModel" "begun" "[I") ∈ lw_tbl := tw_tb9 (List.mem_of_getElem? (i := 75) rfl)
theorem kw_1996 : (Jvm.Cond.soleField "RaceByLapsModel" "begun") ∈ lw_tbl := tw_tb9 (List.mem_of_getElem? (i := 76) rfl)
theorem kw_1997 : (Jvm.Cond.laysFinal "RaceByLapsModel" "RaceByLapsModel" "ended" "[I") ∈ lw_tbl := tw_tb9 (List.mem_of_getElem? (i := 77) rfl)
theorem kw_1998 : (Jvm.Cond.soleField "RaceByLapsModel" "ended") ∈ lw_tbl := tw_tb9 (List.mem_of_getElem? (i := 78) rfl)
theorem kw_1999 : (Jvm.Cond.laysFinal "RaceByLapsModel" "RaceByLapsModel" "fuel" "[I") ∈ lw_tbl := tw_tb9 (List.mem_of_getElem? (i := 79) rfl)
theorem kw_2000 : (Jvm.Cond.soleField "RaceByLapsModel" "fuel") ∈ lw_tbl := tw_tb9 (List.mem_of_getElem? (i := 80) rfl)
theorem kw_2001 : (Jvm.Cond.laysFinal "RaceByLapsModel" "RaceByLapsModel" "on" "[I") ∈ lw_tbl := tw_tb9 (List.mem_of_getElem? (i := 81) rfl)
theorem kw_2002 : (Jvm.Cond.soleField "RaceByLapsModel" "on") ∈ lw_tbl := tw_tb9 (List.mem_of_getElem? (i := 82) rfl)
theorem kw_2003 : (Jvm.Cond.laysFinal "RaceByLapsModel" "RaceByLapsModel" "age" "[I") ∈ lw_tbl := tw_tb9 (List.mem_of_getElem? (i := 83) rfl)
theorem kw_2004 : (Jvm.Cond.soleField "RaceByLapsModel" "age") ∈ lw_tbl := tw_tb9 (List.mem_of_getElem? (i := 84) rfl)
theorem kw_2005 : (Jvm.Cond.laysFinal "RaceByLapsModel" "RaceByLapsModel" "mode" "[I") ∈ lw_tbl := tw_tb9 (List.mem_of_getElem? (i := 85) rfl)
theorem kw_2006 : (Jvm.Cond.soleField "RaceByLapsModel" "mode") ∈ lw_tbl := tw_tb9 (List.mem_of_getElem? (i := 86) rfl)
theorem kw_2007 : (Jvm.Cond.laysFinal "RaceByLapsModel" "RaceByLapsModel" "bold" "[I") ∈ lw_tbl := tw_tb9 (List.mem_of_getElem? (i := 87) rfl)
theorem kw_2008 : (Jvm.Cond.soleField "RaceByLapsModel" "bold") ∈ lw_tbl := tw_tb9 (List.mem_of_getElem? (i := 88) rfl)
theorem kw_2009 : (Jvm.Cond.laysFinal "RaceByLapsModel" "RaceByLapsModel" "stopped" "[I") ∈ lw_tbl := tw_tb9 (List.mem_of_getElem? (i := 89) rfl)
theorem kw_2010 : (Jvm.Cond.soleField "RaceByLapsModel" "stopped") ∈ lw_tbl := tw_tb9 (List.mem_of_getElem? (i := 90) rfl)
theorem kw_2011 : (Jvm.Cond.laysFinal "RaceByLapsModel" "RaceByLapsModel" "kinds" "[I") ∈ lw_tbl := tw_tb9 (List.mem_of_getElem? (i := 91) rfl)
theorem kw_2012 : (Jvm.Cond.soleField "RaceByLapsModel" "kinds") ∈ lw_tbl := tw_tb9 (List.mem_of_getElem? (i := 92) rfl)
theorem kw_2013 : (Jvm.Cond.laysFinal "RaceByLapsModel" "RaceByLapsModel" "offences" "[I") ∈ lw_tbl := tw_tb9 (List.mem_of_getElem? (i := 93) rfl)
theorem kw_2014 : (Jvm.Cond.soleField "RaceByLapsModel" "offences") ∈ lw_tbl := tw_tb9 (List.mem_of_getElem? (i := 94) rfl)
theorem kw_2015 : (Jvm.Cond.laysFinal "RaceByLapsModel" "RaceByLapsModel" "passes" "[I") ∈ lw_tbl := tw_tb9 (List.mem_of_getElem? (i := 95) rfl)
theorem kw_2016 : (Jvm.Cond.soleField "RaceByLapsModel" "passes") ∈ lw_tbl := tw_tb9 (List.mem_of_getElem? (i := 96) rfl)
theorem kw_2017 : (Jvm.Cond.laysFinal "RaceByLapsModel" "RaceByLapsModel" "heldOften" "[I") ∈ lw_tbl := tw_tb9 (List.mem_of_getElem? (i := 97) rfl)
theorem kw_2018 : (Jvm.Cond.soleField "RaceByLapsModel" "heldOften") ∈ lw_tbl := tw_tb9 (List.mem_of_getElem? (i := 98) rfl)
theorem kw_2019 : (Jvm.Cond.laysFinal "RaceByLapsModel" "RaceByLapsModel" "waitedFor" "[I") ∈ lw_tbl := tw_tb9 (List.mem_of_getElem? (i := 99) rfl)
theorem kw_2020 : (Jvm.Cond.soleField "RaceByLapsModel" "waitedFor") ∈ lw_tbl := tw_tb9 (List.mem_of_getElem? (i := 100) rfl)
theorem kw_2021 : (Jvm.Cond.laysFinal "RaceByLapsModel" "RaceByLapsModel" "ends" "[I") ∈ lw_tbl := tw_tb9 (List.mem_of_getElem? (i := 101) rfl)
theorem kw_2022 : (Jvm.Cond.soleField "RaceByLapsModel" "ends") ∈ lw_tbl := tw_tb9 (List.mem_of_getElem? (i := 102) rfl)
theorem kw_2023 : (Jvm.Cond.laysFinal "RaceByLapsModel" "RaceByLapsModel" "began" "[I") ∈ lw_tbl := tw_tb9 (List.mem_of_getElem? (i := 103) rfl)
theorem kw_2024 : (Jvm.Cond.soleField "RaceByLapsModel" "began") ∈ lw_tbl := tw_tb9 (List.mem_of_getElem? (i := 104) rfl)
theorem kw_2025 : (Jvm.Cond.laysFinal "RaceByLapsModel" "RaceByLapsModel" "beganEnd" "[I") ∈ lw_tbl := tw_tb9 (List.mem_of_getElem? (i := 105) rfl)
theorem kw_2026 : (Jvm.Cond.soleField "RaceByLapsModel" "beganEnd") ∈ lw_tbl := tw_tb9 (List.mem_of_getElem? (i := 106) rfl)
theorem kw_2027 : (Jvm.Cond.laysFinal "RaceByLapsModel" "RaceByLapsModel" "boxFree" "[I") ∈ lw_tbl := tw_tb9 (List.mem_of_getElem? (i := 107) rfl)
theorem kw_2028 : (Jvm.Cond.soleField "RaceByLapsModel" "boxFree") ∈ lw_tbl := tw_tb9 (List.mem_of_getElem? (i := 108) rfl)
theorem kw_2029 : (Jvm.Cond.laysFinal "RaceByLapsModel" "RaceByLapsModel" "lineDone" "[I") ∈ lw_tbl := tw_tb9 (List.mem_of_getElem? (i := 109) rfl)
theorem kw_2030 : (Jvm.Cond.soleField "RaceByLapsModel" "lineDone") ∈ lw_tbl := tw_tb9 (List.mem_of_getElem? (i := 110) rfl)
theorem kw_2031 : (Jvm.Cond.lays "RaceByLapsModel" "RaceByLapsModel" "turn" "I") ∈ lw_tbl := tw_tb9 (List.mem_of_getElem? (i := 111) rfl)
theorem kw_2032 : (Jvm.Cond.soleField "RaceByLapsModel" "turn") ∈ lw_tbl := tw_tb9 (List.mem_of_getElem? (i := 112) rfl)
theorem kw_2033 : (Jvm.Cond.laysFinal "RaceByLapsModel" "RaceByLapsModel" "isAlone" "[Z") ∈ lw_tbl := tw_tb9 (List.mem_of_getElem? (i := 113) rfl)
theorem kw_2034 : (Jvm.Cond.soleField "RaceByLapsModel" "isAlone") ∈ lw_tbl := tw_tb9 (List.mem_of_getElem? (i := 114) rfl)
theorem kw_2035 : (Jvm.Cond.lays "RaceByLapsModel" "RaceByLapsModel" "rules" "I") ∈ lw_tbl := tw_tb9 (List.mem_of_getElem? (i := 115) rfl)
theorem kw_2036 : (Jvm.Cond.soleField "RaceByLapsModel" "rules") ∈ lw_tbl := tw_tb9 (List.mem_of_getElem? (i := 116) rfl)
theorem kw_2037 : (Jvm.Cond.laysFinal "RaceByLapsModel" "RaceByLapsModel" "ruleDay" "[I") ∈ lw_tbl := tw_tb9 (List.mem_of_getElem? (i := 117) rfl)
theorem kw_2038 : (Jvm.Cond.soleField "RaceByLapsModel" "ruleDay") ∈ lw_tbl := tw_tb9 (List.mem_of_getElem? (i := 118) rfl)
theorem kw_2039 : (Jvm.Cond.laysFinal "RaceByLapsModel" "RaceByLapsModel" "ruleSeconds" "[I") ∈ lw_tbl := tw_tb9 (List.mem_of_getElem? (i := 119) rfl)
theorem kw_2040 : (Jvm.Cond.soleField "RaceByLapsModel" "ruleSeconds") ∈ lw_tbl := tw_tb9 (List.mem_of_getElem? (i := 120) rfl)
theorem kw_2041 : (Jvm.Cond.lays "RaceByLapsModel" "RaceByLapsModel" "findings" "I") ∈ lw_tbl := tw_tb9 (List.mem_of_getElem? (i := 121) rfl)
theorem kw_2042 : (Jvm.Cond.soleField "RaceByLapsModel" "findings") ∈ lw_tbl := tw_tb9 (List.mem_of_getElem? (i := 122) rfl)
theorem kw_2043 : (Jvm.Cond.laysFinal "RaceByLapsModel" "RaceByLapsModel" "findingDay" "[I") ∈ lw_tbl := tw_tb9 (List.mem_of_getElem? (i := 123) rfl)
theorem kw_2044 : (Jvm.Cond.soleField "RaceByLapsModel" "findingDay") ∈ lw_tbl := tw_tb9 (List.mem_of_getElem? (i := 124) rfl)
theorem kw_2045 : (Jvm.Cond.laysFinal "RaceByLapsModel" "RaceByLapsModel" "findingCar" "[I") ∈ lw_tbl := tw_tb9 (List.mem_of_getElem? (i := 125) rfl)
theorem kw_2046 : (Jvm.Cond.soleField "RaceByLapsModel" "findingCar") ∈ lw_tbl := tw_tb9 (List.mem_of_getElem? (i := 126) rfl)
theorem kw_2047 : (Jvm.Cond.laysFinal "RaceByLapsModel" "RaceByLapsModel" "findingWhat" "[I") ∈ lw_tbl := tw_tb9 (List.mem_of_getElem? (i := 127) rfl)
theorem kw_2048 : (Jvm.Cond.soleField "RaceByLapsModel" "findingWhat") ∈ lw_tbl := tw_tb9 (List.mem_of_getElem? (i := 128) rfl)
theorem kw_2049 : (Jvm.Cond.laysFinal "RaceByLapsModel" "RaceByLapsModel" "findingTo" "[I") ∈ lw_tbl := tw_tb9 (List.mem_of_getElem? (i := 129) rfl)
theorem kw_2050 : (Jvm.Cond.soleField "RaceByLapsModel" "findingTo") ∈ lw_tbl := tw_tb9 (List.mem_of_getElem? (i := 130) rfl)
theorem kw_2051 : (Jvm.Cond.laysFinal "RaceByLapsModel" "RaceByLapsModel" "isIn" "[Z") ∈ lw_tbl := tw_tb9 (List.mem_of_getElem? (i := 131) rfl)
theorem kw_2052 : (Jvm.Cond.soleField "RaceByLapsModel" "isIn") ∈ lw_tbl := tw_tb9 (List.mem_of_getElem? (i := 132) rfl)
theorem kw_2053 : (Jvm.Cond.laysFinal "RaceByLapsModel" "RaceByLapsModel" "sums" "[I") ∈ lw_tbl := tw_tb9 (List.mem_of_getElem? (i := 133) rfl)
theorem kw_2054 : (Jvm.Cond.soleField "RaceByLapsModel" "sums") ∈ lw_tbl := tw_tb9 (List.mem_of_getElem? (i := 134) rfl)
theorem kw_2055 : (Jvm.Cond.lays "RaceByLapsModel" "RaceByLapsModel" "rows" "I") ∈ lw_tbl := tw_tb9 (List.mem_of_getElem? (i := 135) rfl)
theorem kw_2056 : (Jvm.Cond.soleField "RaceByLapsModel" "rows") ∈ lw_tbl := tw_tb9 (List.mem_of_getElem? (i := 136) rfl)
theorem kw_2057 : (Jvm.Cond.laysFinal "RaceByLapsModel" "RaceByLapsModel" "row" "[I") ∈ lw_tbl := tw_tb9 (List.mem_of_getElem? (i := 137) rfl)
theorem kw_2058 : (Jvm.Cond.soleField "RaceByLapsModel" "row") ∈ lw_tbl := tw_tb9 (List.mem_of_getElem? (i := 138) rfl)
theorem kw_2059 : (Jvm.Cond.laysFinal "RaceByLapsModel" "RaceByLapsModel" "keptLap" "[I") ∈ lw_tbl := tw_tb9 (List.mem_of_getElem? (i := 139) rfl)
theorem kw_2060 : (Jvm.Cond.soleField "RaceByLapsModel" "keptLap") ∈ lw_tbl := tw_tb9 (List.mem_of_getElem? (i := 140) rfl)
theorem kw_2061 : (Jvm.Cond.laysFinal "RaceByLapsModel" "RaceByLapsModel" "keptSet" "[I") ∈ lw_tbl := tw_tb9 (List.mem_of_getElem? (i := 141) rfl)
theorem kw_2062 : (Jvm.Cond.soleField "RaceByLapsModel" "keptSet") ∈ lw_tbl := tw_tb9 (List.mem_of_getElem? (i := 142) rfl)
theorem kw_2063 : (Jvm.Cond.laysFinal "RaceByLapsModel" "RaceByLapsModel" "keptFuel" "[I") ∈ lw_tbl := tw_tb9 (List.mem_of_getElem? (i := 143) rfl)
theorem kw_2064 : (Jvm.Cond.soleField "RaceByLapsModel" "keptFuel") ∈ lw_tbl := tw_tb9 (List.mem_of_getElem? (i := 144) rfl)
theorem kw_2065 : (Jvm.Cond.laysFinal "RaceByLapsModel" "RaceByLapsModel" "keptStops" "[I") ∈ lw_tbl := tw_tb9 (List.mem_of_getElem? (i := 145) rfl)
theorem kw_2066 : (Jvm.Cond.soleField "RaceByLapsModel" "keptStops") ∈ lw_tbl := tw_tb9 (List.mem_of_getElem? (i := 146) rfl)
theorem kw_2067 : (Jvm.Cond.lays "RaceByLapsModel" "RaceByLapsModel" "anyTry" "Z") ∈ lw_tbl := tw_tb9 (List.mem_of_getElem? (i := 147) rfl)
theorem kw_2068 : (Jvm.Cond.soleField "RaceByLapsModel" "anyTry") ∈ lw_tbl := tw_tb9 (List.mem_of_getElem? (i := 148) rfl)
theorem kw_2069 : (Jvm.Cond.lays "RaceByLapsModel" "RaceByLapsModel" "bestPlace" "I") ∈ lw_tbl := tw_tb9 (List.mem_of_getElem? (i := 149) rfl)
theorem kw_2070 : (Jvm.Cond.soleField "RaceByLapsModel" "bestPlace") ∈ lw_tbl := tw_tb9 (List.mem_of_getElem? (i := 150) rfl)
theorem kw_2071 : (Jvm.Cond.lays "RaceByLapsModel" "RaceByLapsModel" "bestSum" "I") ∈ lw_tbl := tw_tb9 (List.mem_of_getElem? (i := 151) rfl)
theorem kw_2072 : (Jvm.Cond.soleField "RaceByLapsModel" "bestSum") ∈ lw_tbl := tw_tb9 (List.mem_of_getElem? (i := 152) rfl)
theorem kw_2073 : (Jvm.Cond.laysFinal "RaceByLapsModel" "RaceByLapsModel" "bestLaps" "[I") ∈ lw_tbl := tw_tb9 (List.mem_of_getElem? (i := 153) rfl)
theorem kw_2074 : (Jvm.Cond.soleField "RaceByLapsModel" "bestLaps") ∈ lw_tbl := tw_tb9 (List.mem_of_getElem? (i := 154) rfl)
theorem kw_2075 : (Jvm.Cond.laysFinal "RaceByLapsModel" "RaceByLapsModel" "bestSets" "[I") ∈ lw_tbl := tw_tb9 (List.mem_of_getElem? (i := 155) rfl)
theorem kw_2076 : (Jvm.Cond.soleField "RaceByLapsModel" "bestSets") ∈ lw_tbl := tw_tb9 (List.mem_of_getElem? (i := 156) rfl)
theorem kw_2077 : (Jvm.Cond.laysFinal "RaceByLapsModel" "RaceByLapsModel" "placeA" "[I") ∈ lw_tbl := tw_tb9 (List.mem_of_getElem? (i := 157) rfl)
theorem kw_2078 : (Jvm.Cond.soleField "RaceByLapsModel" "placeA") ∈ lw_tbl := tw_tb9 (List.mem_of_getElem? (i := 158) rfl)
theorem kw_2079 : (Jvm.Cond.laysFinal "RaceByLapsModel" "RaceByLapsModel" "sumA" "[I") ∈ lw_tbl := tw_tb9 (List.mem_of_getElem? (i := 159) rfl)
theorem kw_2080 : (Jvm.Cond.soleField "RaceByLapsModel" "sumA") ∈ lw_tbl := tw_tb9 (List.mem_of_getElem? (i := 160) rfl)
theorem kw_2081 : (Jvm.Cond.laysFinal "RaceByLapsModel" "RaceByLapsModel" "placeB" "[I") ∈ lw_tbl := tw_tb9 (List.mem_of_getElem? (i := 161) rfl)
theorem kw_2082 : (Jvm.Cond.soleField "RaceByLapsModel" "placeB") ∈ lw_tbl := tw_tb9 (List.mem_of_getElem? (i := 162) rfl)
theorem kw_2083 : (Jvm.Cond.laysFinal "RaceByLapsModel" "RaceByLapsModel" "sumB" "[I") ∈ lw_tbl := tw_tb9 (List.mem_of_getElem? (i := 163) rfl)
theorem kw_2084 : (Jvm.Cond.soleField "RaceByLapsModel" "sumB") ∈ lw_tbl := tw_tb9 (List.mem_of_getElem? (i := 164) rfl)
theorem kw_2085 : (Jvm.Cond.superclass "RaceByLapsModel" "java/lang/Object") ∈ lw_tbl := tw_tb9 (List.mem_of_getElem? (i := 165) rfl)
theorem kw_2086 : (Jvm.Cond.methodLink "RaceByLapsLaw" (197 : Nat) ({ cls := "RaceByLapsModel", name := "row", desc := "(I)I" } : Jvm.MethodName)) ∈ lw_tbl := tw_tb9 (List.mem_of_getElem? (i := 166) rfl)
theorem kw_2087 : (Jvm.Cond.instanceMethod ({ cls := "RaceByLapsModel", name := "row", desc := "(I)I" } : Jvm.MethodName)) ∈ lw_tbl := tw_tb9 (List.mem_of_getElem? (i := 167) rfl)
theorem kw_2088 : (Jvm.Cond.selects "RaceByLapsModel" ({ cls := "RaceByLapsModel", name := "row", desc := "(I)I" } : Jvm.MethodName) ({ cls := "RaceByLapsModel", name := "row", desc := "(I)I" } : Jvm.MethodName)) ∈ lw_tbl := tw_tb9 (List.mem_of_getElem? (i := 168) rfl)
theorem kw_2089 : (Jvm.Cond.code ({ cls := "RaceByLapsModel", name := "row", desc := "(I)I" } : Jvm.MethodName) prog_14_method_108_code (2 : Nat) (Option.some Jvm.ClassFile.FieldType.int)) ∈ lw_tbl := tw_tb9 (List.mem_of_getElem? (i := 169) rfl)
theorem kw_2090 : (Jvm.Cond.arrayClass Jvm.ClassFile.FieldType.long) ∈ lw_tbl := tw_tb9 (List.mem_of_getElem? (i := 170) rfl)
theorem kw_2091 : (Jvm.Cond.sameMethod "java/lang/Throwable" "java/lang/Throwable" "fillInStackTrace" "(I)Ljava/lang/Throwable;") ∈ lw_tbl := tw_tb9 (List.mem_of_getElem? (i := 171) rfl)
theorem kw_2092 : (Jvm.Cond.castable "RaceByLaps" "java/lang/Object") ∈ lw_tbl := tw_tb9 (List.mem_of_getElem? (i := 172) rfl)
theorem kw_2093 : (Jvm.Cond.castable "RaceByLaps$Reckoner" "java/lang/Object") ∈ lw_tbl := tw_tb9 (List.mem_of_getElem? (i := 173) rfl)
theorem kw_2094 : (Jvm.Cond.castable "RaceByLaps$Track" "java/lang/Object") ∈ lw_tbl := tw_tb9 (List.mem_of_getElem? (i := 174) rfl)
theorem kw_2095 : (Jvm.Cond.castable "RaceByLaps$Table" "java/lang/Object") ∈ lw_tbl := tw_tb9 (List.mem_of_getElem? (i := 175) rfl)
theorem kw_2096 : (Jvm.Cond.castable "RaceByLaps$Race" "java/lang/Object") ∈ lw_tbl := tw_tb9 (List.mem_of_getElem? (i := 176) rfl)
theorem kw_2097 : (Jvm.Cond.castable "RaceByLaps$Car" "java/lang/Object") ∈ lw_tbl := tw_tb9 (List.mem_of_getElem? (i := 177) rfl)
theorem kw_2098 : (Jvm.Cond.castable "RaceByLaps$Text" "java/lang/Object") ∈ lw_tbl := tw_tb9 (List.mem_of_getElem? (i := 178) rfl)
theorem kw_2099 : (Jvm.Cond.castable "RaceByLaps$Runner" "java/lang/Object") ∈ lw_tbl := tw_tb9 (List.mem_of_getElem? (i := 179) rfl)
theorem kw_2100 : (Jvm.Cond.castable "RaceByLaps$Book" "java/lang/Object") ∈ lw_tbl := tw_tb9 (List.mem_of_getElem? (i := 180) rfl)
theorem kw_2101 : (Jvm.Cond.castable "RaceByLaps$Result" "java/lang/Object") ∈ lw_tbl := tw_tb9 (List.mem_of_getElem? (i := 181) rfl)
theorem kw_2102 : (Jvm.Cond.castable "RaceByLaps$Tries" "java/lang/Object") ∈ lw_tbl := tw_tb9 (List.mem_of_getElem? (i := 182) rfl)
theorem kw_2103 : (Jvm.Cond.castable "RaceByLaps$Reader" "java/lang/Object") ∈ lw_tbl := tw_tb9 (List.mem_of_getElem? (i := 183) rfl)
theorem kw_2104 : (Jvm.Cond.castable "RaceByLapsModel" "java/lang/Object") ∈ lw_tbl := tw_tb9 (List.mem_of_getElem? (i := 184) rfl)
theorem kw_2105 : (Jvm.Cond.castable "java/util/NoSuchElementException" "java/lang/Object") ∈ lw_tbl := tw_tb9 (List.mem_of_getElem? (i := 185) rfl)
theorem kw_2106 : (Jvm.Cond.castable "java/lang/Throwable" "java/lang/Object") ∈ lw_tbl := tw_tb9 (List.mem_of_getElem? (i := 186) rfl)
theorem kw_2107 : (Jvm.Cond.castable "java/lang/String" "java/lang/Object") ∈ lw_tbl := tw_tb9 (List.mem_of_getElem? (i := 187) rfl)
theorem kw_2108 : (Jvm.Cond.fieldLink "java/lang/String" (15 : Nat) "java/lang/String" "coder" "B") ∈ lw_tbl := tw_tb9 (List.mem_of_getElem? (i := 188) rfl)
theorem kw_2109 : (Jvm.Cond.fieldLink "java/lang/String" (9 : Nat) "java/lang/String" "value" "[B") ∈ lw_tbl := tw_tb9 (List.mem_of_getElem? (i := 189) rfl)
def lw_g : List Cond := lw_tbl.filter goodWord
theorem tw_good : ∀ w ∈ lw_g, goodWord w = true := fun w h => (List.mem_filter.mp h).2
theorem tw_gl {w : Cond} (h : w ∈ lw_tbl) (g : goodWord w = true) : w ∈ lw_g := List.mem_filter.mpr ⟨h, g⟩
end
section
/-! ===== BEGIN printed: names, fields, word lists, decode rows ===== -/
def RX0 : String := "RaceByLaps$Book"
def TX0 : u_T := fun k => match k with
  | 0 => ("RaceByLaps$Book", "reckoner", "LRaceByLaps$Reckoner;", true)
  | 1 => ("RaceByLaps$Book", "rules", "[LRaceByLaps$Text;", true)
  | 2 => ("RaceByLaps$Book", "fromDay", "[I", true)
  | 3 => ("RaceByLaps$Book", "ruleCount", "I", false)
  | _ => ("RaceByLaps$Book", "findings", "LRaceByLaps$Table;", true)
def tyX0 : Nat → FieldType := fun k => match k with
  | 0 => .object "RaceByLaps$Reckoner"
  | 1 => .array (.object "RaceByLaps$Text")
  | 2 => .array .int
  | 3 => .int
  | _ => .object "RaceByLaps$Table"
abbrev wsX00 : List Cond := u_ws RX0 TX0 5
theorem nmX0 : ∀ a, a < 5 → ∀ b, b < 5 → a ≠ b → (TX0 a).2.1 ≠ (TX0 b).2.1 := by decide +kernel
theorem tyX0_ok : ∀ k, k < 5 → parseFieldDescriptor (TX0 k).2.2.1 = some (tyX0 k) := by decide +kernel
abbrev cX0_init : ByteArray := prog_2_method_1_code
def yX0_init : MethodName := ⟨RX0, "<init>", "(LRaceByLaps$Reckoner;)V"⟩
abbrev cX0_takeRule : ByteArray := prog_2_method_2_code
def yX0_takeRule : MethodName := ⟨RX0, "takeRule", "(LRaceByLaps$Text;I)LRaceByLaps$Text;"⟩
abbrev cX0_weightBy : ByteArray := prog_2_method_3_code
def yX0_weightBy : MethodName := ⟨RX0, "weightBy", "(II)I"⟩
abbrev cX0_timeBy : ByteArray := prog_2_method_4_code
def yX0_timeBy : MethodName := ⟨RX0, "timeBy", "(II)I"⟩
abbrev cX0_isOf : ByteArray := prog_2_method_5_code
def yX0_isOf : MethodName := ⟨RX0, "isOf", "(III)Z"⟩
abbrev cX0_secondsBy : ByteArray := prog_2_method_6_code
def yX0_secondsBy : MethodName := ⟨RX0, "secondsBy", "(LRaceByLaps$Car;LRaceByLaps$Runner;III)I"⟩
def RX1 : String := "RaceByLaps$Car"
def TX1 : u_T := fun k => match k with
  | 0 => ("RaceByLaps$Car", "off", "I", false)
  | 1 => ("RaceByLaps$Car", "tank", "I", false)
  | 2 => ("RaceByLaps$Car", "burn", "I", false)
  | 3 => ("RaceByLaps$Car", "team", "I", false)
  | 4 => ("RaceByLaps$Car", "clas", "I", false)
  | 5 => ("RaceByLaps$Car", "fuel", "I", false)
  | 6 => ("RaceByLaps$Car", "sets", "LRaceByLaps$Table;", true)
  | 7 => ("RaceByLaps$Car", "orders", "LRaceByLaps$Table;", true)
  | 8 => ("RaceByLaps$Car", "stops", "LRaceByLaps$Table;", true)
  | 9 => ("RaceByLaps$Car", "options", "LRaceByLaps$Table;", true)
  | 10 => ("RaceByLaps$Car", "triedStops", "LRaceByLaps$Table;", true)
  | 11 => ("RaceByLaps$Car", "plan", "LRaceByLaps$Text;", false)
  | 12 => ("RaceByLaps$Car", "hasPlan", "Z", false)
  | _ => ("RaceByLaps$Car", "isTried", "Z", false)
def tyX1 : Nat → FieldType := fun k => match k with
  | 0 => .int
  | 1 => .int
  | 2 => .int
  | 3 => .int
  | 4 => .int
  | 5 => .int
  | 6 => .object "RaceByLaps$Table"
  | 7 => .object "RaceByLaps$Table"
  | 8 => .object "RaceByLaps$Table"
  | 9 => .object "RaceByLaps$Table"
  | 10 => .object "RaceByLaps$Table"
  | 11 => .object "RaceByLaps$Text"
  | 12 => .boolean
  | _ => .boolean
abbrev wsX10 : List Cond := u_ws RX1 TX1 14
theorem nmX1 : ∀ a, a < 14 → ∀ b, b < 14 → a ≠ b → (TX1 a).2.1 ≠ (TX1 b).2.1 := by decide +kernel
theorem tyX1_ok : ∀ k, k < 14 → parseFieldDescriptor (TX1 k).2.2.1 = some (tyX1 k) := by decide +kernel
abbrev cX1_init : ByteArray := prog_3_method_1_code
def yX1_init : MethodName := ⟨RX1, "<init>", "()V"⟩
abbrev cX1_forget : ByteArray := prog_3_method_2_code
def yX1_forget : MethodName := ⟨RX1, "forget", "()V"⟩
abbrev cX1_stopsInForce : ByteArray := prog_3_method_3_code
def yX1_stopsInForce : MethodName := ⟨RX1, "stopsInForce", "()LRaceByLaps$Table;"⟩
abbrev cX1_isAsked : ByteArray := prog_3_method_4_code
def yX1_isAsked : MethodName := ⟨RX1, "isAsked", "()Z"⟩
abbrev cX1_stopBehind : ByteArray := prog_3_method_5_code
def yX1_stopBehind : MethodName := ⟨RX1, "stopBehind", "(I)I"⟩
abbrev cX1_tryOption : ByteArray := prog_3_method_6_code
def yX1_tryOption : MethodName := ⟨RX1, "tryOption", "(I)V"⟩
def RX2 : String := "RaceByLaps$Race"
def TX2 : u_T := fun k => match k with
  | 0 => ("RaceByLaps$Race", "track", "LRaceByLaps$Track;", true)
  | 1 => ("RaceByLaps$Race", "reckoner", "LRaceByLaps$Reckoner;", true)
  | 2 => ("RaceByLaps$Race", "cars", "[LRaceByLaps$Car;", true)
  | 3 => ("RaceByLaps$Race", "runners", "[LRaceByLaps$Runner;", true)
  | 4 => ("RaceByLaps$Race", "boxFree", "[I", true)
  | 5 => ("RaceByLaps$Race", "count", "I", false)
  | 6 => ("RaceByLaps$Race", "turn", "I", false)
  | _ => ("RaceByLaps$Race", "fresh", "Z", false)
def tyX2 : Nat → FieldType := fun k => match k with
  | 0 => .object "RaceByLaps$Track"
  | 1 => .object "RaceByLaps$Reckoner"
  | 2 => .array (.object "RaceByLaps$Car")
  | 3 => .array (.object "RaceByLaps$Runner")
  | 4 => .array .int
  | 5 => .int
  | 6 => .int
  | _ => .boolean
abbrev wsX20 : List Cond := u_ws RX2 TX2 8
theorem nmX2 : ∀ a, a < 8 → ∀ b, b < 8 → a ≠ b → (TX2 a).2.1 ≠ (TX2 b).2.1 := by decide +kernel
theorem tyX2_ok : ∀ k, k < 8 → parseFieldDescriptor (TX2 k).2.2.1 = some (tyX2 k) := by decide +kernel
abbrev cX2_init : ByteArray := prog_4_method_1_code
def yX2_init : MethodName := ⟨RX2, "<init>", "(LRaceByLaps$Track;LRaceByLaps$Reckoner;)V"⟩
abbrev cX2_has : ByteArray := prog_4_method_2_code
def yX2_has : MethodName := ⟨RX2, "has", "(I)Z"⟩
abbrev cX2_optionCount : ByteArray := prog_4_method_3_code
def yX2_optionCount : MethodName := ⟨RX2, "optionCount", "()I"⟩
abbrev cX2_reckon : ByteArray := prog_4_method_4_code
def yX2_reckon : MethodName := ⟨RX2, "reckon", "()V"⟩
abbrev cX2_run : ByteArray := prog_4_method_5_code
def yX2_run : MethodName := ⟨RX2, "run", "()V"⟩
abbrev cX2_nextToGo : ByteArray := prog_4_method_6_code
def yX2_nextToGo : MethodName := ⟨RX2, "nextToGo", "()I"⟩
abbrev cX2_goesAhead : ByteArray := prog_4_method_7_code
def yX2_goesAhead : MethodName := ⟨RX2, "goesAhead", "(LRaceByLaps$Runner;LRaceByLaps$Runner;)Z"⟩
abbrev cX2_goOn : ByteArray := prog_4_method_8_code
def yX2_goOn : MethodName := ⟨RX2, "goOn", "(ILRaceByLaps$Car;LRaceByLaps$Runner;)V"⟩
abbrev cX2_hear : ByteArray := prog_4_method_9_code
def yX2_hear : MethodName := ⟨RX2, "hear", "(LRaceByLaps$Car;LRaceByLaps$Runner;I)V"⟩
abbrev cX2_slowTime : ByteArray := prog_4_method_10_code
def yX2_slowTime : MethodName := ⟨RX2, "slowTime", "(II)I"⟩
abbrev cX2_freeTime : ByteArray := prog_4_method_11_code
def yX2_freeTime : MethodName := ⟨RX2, "freeTime", "(LRaceByLaps$Car;LRaceByLaps$Runner;II)I"⟩
abbrev cX2_heldEnd : ByteArray := prog_4_method_12_code
def yX2_heldEnd : MethodName := ⟨RX2, "heldEnd", "(IIII)I"⟩
abbrev cX2_latestBefore : ByteArray := prog_4_method_13_code
def yX2_latestBefore : MethodName := ⟨RX2, "latestBefore", "(III)I"⟩
abbrev cX2_passes : ByteArray := prog_4_method_14_code
def yX2_passes : MethodName := ⟨RX2, "passes", "(LRaceByLaps$Runner;LRaceByLaps$Runner;III)Z"⟩
abbrev cX2_endLap : ByteArray := prog_4_method_15_code
def yX2_endLap : MethodName := ⟨RX2, "endLap", "(ILRaceByLaps$Car;LRaceByLaps$Runner;II)V"⟩
abbrev cX2_isRaceWon : ByteArray := prog_4_method_16_code
def yX2_isRaceWon : MethodName := ⟨RX2, "isRaceWon", "(II)Z"⟩
abbrev cX2_setLetters : ByteArray := prog_4_method_17_code
def yX2_setLetters : MethodName := ⟨RX2, "setLetters", "(ILRaceByLaps$Car;LRaceByLaps$Runner;II)V"⟩
abbrev cX2_follow : ByteArray := prog_4_method_18_code
def yX2_follow : MethodName := ⟨RX2, "follow", "(LRaceByLaps$Text;ILRaceByLaps$Runner;I)I"⟩
abbrev cX2_freeFrom : ByteArray := prog_4_method_19_code
def yX2_freeFrom : MethodName := ⟨RX2, "freeFrom", "(I)I"⟩
abbrev cX2_atBox : ByteArray := prog_4_method_20_code
def yX2_atBox : MethodName := ⟨RX2, "atBox", "(LRaceByLaps$Car;LRaceByLaps$Runner;III)V"⟩
abbrev cX2_lapsEnded : ByteArray := prog_4_method_21_code
def yX2_lapsEnded : MethodName := ⟨RX2, "lapsEnded", "(I)I"⟩
abbrev cX2_inOrder : ByteArray := prog_4_method_22_code
def yX2_inOrder : MethodName := ⟨RX2, "inOrder", "(II)I"⟩
abbrev cX2_aheadAt : ByteArray := prog_4_method_23_code
def yX2_aheadAt : MethodName := ⟨RX2, "aheadAt", "(III)I"⟩
abbrev cX2_spanAt : ByteArray := prog_4_method_24_code
def yX2_spanAt : MethodName := ⟨RX2, "spanAt", "(IIZ)I"⟩
abbrev cX2_endedByWall : ByteArray := prog_4_method_25_code
def yX2_endedByWall : MethodName := ⟨RX2, "endedByWall", "(II)I"⟩
def RX3 : String := "RaceByLaps$Reader"
def TX3 : u_T := fun k => match k with
  | 0 => ("RaceByLaps$Reader", "waiting", "[I", true)
  | 1 => ("RaceByLaps$Reader", "waitingCount", "I", false)
  | 2 => ("RaceByLaps$Reader", "comparedOutside", "[Z", true)
  | 3 => ("RaceByLaps$Reader", "depth", "I", false)
  | 4 => ("RaceByLaps$Reader", "compared", "Z", false)
  | 5 => ("RaceByLaps$Reader", "digits", "I", false)
  | 6 => ("RaceByLaps$Reader", "state", "I", false)
  | 7 => ("RaceByLaps$Reader", "isPlan", "Z", false)
  | _ => ("RaceByLaps$Reader", "into", "LRaceByLaps$Text;", false)
def tyX3 : Nat → FieldType := fun k => match k with
  | 0 => .array .int
  | 1 => .int
  | 2 => .array .boolean
  | 3 => .int
  | 4 => .boolean
  | 5 => .int
  | 6 => .int
  | 7 => .boolean
  | _ => .object "RaceByLaps$Text"
abbrev wsX30 : List Cond := u_ws RX3 TX3 9
theorem nmX3 : ∀ a, a < 9 → ∀ b, b < 9 → a ≠ b → (TX3 a).2.1 ≠ (TX3 b).2.1 := by decide +kernel
theorem tyX3_ok : ∀ k, k < 9 → parseFieldDescriptor (TX3 k).2.2.1 = some (tyX3 k) := by decide +kernel
abbrev cX3_init : ByteArray := prog_5_method_1_code
def yX3_init : MethodName := ⟨RX3, "<init>", "()V"⟩
abbrev cX3_firstWrong : ByteArray := prog_5_method_2_code
def yX3_firstWrong : MethodName := ⟨RX3, "firstWrong", "([IILRaceByLaps$Text;Z)I"⟩
abbrev cX3_beginLine : ByteArray := prog_5_method_3_code
def yX3_beginLine : MethodName := ⟨RX3, "beginLine", "()V"⟩
abbrev cX3_takes : ByteArray := prog_5_method_4_code
def yX3_takes : MethodName := ⟨RX3, "takes", "(I)Z"⟩
abbrev cX3_takesOperand : ByteArray := prog_5_method_5_code
def yX3_takesOperand : MethodName := ⟨RX3, "takesOperand", "(I)Z"⟩
abbrev cX3_takesBehindOperand : ByteArray := prog_5_method_6_code
def yX3_takesBehindOperand : MethodName := ⟨RX3, "takesBehindOperand", "(I)Z"⟩
abbrev cX3_joins : ByteArray := prog_5_method_7_code
def yX3_joins : MethodName := ⟨RX3, "joins", "(I)Z"⟩
abbrev cX3_opens : ByteArray := prog_5_method_8_code
def yX3_opens : MethodName := ⟨RX3, "opens", "()Z"⟩
abbrev cX3_closes : ByteArray := prog_5_method_9_code
def yX3_closes : MethodName := ⟨RX3, "closes", "()Z"⟩
abbrev cX3_endsCondition : ByteArray := prog_5_method_10_code
def yX3_endsCondition : MethodName := ⟨RX3, "endsCondition", "()Z"⟩
abbrev cX3_takesVerdict : ByteArray := prog_5_method_11_code
def yX3_takesVerdict : MethodName := ⟨RX3, "takesVerdict", "(I)Z"⟩
abbrev cX3_takesSeconds : ByteArray := prog_5_method_12_code
def yX3_takesSeconds : MethodName := ⟨RX3, "takesSeconds", "(I)Z"⟩
abbrev cX3_takesAct : ByteArray := prog_5_method_13_code
def yX3_takesAct : MethodName := ⟨RX3, "takesAct", "(I)Z"⟩
abbrev cX3_takesBox : ByteArray := prog_5_method_14_code
def yX3_takesBox : MethodName := ⟨RX3, "takesBox", "(I)Z"⟩
abbrev cX3_hold : ByteArray := prog_5_method_15_code
def yX3_hold : MethodName := ⟨RX3, "hold", "(I)V"⟩
abbrev cX3_release : ByteArray := prog_5_method_16_code
def yX3_release : MethodName := ⟨RX3, "release", "(I)V"⟩
abbrev cX3_isLetter : ByteArray := prog_5_method_17_code
def yX3_isLetter : MethodName := ⟨RX3, "isLetter", "(I)Z"⟩
abbrev cX3_isDigit : ByteArray := prog_5_method_18_code
def yX3_isDigit : MethodName := ⟨RX3, "isDigit", "(I)Z"⟩
abbrev cX3_levelOf : ByteArray := prog_5_method_19_code
def yX3_levelOf : MethodName := ⟨RX3, "levelOf", "(I)I"⟩
def RX4 : String := "RaceByLaps$Reckoner"
def TX4 : u_T := fun k => match k with
  | 0 => ("RaceByLaps$Reckoner", "letters", "[I", true)
  | _ => ("RaceByLaps$Reckoner", "stack", "[I", true)
def tyX4 : Nat → FieldType := fun k => match k with
  | 0 => .array .int
  | _ => .array .int
abbrev wsX40 : List Cond := u_ws RX4 TX4 2
theorem nmX4 : ∀ a, a < 2 → ∀ b, b < 2 → a ≠ b → (TX4 a).2.1 ≠ (TX4 b).2.1 := by decide +kernel
theorem tyX4_ok : ∀ k, k < 2 → parseFieldDescriptor (TX4 k).2.2.1 = some (tyX4 k) := by decide +kernel
abbrev cX4_init : ByteArray := prog_6_method_1_code
def yX4_init : MethodName := ⟨RX4, "<init>", "()V"⟩
abbrev cX4_let : ByteArray := prog_6_method_2_code
def yX4_let : MethodName := ⟨RX4, "let", "(CI)V"⟩
abbrev cX4_firstTrue : ByteArray := prog_6_method_3_code
def yX4_firstTrue : MethodName := ⟨RX4, "firstTrue", "(LRaceByLaps$Text;)I"⟩
abbrev cX4_holds : ByteArray := prog_6_method_4_code
def yX4_holds : MethodName := ⟨RX4, "holds", "(LRaceByLaps$Text;I)Z"⟩
abbrev cX4_valueOf : ByteArray := prog_6_method_5_code
def yX4_valueOf : MethodName := ⟨RX4, "valueOf", "(I)I"⟩
abbrev cX4_join : ByteArray := prog_6_method_6_code
def yX4_join : MethodName := ⟨RX4, "join", "(III)I"⟩
def RX5 : String := "RaceByLaps$Result"
def TX5 : u_T := fun k => match k with
  | 0 => ("RaceByLaps$Result", "race", "LRaceByLaps$Race;", true)
  | 1 => ("RaceByLaps$Result", "book", "LRaceByLaps$Book;", true)
  | 2 => ("RaceByLaps$Result", "counted", "[Z", true)
  | 3 => ("RaceByLaps$Result", "laps", "[I", true)
  | _ => ("RaceByLaps$Result", "sums", "[I", true)
def tyX5 : Nat → FieldType := fun k => match k with
  | 0 => .object "RaceByLaps$Race"
  | 1 => .object "RaceByLaps$Book"
  | 2 => .array .boolean
  | 3 => .array .int
  | _ => .array .int
abbrev wsX50 : List Cond := u_ws RX5 TX5 5
theorem nmX5 : ∀ a, a < 5 → ∀ b, b < 5 → a ≠ b → (TX5 a).2.1 ≠ (TX5 b).2.1 := by decide +kernel
theorem tyX5_ok : ∀ k, k < 5 → parseFieldDescriptor (TX5 k).2.2.1 = some (tyX5 k) := by decide +kernel
abbrev cX5_init : ByteArray := prog_7_method_1_code
def yX5_init : MethodName := ⟨RX5, "<init>", "(LRaceByLaps$Race;LRaceByLaps$Book;)V"⟩
abbrev cX5_reckonFor : ByteArray := prog_7_method_2_code
def yX5_reckonFor : MethodName := ⟨RX5, "reckonFor", "(I)V"⟩
abbrev cX5_placeAmong : ByteArray := prog_7_method_3_code
def yX5_placeAmong : MethodName := ⟨RX5, "placeAmong", "(II)I"⟩
abbrev cX5_isAhead : ByteArray := prog_7_method_4_code
def yX5_isAhead : MethodName := ⟨RX5, "isAhead", "(II)Z"⟩
abbrev cX5_triedPlace : ByteArray := prog_7_method_5_code
def yX5_triedPlace : MethodName := ⟨RX5, "triedPlace", "(I)I"⟩
abbrev cX5_triedSum : ByteArray := prog_7_method_6_code
def yX5_triedSum : MethodName := ⟨RX5, "triedSum", "(I)I"⟩
def RX6 : String := "RaceByLaps$Runner"
def TX6 : u_T := fun k => match k with
  | 0 => ("RaceByLaps$Runner", "next", "I", false)
  | 1 => ("RaceByLaps$Runner", "begun", "I", false)
  | 2 => ("RaceByLaps$Runner", "ended", "I", false)
  | 3 => ("RaceByLaps$Runner", "state", "I", false)
  | 4 => ("RaceByLaps$Runner", "stateTime", "I", false)
  | 5 => ("RaceByLaps$Runner", "stopsMade", "I", false)
  | 6 => ("RaceByLaps$Runner", "kinds", "I", false)
  | 7 => ("RaceByLaps$Runner", "offences", "I", false)
  | 8 => ("RaceByLaps$Runner", "fuel", "I", false)
  | 9 => ("RaceByLaps$Runner", "setOn", "I", false)
  | 10 => ("RaceByLaps$Runner", "passed", "I", false)
  | 11 => ("RaceByLaps$Runner", "held", "I", false)
  | 12 => ("RaceByLaps$Runner", "lostAtBox", "I", false)
  | 13 => ("RaceByLaps$Runner", "mode", "I", false)
  | 14 => ("RaceByLaps$Runner", "bold", "I", false)
  | 15 => ("RaceByLaps$Runner", "ages", "[I", true)
  | 16 => ("RaceByLaps$Runner", "times", "[I", true)
  | 17 => ("RaceByLaps$Runner", "linesDone", "[I", true)
  | 18 => ("RaceByLaps$Runner", "turnIn", "[I", true)
  | _ => ("RaceByLaps$Runner", "endIn", "[I", true)
def tyX6 : Nat → FieldType := fun k => match k with
  | 0 => .int
  | 1 => .int
  | 2 => .int
  | 3 => .int
  | 4 => .int
  | 5 => .int
  | 6 => .int
  | 7 => .int
  | 8 => .int
  | 9 => .int
  | 10 => .int
  | 11 => .int
  | 12 => .int
  | 13 => .int
  | 14 => .int
  | 15 => .array .int
  | 16 => .array .int
  | 17 => .array .int
  | 18 => .array .int
  | _ => .array .int
abbrev wsX60 : List Cond := u_ws RX6 TX6 20
theorem nmX6 : ∀ a, a < 20 → ∀ b, b < 20 → a ≠ b → (TX6 a).2.1 ≠ (TX6 b).2.1 := by decide +kernel
theorem tyX6_ok : ∀ k, k < 20 → parseFieldDescriptor (TX6 k).2.2.1 = some (tyX6 k) := by decide +kernel
abbrev cX6_init : ByteArray := prog_8_method_1_code
def yX6_init : MethodName := ⟨RX6, "<init>", "()V"⟩
abbrev cX6_start : ByteArray := prog_8_method_2_code
def yX6_start : MethodName := ⟨RX6, "start", "(LRaceByLaps$Car;I)V"⟩
abbrev cX6_age : ByteArray := prog_8_method_3_code
def yX6_age : MethodName := ⟨RX6, "age", "()I"⟩
abbrev cX6_wear : ByteArray := prog_8_method_4_code
def yX6_wear : MethodName := ⟨RX6, "wear", "()V"⟩
abbrev cX6_rest : ByteArray := prog_8_method_5_code
def yX6_rest : MethodName := ⟨RX6, "rest", "(II)V"⟩
abbrev cX6_endLine : ByteArray := prog_8_method_6_code
def yX6_endLine : MethodName := ⟨RX6, "endLine", "(IIII)V"⟩
abbrev cX6_timeAt : ByteArray := prog_8_method_7_code
def yX6_timeAt : MethodName := ⟨RX6, "timeAt", "(I)I"⟩
abbrev cX6_timeOrStart : ByteArray := prog_8_method_8_code
def yX6_timeOrStart : MethodName := ⟨RX6, "timeOrStart", "(I)I"⟩
abbrev cX6_tell : ByteArray := prog_8_method_9_code
def yX6_tell : MethodName := ⟨RX6, "tell", "(I)I"⟩
def RX7 : String := "RaceByLaps$Table"
def TX7 : u_T := fun k => match k with
  | 0 => ("RaceByLaps$Table", "limit", "I", true)
  | 1 => ("RaceByLaps$Table", "width", "I", true)
  | 2 => ("RaceByLaps$Table", "cells", "[I", true)
  | _ => ("RaceByLaps$Table", "size", "I", false)
def tyX7 : Nat → FieldType := fun k => match k with
  | 0 => .int
  | 1 => .int
  | 2 => .array .int
  | _ => .int
abbrev wsX70 : List Cond := u_ws RX7 TX7 4
theorem nmX7 : ∀ a, a < 4 → ∀ b, b < 4 → a ≠ b → (TX7 a).2.1 ≠ (TX7 b).2.1 := by decide +kernel
theorem tyX7_ok : ∀ k, k < 4 → parseFieldDescriptor (TX7 k).2.2.1 = some (tyX7 k) := by decide +kernel
abbrev cX7_init : ByteArray := prog_9_method_1_code
def yX7_init : MethodName := ⟨RX7, "<init>", "(II)V"⟩
abbrev cX7_isFull : ByteArray := prog_9_method_2_code
def yX7_isFull : MethodName := ⟨RX7, "isFull", "()Z"⟩
abbrev cX7_cell : ByteArray := prog_9_method_3_code
def yX7_cell : MethodName := ⟨RX7, "cell", "(II)I"⟩
abbrev cX7_put : ByteArray := prog_9_method_4_code
def yX7_put : MethodName := ⟨RX7, "put", "(III)V"⟩
abbrev cX7_push : ByteArray := prog_9_method_5_code
def yX7_push : MethodName := ⟨RX7, "push", "(IIII)I"⟩
abbrev cX7_removeAt : ByteArray := prog_9_method_6_code
def yX7_removeAt : MethodName := ⟨RX7, "removeAt", "(I)I"⟩
def RX8 : String := "RaceByLaps$Text"
def TX8 : u_T := fun k => match k with
  | 0 => ("RaceByLaps$Text", "code", "[I", true)
  | 1 => ("RaceByLaps$Text", "codeLength", "I", false)
  | 2 => ("RaceByLaps$Text", "conditionEnd", "[I", true)
  | 3 => ("RaceByLaps$Text", "mode", "[I", true)
  | 4 => ("RaceByLaps$Text", "bold", "[I", true)
  | 5 => ("RaceByLaps$Text", "box", "[I", true)
  | 6 => ("RaceByLaps$Text", "lines", "I", false)
  | _ => ("RaceByLaps$Text", "seconds", "I", false)
def tyX8 : Nat → FieldType := fun k => match k with
  | 0 => .array .int
  | 1 => .int
  | 2 => .array .int
  | 3 => .array .int
  | 4 => .array .int
  | 5 => .array .int
  | 6 => .int
  | _ => .int
abbrev wsX80 : List Cond := u_ws RX8 TX8 8
theorem nmX8 : ∀ a, a < 8 → ∀ b, b < 8 → a ≠ b → (TX8 a).2.1 ≠ (TX8 b).2.1 := by decide +kernel
theorem tyX8_ok : ∀ k, k < 8 → parseFieldDescriptor (TX8 k).2.2.1 = some (tyX8 k) := by decide +kernel
abbrev cX8_init : ByteArray := prog_10_method_1_code
def yX8_init : MethodName := ⟨RX8, "<init>", "()V"⟩
abbrev cX8_empty : ByteArray := prog_10_method_2_code
def yX8_empty : MethodName := ⟨RX8, "empty", "()V"⟩
abbrev cX8_emit : ByteArray := prog_10_method_3_code
def yX8_emit : MethodName := ⟨RX8, "emit", "(I)V"⟩
abbrev cX8_addDigit : ByteArray := prog_10_method_4_code
def yX8_addDigit : MethodName := ⟨RX8, "addDigit", "(I)V"⟩
abbrev cX8_endCondition : ByteArray := prog_10_method_5_code
def yX8_endCondition : MethodName := ⟨RX8, "endCondition", "()V"⟩
abbrev cX8_act : ByteArray := prog_10_method_6_code
def yX8_act : MethodName := ⟨RX8, "act", "(I)V"⟩
abbrev cX8_actBox : ByteArray := prog_10_method_7_code
def yX8_actBox : MethodName := ⟨RX8, "actBox", "(I)V"⟩
def RX9 : String := "RaceByLaps$Track"
def TX9 : u_T := fun k => match k with
  | 0 => ("RaceByLaps$Track", "sectors", "I", false)
  | 1 => ("RaceByLaps$Track", "laps", "I", false)
  | 2 => ("RaceByLaps$Track", "lengths", "[I", true)
  | 3 => ("RaceByLaps$Track", "eases", "[I", true)
  | 4 => ("RaceByLaps$Track", "lostLines", "[Z", true)
  | 5 => ("RaceByLaps$Track", "tyreNumbers", "[I", true)
  | 6 => ("RaceByLaps$Track", "numbers", "[I", true)
  | 7 => ("RaceByLaps$Track", "rains", "LRaceByLaps$Table;", true)
  | _ => ("RaceByLaps$Track", "flags", "LRaceByLaps$Table;", true)
def tyX9 : Nat → FieldType := fun k => match k with
  | 0 => .int
  | 1 => .int
  | 2 => .array .int
  | 3 => .array .int
  | 4 => .array .boolean
  | 5 => .array .int
  | 6 => .array .int
  | 7 => .object "RaceByLaps$Table"
  | _ => .object "RaceByLaps$Table"
abbrev wsX90 : List Cond := u_ws RX9 TX9 9
theorem nmX9 : ∀ a, a < 9 → ∀ b, b < 9 → a ≠ b → (TX9 a).2.1 ≠ (TX9 b).2.1 := by decide +kernel
theorem tyX9_ok : ∀ k, k < 9 → parseFieldDescriptor (TX9 k).2.2.1 = some (tyX9 k) := by decide +kernel
abbrev cX9_init : ByteArray := prog_11_method_1_code
def yX9_init : MethodName := ⟨RX9, "<init>", "()V"⟩
abbrev cX9_layAnew : ByteArray := prog_11_method_2_code
def yX9_layAnew : MethodName := ⟨RX9, "layAnew", "(II)V"⟩
abbrev cX9_hasSector : ByteArray := prog_11_method_3_code
def yX9_hasSector : MethodName := ⟨RX9, "hasSector", "(I)Z"⟩
abbrev cX9_hasLine : ByteArray := prog_11_method_4_code
def yX9_hasLine : MethodName := ⟨RX9, "hasLine", "(II)Z"⟩
abbrev cX9_lineOf : ByteArray := prog_11_method_5_code
def yX9_lineOf : MethodName := ⟨RX9, "lineOf", "(II)I"⟩
abbrev cX9_sectorOf : ByteArray := prog_11_method_6_code
def yX9_sectorOf : MethodName := ⟨RX9, "sectorOf", "(I)I"⟩
abbrev cX9_lapOf : ByteArray := prog_11_method_7_code
def yX9_lapOf : MethodName := ⟨RX9, "lapOf", "(I)I"⟩
abbrev cX9_tells : ByteArray := prog_11_method_8_code
def yX9_tells : MethodName := ⟨RX9, "tells", "(I)Z"⟩
abbrev cX9_tyreNumber : ByteArray := prog_11_method_9_code
def yX9_tyreNumber : MethodName := ⟨RX9, "tyreNumber", "(II)I"⟩
abbrev cX9_wetAt : ByteArray := prog_11_method_10_code
def yX9_wetAt : MethodName := ⟨RX9, "wetAt", "(II)I"⟩
abbrev cX9_slowAt : ByteArray := prog_11_method_11_code
def yX9_slowAt : MethodName := ⟨RX9, "slowAt", "(I)Z"⟩
abbrev cX9_yellowAt : ByteArray := prog_11_method_12_code
def yX9_yellowAt : MethodName := ⟨RX9, "yellowAt", "(II)Z"⟩
def RX10 : String := "RaceByLaps$Tries"
def TX10 : u_T := fun k => match k with
  | 0 => ("RaceByLaps$Tries", "race", "LRaceByLaps$Race;", true)
  | 1 => ("RaceByLaps$Tries", "result", "LRaceByLaps$Result;", true)
  | 2 => ("RaceByLaps$Tries", "lapOf", "[I", true)
  | 3 => ("RaceByLaps$Tries", "setOf", "[I", true)
  | 4 => ("RaceByLaps$Tries", "bestWay", "[I", true)
  | 5 => ("RaceByLaps$Tries", "bestPlace", "I", false)
  | 6 => ("RaceByLaps$Tries", "bestSum", "I", false)
  | 7 => ("RaceByLaps$Tries", "placeOfA", "[I", true)
  | 8 => ("RaceByLaps$Tries", "sumOfA", "[I", true)
  | 9 => ("RaceByLaps$Tries", "placeOfB", "[I", true)
  | _ => ("RaceByLaps$Tries", "sumOfB", "[I", true)
def tyX10 : Nat → FieldType := fun k => match k with
  | 0 => .object "RaceByLaps$Race"
  | 1 => .object "RaceByLaps$Result"
  | 2 => .array .int
  | 3 => .array .int
  | 4 => .array .int
  | 5 => .int
  | 6 => .int
  | 7 => .array .int
  | 8 => .array .int
  | 9 => .array .int
  | _ => .array .int
abbrev wsX100 : List Cond := u_ws RX10 TX10 11
theorem nmX10 : ∀ a, a < 11 → ∀ b, b < 11 → a ≠ b → (TX10 a).2.1 ≠ (TX10 b).2.1 := by decide +kernel
theorem tyX10_ok : ∀ k, k < 11 → parseFieldDescriptor (TX10 k).2.2.1 = some (tyX10 k) := by decide +kernel
abbrev cX10_init : ByteArray := prog_12_method_1_code
def yX10_init : MethodName := ⟨RX10, "<init>", "(LRaceByLaps$Race;LRaceByLaps$Result;)V"⟩
abbrev cX10_search : ByteArray := prog_12_method_2_code
def yX10_search : MethodName := ⟨RX10, "search", "(III)Z"⟩
abbrev cX10_takeWay : ByteArray := prog_12_method_3_code
def yX10_takeWay : MethodName := ⟨RX10, "takeWay", "(LRaceByLaps$Car;I)V"⟩
abbrev cX10_keepWay : ByteArray := prog_12_method_4_code
def yX10_keepWay : MethodName := ⟨RX10, "keepWay", "(II)V"⟩
abbrev cX10_nextSets : ByteArray := prog_12_method_5_code
def yX10_nextSets : MethodName := ⟨RX10, "nextSets", "(II)Z"⟩
abbrev cX10_nextLaps : ByteArray := prog_12_method_6_code
def yX10_nextLaps : MethodName := ⟨RX10, "nextLaps", "(II)Z"⟩
abbrev cX10_isBetter : ByteArray := prog_12_method_7_code
def yX10_isBetter : MethodName := ⟨RX10, "isBetter", "(IIII)Z"⟩
abbrev cX10_firstSettled : ByteArray := prog_12_method_8_code
def yX10_firstSettled : MethodName := ⟨RX10, "firstSettled", "(III)I"⟩
abbrev cX10_keepPair : ByteArray := prog_12_method_9_code
def yX10_keepPair : MethodName := ⟨RX10, "keepPair", "(III)V"⟩
abbrev cX10_isSettled : ByteArray := prog_12_method_10_code
def yX10_isSettled : MethodName := ⟨RX10, "isSettled", "(IIII)Z"⟩
def RX11 : String := "RaceByLaps"
def TX11 : u_T := fun k => match k with
  | 0 => ("RaceByLaps", "track", "LRaceByLaps$Track;", true)
  | 1 => ("RaceByLaps", "race", "LRaceByLaps$Race;", true)
  | 2 => ("RaceByLaps", "book", "LRaceByLaps$Book;", true)
  | 3 => ("RaceByLaps", "result", "LRaceByLaps$Result;", true)
  | 4 => ("RaceByLaps", "tries", "LRaceByLaps$Tries;", true)
  | 5 => ("RaceByLaps", "reader", "LRaceByLaps$Reader;", true)
  | 6 => ("RaceByLaps", "tape", "[I", true)
  | 7 => ("RaceByLaps", "tapeLength", "I", false)
  | 8 => ("RaceByLaps", "rowNumbers", "[I", true)
  | 9 => ("RaceByLaps", "rowCount", "I", false)
  | _ => ("RaceByLaps", "spareText", "LRaceByLaps$Text;", false)
def tyX11 : Nat → FieldType := fun k => match k with
  | 0 => .object "RaceByLaps$Track"
  | 1 => .object "RaceByLaps$Race"
  | 2 => .object "RaceByLaps$Book"
  | 3 => .object "RaceByLaps$Result"
  | 4 => .object "RaceByLaps$Tries"
  | 5 => .object "RaceByLaps$Reader"
  | 6 => .array .int
  | 7 => .int
  | 8 => .array .int
  | 9 => .int
  | _ => .object "RaceByLaps$Text"
abbrev wsX110 : List Cond := u_ws RX11 TX11 11
theorem nmX11 : ∀ a, a < 11 → ∀ b, b < 11 → a ≠ b → (TX11 a).2.1 ≠ (TX11 b).2.1 := by decide +kernel
theorem tyX11_ok : ∀ k, k < 11 → parseFieldDescriptor (TX11 k).2.2.1 = some (tyX11 k) := by decide +kernel
abbrev cX11_init : ByteArray := prog_1_method_1_code
def yX11_init : MethodName := ⟨RX11, "<init>", "()V"⟩
abbrev cX11_track : ByteArray := prog_1_method_2_code
def yX11_track : MethodName := ⟨RX11, "track", "(II)Z"⟩
abbrev cX11_sector : ByteArray := prog_1_method_3_code
def yX11_sector : MethodName := ⟨RX11, "sector", "(III)Z"⟩
abbrev cX11_tyres : ByteArray := prog_1_method_4_code
def yX11_tyres : MethodName := ⟨RX11, "tyres", "(III)I"⟩
abbrev cX11_set : ByteArray := prog_1_method_5_code
def yX11_set : MethodName := ⟨RX11, "set", "(II)I"⟩
abbrev cX11_rain : ByteArray := prog_1_method_6_code
def yX11_rain : MethodName := ⟨RX11, "rain", "(III)I"⟩
abbrev cX11_flag : ByteArray := prog_1_method_7_code
def yX11_flag : MethodName := ⟨RX11, "flag", "(IIII)I"⟩
abbrev cX11_car : ByteArray := prog_1_method_8_code
def yX11_car : MethodName := ⟨RX11, "car", "(IIIIII)I"⟩
abbrev cX11_tyre : ByteArray := prog_1_method_9_code
def yX11_tyre : MethodName := ⟨RX11, "tyre", "(III)I"⟩
abbrev cX11_order : ByteArray := prog_1_method_10_code
def yX11_order : MethodName := ⟨RX11, "order", "(IIII)I"⟩
abbrev cX11_stop : ByteArray := prog_1_method_11_code
def yX11_stop : MethodName := ⟨RX11, "stop", "(IIII)I"⟩
abbrev cX11_drop : ByteArray := prog_1_method_12_code
def yX11_drop : MethodName := ⟨RX11, "drop", "(II)I"⟩
abbrev cX11_plan : ByteArray := prog_1_method_13_code
def yX11_plan : MethodName := ⟨RX11, "plan", "(I)I"⟩
abbrev cX11_unplan : ByteArray := prog_1_method_14_code
def yX11_unplan : MethodName := ⟨RX11, "unplan", "(I)Z"⟩
abbrev cX11_count : ByteArray := prog_1_method_15_code
def yX11_count : MethodName := ⟨RX11, "count", "(I)I"⟩
abbrev cX11_of : ByteArray := prog_1_method_16_code
def yX11_of : MethodName := ⟨RX11, "of", "(II)I"⟩
abbrev cX11_at : ByteArray := prog_1_method_17_code
def yX11_at : MethodName := ⟨RX11, "at", "(III)I"⟩
abbrev cX11_led : ByteArray := prog_1_method_18_code
def yX11_led : MethodName := ⟨RX11, "led", "(II)I"⟩
abbrev cX11_waited : ByteArray := prog_1_method_19_code
def yX11_waited : MethodName := ⟨RX11, "waited", "(I)I"⟩
abbrev cX11_leads : ByteArray := prog_1_method_20_code
def yX11_leads : MethodName := ⟨RX11, "leads", "()I"⟩
abbrev cX11_sign : ByteArray := prog_1_method_21_code
def yX11_sign : MethodName := ⟨RX11, "sign", "(I)I"⟩
abbrev cX11_end : ByteArray := prog_1_method_22_code
def yX11_end : MethodName := ⟨RX11, "end", "(I)Z"⟩
abbrev cX11_rule : ByteArray := prog_1_method_23_code
def yX11_rule : MethodName := ⟨RX11, "rule", "(I)I"⟩
abbrev cX11_finding : ByteArray := prog_1_method_24_code
def yX11_finding : MethodName := ⟨RX11, "finding", "(IIII)I"⟩
abbrev cX11_seconds : ByteArray := prog_1_method_25_code
def yX11_seconds : MethodName := ⟨RX11, "seconds", "(II)I"⟩
abbrev cX11_place : ByteArray := prog_1_method_26_code
def yX11_place : MethodName := ⟨RX11, "place", "(II)I"⟩
abbrev cX11_sum : ByteArray := prog_1_method_27_code
def yX11_sum : MethodName := ⟨RX11, "sum", "(II)I"⟩
abbrev cX11_within : ByteArray := prog_1_method_28_code
def yX11_within : MethodName := ⟨RX11, "within", "(II)I"⟩
abbrev cX11_result : ByteArray := prog_1_method_29_code
def yX11_result : MethodName := ⟨RX11, "result", "(I)I"⟩
abbrev cX11_move : ByteArray := prog_1_method_30_code
def yX11_move : MethodName := ⟨RX11, "move", "(IIII)I"⟩
abbrev cX11_best : ByteArray := prog_1_method_31_code
def yX11_best : MethodName := ⟨RX11, "best", "(III)I"⟩
abbrev cX11_gain : ByteArray := prog_1_method_32_code
def yX11_gain : MethodName := ⟨RX11, "gain", "(III)I"⟩
abbrev cX11_option : ByteArray := prog_1_method_33_code
def yX11_option : MethodName := ⟨RX11, "option", "(III)I"⟩
abbrev cX11_clear : ByteArray := prog_1_method_34_code
def yX11_clear : MethodName := ⟨RX11, "clear", "()I"⟩
abbrev cX11_settle : ByteArray := prog_1_method_35_code
def yX11_settle : MethodName := ⟨RX11, "settle", "(III)I"⟩
abbrev cX11_lost : ByteArray := prog_1_method_36_code
def yX11_lost : MethodName := ⟨RX11, "lost", "(IZ)Z"⟩
abbrev cX11_known : ByteArray := prog_1_method_37_code
def yX11_known : MethodName := ⟨RX11, "known", "(IIII)I"⟩
abbrev cX11_ahead : ByteArray := prog_1_method_38_code
def yX11_ahead : MethodName := ⟨RX11, "ahead", "(IIII)I"⟩
abbrev cX11_wall : ByteArray := prog_1_method_39_code
def yX11_wall : MethodName := ⟨RX11, "wall", "(II)I"⟩
abbrev cX11_why : ByteArray := prog_1_method_40_code
def yX11_why : MethodName := ⟨RX11, "why", "(II)I"⟩
abbrev cX11_row : ByteArray := prog_1_method_41_code
def yX11_row : MethodName := ⟨RX11, "row", "(I)I"⟩
abbrev cX11_takeTape : ByteArray := prog_1_method_42_code
def yX11_takeTape : MethodName := ⟨RX11, "takeTape", "()I"⟩
abbrev cX11_isWithin : ByteArray := prog_1_method_43_code
def yX11_isWithin : MethodName := ⟨RX11, "isWithin", "(III)Z"⟩
abbrev cX11_isIndex : ByteArray := prog_1_method_44_code
def yX11_isIndex : MethodName := ⟨RX11, "isIndex", "(II)Z"⟩
abbrev cX11_isDay : ByteArray := prog_1_method_45_code
def yX11_isDay : MethodName := ⟨RX11, "isDay", "(I)Z"⟩
def RX12 : String := "RaceByLapsModel"
def TX12 : u_T := fun k => match k with
  | 0 => ("RaceByLapsModel", "thrown", "I", false)
  | 1 => ("RaceByLapsModel", "sectors", "I", false)
  | 2 => ("RaceByLapsModel", "laps", "I", false)
  | 3 => ("RaceByLapsModel", "length", "[I", true)
  | 4 => ("RaceByLapsModel", "ease", "[I", true)
  | 5 => ("RaceByLapsModel", "isLost", "[Z", true)
  | 6 => ("RaceByLapsModel", "tyre", "[I", true)
  | 7 => ("RaceByLapsModel", "number", "[I", true)
  | 8 => ("RaceByLapsModel", "rains", "I", false)
  | 9 => ("RaceByLapsModel", "rainSector", "[I", true)
  | 10 => ("RaceByLapsModel", "rainTime", "[I", true)
  | 11 => ("RaceByLapsModel", "rainWet", "[I", true)
  | 12 => ("RaceByLapsModel", "flags", "I", false)
  | 13 => ("RaceByLapsModel", "flagSector", "[I", true)
  | 14 => ("RaceByLapsModel", "flagFrom", "[I", true)
  | 15 => ("RaceByLapsModel", "flagTo", "[I", true)
  | 16 => ("RaceByLapsModel", "flagKind", "[I", true)
  | 17 => ("RaceByLapsModel", "cars", "I", false)
  | 18 => ("RaceByLapsModel", "off", "[I", true)
  | 19 => ("RaceByLapsModel", "tank", "[I", true)
  | 20 => ("RaceByLapsModel", "burn", "[I", true)
  | 21 => ("RaceByLapsModel", "team", "[I", true)
  | 22 => ("RaceByLapsModel", "clas", "[I", true)
  | 23 => ("RaceByLapsModel", "startFuel", "[I", true)
  | 24 => ("RaceByLapsModel", "sets", "[I", true)
  | 25 => ("RaceByLapsModel", "setKind", "[I", true)
  | 26 => ("RaceByLapsModel", "setAge", "[I", true)
  | 27 => ("RaceByLapsModel", "orders", "[I", true)
  | 28 => ("RaceByLapsModel", "orderLap", "[I", true)
  | 29 => ("RaceByLapsModel", "orderWhat", "[I", true)
  | 30 => ("RaceByLapsModel", "orderTo", "[I", true)
  | 31 => ("RaceByLapsModel", "stops", "[I", true)
  | 32 => ("RaceByLapsModel", "stopLap", "[I", true)
  | 33 => ("RaceByLapsModel", "stopSet", "[I", true)
  | 34 => ("RaceByLapsModel", "stopFuel", "[I", true)
  | 35 => ("RaceByLapsModel", "hasPlan", "[Z", true)
  | 36 => ("RaceByLapsModel", "options", "[I", true)
  | 37 => ("RaceByLapsModel", "optionLap", "[I", true)
  | 38 => ("RaceByLapsModel", "optionSet", "[I", true)
  | 39 => ("RaceByLapsModel", "tape", "[I", true)
  | 40 => ("RaceByLapsModel", "taped", "I", false)
  | 41 => ("RaceByLapsModel", "at", "I", false)
  | 42 => ("RaceByLapsModel", "into", "I", false)
  | 43 => ("RaceByLapsModel", "names", "Ljava/lang/String;", false)
  | 44 => ("RaceByLapsModel", "code", "[I", true)
  | 45 => ("RaceByLapsModel", "codes", "[I", true)
  | 46 => ("RaceByLapsModel", "stack", "[I", true)
  | 47 => ("RaceByLapsModel", "behind", "I", false)
  | 48 => ("RaceByLapsModel", "spoken", "[I", true)
  | 49 => ("RaceByLapsModel", "state", "[I", true)
  | 50 => ("RaceByLapsModel", "stateTime", "[I", true)
  | 51 => ("RaceByLapsModel", "nextTime", "[I", true)
  | 52 => ("RaceByLapsModel", "begun", "[I", true)
  | 53 => ("RaceByLapsModel", "ended", "[I", true)
  | 54 => ("RaceByLapsModel", "fuel", "[I", true)
  | 55 => ("RaceByLapsModel", "on", "[I", true)
  | 56 => ("RaceByLapsModel", "age", "[I", true)
  | 57 => ("RaceByLapsModel", "mode", "[I", true)
  | 58 => ("RaceByLapsModel", "bold", "[I", true)
  | 59 => ("RaceByLapsModel", "stopped", "[I", true)
  | 60 => ("RaceByLapsModel", "kinds", "[I", true)
  | 61 => ("RaceByLapsModel", "offences", "[I", true)
  | 62 => ("RaceByLapsModel", "passes", "[I", true)
  | 63 => ("RaceByLapsModel", "heldOften", "[I", true)
  | 64 => ("RaceByLapsModel", "waitedFor", "[I", true)
  | 65 => ("RaceByLapsModel", "ends", "[I", true)
  | 66 => ("RaceByLapsModel", "began", "[I", true)
  | 67 => ("RaceByLapsModel", "beganEnd", "[I", true)
  | 68 => ("RaceByLapsModel", "boxFree", "[I", true)
  | 69 => ("RaceByLapsModel", "lineDone", "[I", true)
  | 70 => ("RaceByLapsModel", "turn", "I", false)
  | 71 => ("RaceByLapsModel", "isAlone", "[Z", true)
  | 72 => ("RaceByLapsModel", "rules", "I", false)
  | 73 => ("RaceByLapsModel", "ruleDay", "[I", true)
  | 74 => ("RaceByLapsModel", "ruleSeconds", "[I", true)
  | 75 => ("RaceByLapsModel", "findings", "I", false)
  | 76 => ("RaceByLapsModel", "findingDay", "[I", true)
  | 77 => ("RaceByLapsModel", "findingCar", "[I", true)
  | 78 => ("RaceByLapsModel", "findingWhat", "[I", true)
  | 79 => ("RaceByLapsModel", "findingTo", "[I", true)
  | 80 => ("RaceByLapsModel", "isIn", "[Z", true)
  | 81 => ("RaceByLapsModel", "sums", "[I", true)
  | 82 => ("RaceByLapsModel", "rows", "I", false)
  | 83 => ("RaceByLapsModel", "row", "[I", true)
  | 84 => ("RaceByLapsModel", "keptLap", "[I", true)
  | 85 => ("RaceByLapsModel", "keptSet", "[I", true)
  | 86 => ("RaceByLapsModel", "keptFuel", "[I", true)
  | 87 => ("RaceByLapsModel", "keptStops", "[I", true)
  | 88 => ("RaceByLapsModel", "anyTry", "Z", false)
  | 89 => ("RaceByLapsModel", "bestPlace", "I", false)
  | 90 => ("RaceByLapsModel", "bestSum", "I", false)
  | 91 => ("RaceByLapsModel", "bestLaps", "[I", true)
  | 92 => ("RaceByLapsModel", "bestSets", "[I", true)
  | 93 => ("RaceByLapsModel", "placeA", "[I", true)
  | 94 => ("RaceByLapsModel", "sumA", "[I", true)
  | 95 => ("RaceByLapsModel", "placeB", "[I", true)
  | _ => ("RaceByLapsModel", "sumB", "[I", true)
def tyX12 : Nat → FieldType := fun k => match k with
  | 0 => .int
  | 1 => .int
  | 2 => .int
  | 3 => .array .int
  | 4 => .array .int
  | 5 => .array .boolean
  | 6 => .array .int
  | 7 => .array .int
  | 8 => .int
  | 9 => .array .int
  | 10 => .array .int
  | 11 => .array .int
  | 12 => .int
  | 13 => .array .int
  | 14 => .array .int
  | 15 => .array .int
  | 16 => .array .int
  | 17 => .int
  | 18 => .array .int
  | 19 => .array .int
  | 20 => .array .int
  | 21 => .array .int
  | 22 => .array .int
  | 23 => .array .int
  | 24 => .array .int
  | 25 => .array .int
  | 26 => .array .int
  | 27 => .array .int
  | 28 => .array .int
  | 29 => .array .int
  | 30 => .array .int
  | 31 => .array .int
  | 32 => .array .int
  | 33 => .array .int
  | 34 => .array .int
  | 35 => .array .boolean
  | 36 => .array .int
  | 37 => .array .int
  | 38 => .array .int
  | 39 => .array .int
  | 40 => .int
  | 41 => .int
  | 42 => .int
  | 43 => .object "java/lang/String"
  | 44 => .array .int
  | 45 => .array .int
  | 46 => .array .int
  | 47 => .int
  | 48 => .array .int
  | 49 => .array .int
  | 50 => .array .int
  | 51 => .array .int
  | 52 => .array .int
  | 53 => .array .int
  | 54 => .array .int
  | 55 => .array .int
  | 56 => .array .int
  | 57 => .array .int
  | 58 => .array .int
  | 59 => .array .int
  | 60 => .array .int
  | 61 => .array .int
  | 62 => .array .int
  | 63 => .array .int
  | 64 => .array .int
  | 65 => .array .int
  | 66 => .array .int
  | 67 => .array .int
  | 68 => .array .int
  | 69 => .array .int
  | 70 => .int
  | 71 => .array .boolean
  | 72 => .int
  | 73 => .array .int
  | 74 => .array .int
  | 75 => .int
  | 76 => .array .int
  | 77 => .array .int
  | 78 => .array .int
  | 79 => .array .int
  | 80 => .array .boolean
  | 81 => .array .int
  | 82 => .int
  | 83 => .array .int
  | 84 => .array .int
  | 85 => .array .int
  | 86 => .array .int
  | 87 => .array .int
  | 88 => .boolean
  | 89 => .int
  | 90 => .int
  | 91 => .array .int
  | 92 => .array .int
  | 93 => .array .int
  | 94 => .array .int
  | 95 => .array .int
  | _ => .array .int
abbrev wsX120 : List Cond := u_ws RX12 TX12 97
theorem nmX12 : ∀ a, a < 97 → ∀ b, b < 97 → a ≠ b → (TX12 a).2.1 ≠ (TX12 b).2.1 := by decide +kernel
theorem tyX12_ok : ∀ k, k < 97 → parseFieldDescriptor (TX12 k).2.2.1 = some (tyX12 k) := by decide +kernel
abbrev cX12_thrown : ByteArray := prog_14_method_1_code
def yX12_thrown : MethodName := ⟨RX12, "thrown", "()I"⟩
abbrev cX12_in : ByteArray := prog_14_method_2_code
def yX12_in : MethodName := ⟨RX12, "in", "(JJJ)Z"⟩
abbrev cX12_refuse : ByteArray := prog_14_method_3_code
def yX12_refuse : MethodName := ⟨RX12, "refuse", "()I"⟩
abbrev cX12_truth : ByteArray := prog_14_method_4_code
def yX12_truth : MethodName := ⟨RX12, "truth", "(Z)I"⟩
abbrev cX12_lays : ByteArray := prog_14_method_5_code
def yX12_lays : MethodName := ⟨RX12, "lays", "(II)V"⟩
abbrev cX12_isSector : ByteArray := prog_14_method_6_code
def yX12_isSector : MethodName := ⟨RX12, "isSector", "(I)Z"⟩
abbrev cX12_isLap : ByteArray := prog_14_method_7_code
def yX12_isLap : MethodName := ⟨RX12, "isLap", "(I)Z"⟩
abbrev cX12_track : ByteArray := prog_14_method_8_code
def yX12_track : MethodName := ⟨RX12, "track", "(II)Z"⟩
abbrev cX12_sector : ByteArray := prog_14_method_9_code
def yX12_sector : MethodName := ⟨RX12, "sector", "(III)Z"⟩
abbrev cX12_mostOfTyres : ByteArray := prog_14_method_10_code
def yX12_mostOfTyres : MethodName := ⟨RX12, "mostOfTyres", "(I)I"⟩
abbrev cX12_tyres : ByteArray := prog_14_method_11_code
def yX12_tyres : MethodName := ⟨RX12, "tyres", "(III)I"⟩
abbrev cX12_mostOf : ByteArray := prog_14_method_12_code
def yX12_mostOf : MethodName := ⟨RX12, "mostOf", "(I)I"⟩
abbrev cX12_set : ByteArray := prog_14_method_13_code
def yX12_set : MethodName := ⟨RX12, "set", "(II)I"⟩
abbrev cX12_rain : ByteArray := prog_14_method_14_code
def yX12_rain : MethodName := ⟨RX12, "rain", "(III)I"⟩
abbrev cX12_flag : ByteArray := prog_14_method_15_code
def yX12_flag : MethodName := ⟨RX12, "flag", "(IIII)I"⟩
abbrev cX12_wet : ByteArray := prog_14_method_16_code
def yX12_wet : MethodName := ⟨RX12, "wet", "(II)I"⟩
abbrev cX12_isSlow : ByteArray := prog_14_method_17_code
def yX12_isSlow : MethodName := ⟨RX12, "isSlow", "(I)Z"⟩
abbrev cX12_isYellow : ByteArray := prog_14_method_18_code
def yX12_isYellow : MethodName := ⟨RX12, "isYellow", "(II)Z"⟩
abbrev cX12_isCar : ByteArray := prog_14_method_19_code
def yX12_isCar : MethodName := ⟨RX12, "isCar", "(I)Z"⟩
abbrev cX12_isStopLap : ByteArray := prog_14_method_20_code
def yX12_isStopLap : MethodName := ⟨RX12, "isStopLap", "(I)Z"⟩
abbrev cX12_car : ByteArray := prog_14_method_21_code
def yX12_car : MethodName := ⟨RX12, "car", "(IIIIII)I"⟩
abbrev cX12_tyre : ByteArray := prog_14_method_22_code
def yX12_tyre : MethodName := ⟨RX12, "tyre", "(III)I"⟩
abbrev cX12_order : ByteArray := prog_14_method_23_code
def yX12_order : MethodName := ⟨RX12, "order", "(IIII)I"⟩
abbrev cX12_isSet : ByteArray := prog_14_method_24_code
def yX12_isSet : MethodName := ⟨RX12, "isSet", "(I)Z"⟩
abbrev cX12_stop : ByteArray := prog_14_method_25_code
def yX12_stop : MethodName := ⟨RX12, "stop", "(IIII)I"⟩
abbrev cX12_puts : ByteArray := prog_14_method_26_code
def yX12_puts : MethodName := ⟨RX12, "puts", "(IIII)V"⟩
abbrev cX12_drop : ByteArray := prog_14_method_27_code
def yX12_drop : MethodName := ⟨RX12, "drop", "(II)I"⟩
abbrev cX12_unplan : ByteArray := prog_14_method_28_code
def yX12_unplan : MethodName := ⟨RX12, "unplan", "(I)Z"⟩
abbrev cX12_count : ByteArray := prog_14_method_29_code
def yX12_count : MethodName := ⟨RX12, "count", "(I)I"⟩
abbrev cX12_sign : ByteArray := prog_14_method_30_code
def yX12_sign : MethodName := ⟨RX12, "sign", "(I)I"⟩
abbrev cX12_end : ByteArray := prog_14_method_31_code
def yX12_end : MethodName := ⟨RX12, "end", "(I)Z"⟩
abbrev cX12_isSign : ByteArray := prog_14_method_32_code
def yX12_isSign : MethodName := ⟨RX12, "isSign", "(IC)Z"⟩
abbrev cX12_isOf : ByteArray := prog_14_method_33_code
def yX12_isOf : MethodName := ⟨RX12, "isOf", "(ILjava/lang/String;)Z"⟩
abbrev cX12_marks : ByteArray := prog_14_method_34_code
def yX12_marks : MethodName := ⟨RX12, "marks", "(I)V"⟩
abbrev cX12_act : ByteArray := prog_14_method_35_code
def yX12_act : MethodName := ⟨RX12, "act", "(I)I"⟩
abbrev cX12_numeral : ByteArray := prog_14_method_36_code
def yX12_numeral : MethodName := ⟨RX12, "numeral", "(I)Z"⟩
abbrev cX12_thing : ByteArray := prog_14_method_37_code
def yX12_thing : MethodName := ⟨RX12, "thing", "(I)Z"⟩
abbrev cX12_unary : ByteArray := prog_14_method_38_code
def yX12_unary : MethodName := ⟨RX12, "unary", "(I)Z"⟩
abbrev cX12_product : ByteArray := prog_14_method_39_code
def yX12_product : MethodName := ⟨RX12, "product", "(I)Z"⟩
abbrev cX12_total : ByteArray := prog_14_method_40_code
def yX12_total : MethodName := ⟨RX12, "total", "(I)Z"⟩
abbrev cX12_compared : ByteArray := prog_14_method_41_code
def yX12_compared : MethodName := ⟨RX12, "compared", "(I)Z"⟩
abbrev cX12_every : ByteArray := prog_14_method_42_code
def yX12_every : MethodName := ⟨RX12, "every", "(I)Z"⟩
abbrev cX12_some : ByteArray := prog_14_method_43_code
def yX12_some : MethodName := ⟨RX12, "some", "(I)Z"⟩
abbrev cX12_line : ByteArray := prog_14_method_44_code
def yX12_line : MethodName := ⟨RX12, "line", "(I)Z"⟩
abbrev cX12_lines : ByteArray := prog_14_method_45_code
def yX12_lines : MethodName := ⟨RX12, "lines", "(I)Z"⟩
abbrev cX12_law : ByteArray := prog_14_method_46_code
def yX12_law : MethodName := ⟨RX12, "law", "(I)Z"⟩
abbrev cX12_reads : ByteArray := prog_14_method_47_code
def yX12_reads : MethodName := ⟨RX12, "reads", "(IZ)I"⟩
abbrev cX12_plan : ByteArray := prog_14_method_48_code
def yX12_plan : MethodName := ⟨RX12, "plan", "(I)I"⟩
abbrev cX12_acted : ByteArray := prog_14_method_49_code
def yX12_acted : MethodName := ⟨RX12, "acted", "(III)I"⟩
abbrev cX12_gives : ByteArray := prog_14_method_50_code
def yX12_gives : MethodName := ⟨RX12, "gives", "(II)I"⟩
abbrev cX12_goesOn : ByteArray := prog_14_method_51_code
def yX12_goesOn : MethodName := ⟨RX12, "goesOn", "(I)Z"⟩
abbrev cX12_starts : ByteArray := prog_14_method_52_code
def yX12_starts : MethodName := ⟨RX12, "starts", "()V"⟩
abbrev cX12_runs : ByteArray := prog_14_method_53_code
def yX12_runs : MethodName := ⟨RX12, "runs", "()V"⟩
abbrev cX12_next : ByteArray := prog_14_method_54_code
def yX12_next : MethodName := ⟨RX12, "next", "()I"⟩
abbrev cX12_hears : ByteArray := prog_14_method_55_code
def yX12_hears : MethodName := ⟨RX12, "hears", "(II)V"⟩
abbrev cX12_isFront : ByteArray := prog_14_method_56_code
def yX12_isFront : MethodName := ⟨RX12, "isFront", "(I)Z"⟩
abbrev cX12_takes : ByteArray := prog_14_method_57_code
def yX12_takes : MethodName := ⟨RX12, "takes", "(IIIZ)I"⟩
abbrev cX12_latest : ByteArray := prog_14_method_58_code
def yX12_latest : MethodName := ⟨RX12, "latest", "(III)I"⟩
abbrev cX12_held : ByteArray := prog_14_method_59_code
def yX12_held : MethodName := ⟨RX12, "held", "(IIIIZ)I"⟩
abbrev cX12_goes : ByteArray := prog_14_method_60_code
def yX12_goes : MethodName := ⟨RX12, "goes", "(II)V"⟩
abbrev cX12_isOver : ByteArray := prog_14_method_61_code
def yX12_isOver : MethodName := ⟨RX12, "isOver", "(II)Z"⟩
abbrev cX12_endsLap : ByteArray := prog_14_method_62_code
def yX12_endsLap : MethodName := ⟨RX12, "endsLap", "(III)V"⟩
abbrev cX12_boxes : ByteArray := prog_14_method_63_code
def yX12_boxes : MethodName := ⟨RX12, "boxes", "(IIII)V"⟩
abbrev cX12_asks : ByteArray := prog_14_method_64_code
def yX12_asks : MethodName := ⟨RX12, "asks", "(III)I"⟩
abbrev cX12_speaks : ByteArray := prog_14_method_65_code
def yX12_speaks : MethodName := ⟨RX12, "speaks", "(III)V"⟩
abbrev cX12_of : ByteArray := prog_14_method_66_code
def yX12_of : MethodName := ⟨RX12, "of", "(II)I"⟩
abbrev cX12_at : ByteArray := prog_14_method_67_code
def yX12_at : MethodName := ⟨RX12, "at", "(III)I"⟩
abbrev cX12_ledBy : ByteArray := prog_14_method_68_code
def yX12_ledBy : MethodName := ⟨RX12, "ledBy", "(II)I"⟩
abbrev cX12_led : ByteArray := prog_14_method_69_code
def yX12_led : MethodName := ⟨RX12, "led", "(II)I"⟩
abbrev cX12_waited : ByteArray := prog_14_method_70_code
def yX12_waited : MethodName := ⟨RX12, "waited", "(I)I"⟩
abbrev cX12_leads : ByteArray := prog_14_method_71_code
def yX12_leads : MethodName := ⟨RX12, "leads", "()I"⟩
abbrev cX12_isDay : ByteArray := prog_14_method_72_code
def yX12_isDay : MethodName := ⟨RX12, "isDay", "(I)Z"⟩
abbrev cX12_rule : ByteArray := prog_14_method_73_code
def yX12_rule : MethodName := ⟨RX12, "rule", "(I)I"⟩
abbrev cX12_finding : ByteArray := prog_14_method_74_code
def yX12_finding : MethodName := ⟨RX12, "finding", "(IIII)I"⟩
abbrev cX12_weight : ByteArray := prog_14_method_75_code
def yX12_weight : MethodName := ⟨RX12, "weight", "(II)I"⟩
abbrev cX12_timeFound : ByteArray := prog_14_method_76_code
def yX12_timeFound : MethodName := ⟨RX12, "timeFound", "(II)I"⟩
abbrev cX12_secondsOf : ByteArray := prog_14_method_77_code
def yX12_secondsOf : MethodName := ⟨RX12, "secondsOf", "(II)I"⟩
abbrev cX12_seconds : ByteArray := prog_14_method_78_code
def yX12_seconds : MethodName := ⟨RX12, "seconds", "(II)I"⟩
abbrev cX12_judges : ByteArray := prog_14_method_79_code
def yX12_judges : MethodName := ⟨RX12, "judges", "(I)V"⟩
abbrev cX12_isBetter : ByteArray := prog_14_method_80_code
def yX12_isBetter : MethodName := ⟨RX12, "isBetter", "(II)Z"⟩
abbrev cX12_placeOf : ByteArray := prog_14_method_81_code
def yX12_placeOf : MethodName := ⟨RX12, "placeOf", "(IZ)I"⟩
abbrev cX12_place : ByteArray := prog_14_method_82_code
def yX12_place : MethodName := ⟨RX12, "place", "(II)I"⟩
abbrev cX12_sum : ByteArray := prog_14_method_83_code
def yX12_sum : MethodName := ⟨RX12, "sum", "(II)I"⟩
abbrev cX12_within : ByteArray := prog_14_method_84_code
def yX12_within : MethodName := ⟨RX12, "within", "(II)I"⟩
abbrev cX12_result : ByteArray := prog_14_method_85_code
def yX12_result : MethodName := ⟨RX12, "result", "(I)I"⟩
abbrev cX12_move : ByteArray := prog_14_method_86_code
def yX12_move : MethodName := ⟨RX12, "move", "(IIII)I"⟩
abbrev cX12_clears : ByteArray := prog_14_method_87_code
def yX12_clears : MethodName := ⟨RX12, "clears", "(I)V"⟩
abbrev cX12_putsBack : ByteArray := prog_14_method_88_code
def yX12_putsBack : MethodName := ⟨RX12, "putsBack", "(I)V"⟩
abbrev cX12_isAhead : ByteArray := prog_14_method_89_code
def yX12_isAhead : MethodName := ⟨RX12, "isAhead", "(IIII)Z"⟩
abbrev cX12_tries : ByteArray := prog_14_method_90_code
def yX12_tries : MethodName := ⟨RX12, "tries", "(IIIIIII)V"⟩
abbrev cX12_bests : ByteArray := prog_14_method_91_code
def yX12_bests : MethodName := ⟨RX12, "bests", "(III)Z"⟩
abbrev cX12_isAsked : ByteArray := prog_14_method_92_code
def yX12_isAsked : MethodName := ⟨RX12, "isAsked", "(III)Z"⟩
abbrev cX12_best : ByteArray := prog_14_method_93_code
def yX12_best : MethodName := ⟨RX12, "best", "(III)I"⟩
abbrev cX12_gain : ByteArray := prog_14_method_94_code
def yX12_gain : MethodName := ⟨RX12, "gain", "(III)I"⟩
abbrev cX12_option : ByteArray := prog_14_method_95_code
def yX12_option : MethodName := ⟨RX12, "option", "(III)I"⟩
abbrev cX12_clear : ByteArray := prog_14_method_96_code
def yX12_clear : MethodName := ⟨RX12, "clear", "()I"⟩
abbrev cX12_chooses : ByteArray := prog_14_method_97_code
def yX12_chooses : MethodName := ⟨RX12, "chooses", "(II)V"⟩
abbrev cX12_settle : ByteArray := prog_14_method_98_code
def yX12_settle : MethodName := ⟨RX12, "settle", "(III)I"⟩
abbrev cX12_isSettled : ByteArray := prog_14_method_99_code
def yX12_isSettled : MethodName := ⟨RX12, "isSettled", "(IIII)Z"⟩
abbrev cX12_lost : ByteArray := prog_14_method_100_code
def yX12_lost : MethodName := ⟨RX12, "lost", "(IZ)Z"⟩
abbrev cX12_knownOf : ByteArray := prog_14_method_101_code
def yX12_knownOf : MethodName := ⟨RX12, "knownOf", "(III)I"⟩
abbrev cX12_known : ByteArray := prog_14_method_102_code
def yX12_known : MethodName := ⟨RX12, "known", "(IIII)I"⟩
abbrev cX12_ahead : ByteArray := prog_14_method_103_code
def yX12_ahead : MethodName := ⟨RX12, "ahead", "(IIII)I"⟩
abbrev cX12_toldLine : ByteArray := prog_14_method_104_code
def yX12_toldLine : MethodName := ⟨RX12, "toldLine", "(II)I"⟩
abbrev cX12_wall : ByteArray := prog_14_method_105_code
def yX12_wall : MethodName := ⟨RX12, "wall", "(II)I"⟩
abbrev cX12_why : ByteArray := prog_14_method_106_code
def yX12_why : MethodName := ⟨RX12, "why", "(II)I"⟩
abbrev cX12_init : ByteArray := prog_14_method_107_code
def yX12_init : MethodName := ⟨RX12, "<init>", "()V"⟩
abbrev cX12_row : ByteArray := prog_14_method_108_code
def yX12_row : MethodName := ⟨RX12, "row", "(I)I"⟩
def RJx145de : String := "java/io/Serializable"
def TJx145de : u_T := fun k => match k with
  | _ => ("", "", "", false)
def tyJx145de : Nat → FieldType := fun k => match k with
  | _ => .int
abbrev wsJx145de0 : List Cond := u_ws RJx145de TJx145de 0
theorem nmJx145de : ∀ a, a < 0 → ∀ b, b < 0 → a ≠ b → (TJx145de a).2.1 ≠ (TJx145de b).2.1 := by decide +kernel
theorem tyJx145de_ok : ∀ k, k < 0 → parseFieldDescriptor (TJx145de k).2.2.1 = some (tyJx145de k) := by decide +kernel
def RJx9f9b0 : String := "java/lang/CharSequence"
def TJx9f9b0 : u_T := fun k => match k with
  | _ => ("", "", "", false)
def tyJx9f9b0 : Nat → FieldType := fun k => match k with
  | _ => .int
abbrev wsJx9f9b00 : List Cond := u_ws RJx9f9b0 TJx9f9b0 0
theorem nmJx9f9b0 : ∀ a, a < 0 → ∀ b, b < 0 → a ≠ b → (TJx9f9b0 a).2.1 ≠ (TJx9f9b0 b).2.1 := by decide +kernel
theorem tyJx9f9b0_ok : ∀ k, k < 0 → parseFieldDescriptor (TJx9f9b0 k).2.2.1 = some (tyJx9f9b0 k) := by decide +kernel
def RJ11 : String := "java/lang/Character"
def TJ11 : u_T := fun k => match k with
  | _ => ("", "", "", false)
def tyJ11 : Nat → FieldType := fun k => match k with
  | _ => .int
abbrev wsJ110 : List Cond := u_ws RJ11 TJ11 0
theorem nmJ11 : ∀ a, a < 0 → ∀ b, b < 0 → a ≠ b → (TJ11 a).2.1 ≠ (TJ11 b).2.1 := by decide +kernel
theorem tyJ11_ok : ∀ k, k < 0 → parseFieldDescriptor (TJ11 k).2.2.1 = some (tyJ11 k) := by decide +kernel
abbrev cJ11_isValidCodePoint_9a6ad : ByteArray := prog_17_method_11_code
def yJ11_isValidCodePoint_9a6ad : MethodName := ⟨RJ11, "isValidCodePoint", "(I)Z"⟩
abbrev cJ11_highSurrogate_5068e : ByteArray := prog_17_method_28_code
def yJ11_highSurrogate_5068e : MethodName := ⟨RJ11, "highSurrogate", "(I)C"⟩
abbrev cJ11_lowSurrogate_5068e : ByteArray := prog_17_method_29_code
def yJ11_lowSurrogate_5068e : MethodName := ⟨RJ11, "lowSurrogate", "(I)C"⟩
def RJxb160c : String := "java/lang/Comparable"
def TJxb160c : u_T := fun k => match k with
  | _ => ("", "", "", false)
def tyJxb160c : Nat → FieldType := fun k => match k with
  | _ => .int
abbrev wsJxb160c0 : List Cond := u_ws RJxb160c TJxb160c 0
theorem nmJxb160c : ∀ a, a < 0 → ∀ b, b < 0 → a ≠ b → (TJxb160c a).2.1 ≠ (TJxb160c b).2.1 := by decide +kernel
theorem tyJxb160c_ok : ∀ k, k < 0 → parseFieldDescriptor (TJxb160c k).2.2.1 = some (tyJxb160c k) := by decide +kernel
def RJ6 : String := "java/lang/Integer"
def TJ6 : u_T := fun k => match k with
  | _ => ("", "", "", false)
def tyJ6 : Nat → FieldType := fun k => match k with
  | _ => .int
abbrev wsJ60 : List Cond := u_ws RJ6 TJ6 0
theorem nmJ6 : ∀ a, a < 0 → ∀ b, b < 0 → a ≠ b → (TJ6 a).2.1 ≠ (TJ6 b).2.1 := by decide +kernel
theorem tyJ6_ok : ∀ k, k < 0 → parseFieldDescriptor (TJ6 k).2.2.1 = some (tyJ6 k) := by decide +kernel
abbrev cJ6_bitCount_0f7a4 : ByteArray := prog_20_method_49_code
def yJ6_bitCount_0f7a4 : MethodName := ⟨RJ6, "bitCount", "(I)I"⟩
def RJ9 : String := "java/lang/Math"
def TJ9 : u_T := fun k => match k with
  | _ => ("", "", "", false)
def tyJ9 : Nat → FieldType := fun k => match k with
  | _ => .int
abbrev wsJ90 : List Cond := u_ws RJ9 TJ9 0
theorem nmJ9 : ∀ a, a < 0 → ∀ b, b < 0 → a ≠ b → (TJ9 a).2.1 ≠ (TJ9 b).2.1 := by decide +kernel
theorem tyJ9_ok : ∀ k, k < 0 → parseFieldDescriptor (TJ9 k).2.2.1 = some (tyJ9 k) := by decide +kernel
abbrev cJ9_abs_0f7a4 : ByteArray := prog_21_method_59_code
def yJ9_abs_0f7a4 : MethodName := ⟨RJ9, "abs", "(I)I"⟩
abbrev cJ9_max_7cf53 : ByteArray := prog_21_method_65_code
def yJ9_max_7cf53 : MethodName := ⟨RJ9, "max", "(II)I"⟩
abbrev cJ9_min_7cf53 : ByteArray := prog_21_method_69_code
def yJ9_min_7cf53 : MethodName := ⟨RJ9, "min", "(II)I"⟩
def RJ0 : String := "java/lang/String"
def TJ0 : u_T := fun k => match k with
  | _ => ("", "", "", false)
def tyJ0 : Nat → FieldType := fun k => match k with
  | _ => .int
abbrev wsJ00 : List Cond := u_ws RJ0 TJ0 0
theorem nmJ0 : ∀ a, a < 0 → ∀ b, b < 0 → a ≠ b → (TJ0 a).2.1 ≠ (TJ0 b).2.1 := by decide +kernel
theorem tyJ0_ok : ∀ k, k < 0 → parseFieldDescriptor (TJ0 k).2.2.1 = some (tyJ0 k) := by decide +kernel
abbrev cJ0_length_8abf5 : ByteArray := prog_23_method_54_code
def yJ0_length_8abf5 : MethodName := ⟨RJ0, "length", "()I"⟩
abbrev cJ0_indexOf_0f7a4 : ByteArray := prog_23_method_79_code
def yJ0_indexOf_0f7a4 : MethodName := ⟨RJ0, "indexOf", "(I)I"⟩
abbrev cJ0_indexOf_7cf53 : ByteArray := prog_23_method_80_code
def yJ0_indexOf_7cf53 : MethodName := ⟨RJ0, "indexOf", "(II)I"⟩
abbrev cJ0_coder_7d493 : ByteArray := prog_23_method_152_code
def yJ0_coder_7d493 : MethodName := ⟨RJ0, "coder", "()B"⟩
abbrev cJ0_isLatin1_aae02 : ByteArray := prog_23_method_154_code
def yJ0_isLatin1_aae02 : MethodName := ⟨RJ0, "isLatin1", "()Z"⟩
abbrev cJ0_checkBoundsBeginEnd_23922 : ByteArray := prog_23_method_158_code
def yJ0_checkBoundsBeginEnd_23922 : MethodName := ⟨RJ0, "checkBoundsBeginEnd", "(III)V"⟩
def RJ1 : String := "java/lang/StringLatin1"
def TJ1 : u_T := fun k => match k with
  | _ => ("", "", "", false)
def tyJ1 : Nat → FieldType := fun k => match k with
  | _ => .int
abbrev wsJ10 : List Cond := u_ws RJ1 TJ1 0
theorem nmJ1 : ∀ a, a < 0 → ∀ b, b < 0 → a ≠ b → (TJ1 a).2.1 ≠ (TJ1 b).2.1 := by decide +kernel
theorem tyJ1_ok : ∀ k, k < 0 → parseFieldDescriptor (TJ1 k).2.2.1 = some (tyJ1 k) := by decide +kernel
abbrev cJ1_canEncode_9a6ad : ByteArray := prog_24_method_4_code
def yJ1_canEncode_9a6ad : MethodName := ⟨RJ1, "canEncode", "(I)Z"⟩
abbrev cJ1_indexOf_4cfef : ByteArray := prog_24_method_22_code
def yJ1_indexOf_4cfef : MethodName := ⟨RJ1, "indexOf", "([BIII)I"⟩
abbrev cJ1_indexOfChar_4cfef : ByteArray := prog_24_method_23_code
def yJ1_indexOfChar_4cfef : MethodName := ⟨RJ1, "indexOfChar", "([BIII)I"⟩
def RJ2 : String := "java/lang/StringUTF16"
def TJ2 : u_T := fun k => match k with
  | _ => ("", "", "", false)
def tyJ2 : Nat → FieldType := fun k => match k with
  | _ => .int
abbrev wsJ20 : List Cond := u_ws RJ2 TJ2 0
theorem nmJ2 : ∀ a, a < 0 → ∀ b, b < 0 → a ≠ b → (TJ2 a).2.1 ≠ (TJ2 b).2.1 := by decide +kernel
theorem tyJ2_ok : ∀ k, k < 0 → parseFieldDescriptor (TJ2 k).2.2.1 = some (tyJ2 k) := by decide +kernel
abbrev cJ2_getChar_3b067 : ByteArray := prog_25_method_5_code
def yJ2_getChar_3b067 : MethodName := ⟨RJ2, "getChar", "([BI)C"⟩
abbrev cJ2_length_9d52b : ByteArray := prog_25_method_6_code
def yJ2_length_9d52b : MethodName := ⟨RJ2, "length", "([B)I"⟩
abbrev cJ2_indexOf_4cfef : ByteArray := prog_25_method_40_code
def yJ2_indexOf_4cfef : MethodName := ⟨RJ2, "indexOf", "([BIII)I"⟩
abbrev cJ2_indexOfChar_4cfef : ByteArray := prog_25_method_47_code
def yJ2_indexOfChar_4cfef : MethodName := ⟨RJ2, "indexOfChar", "([BIII)I"⟩
abbrev cJ2_indexOfCharUnsafe_4cfef : ByteArray := prog_25_method_48_code
def yJ2_indexOfCharUnsafe_4cfef : MethodName := ⟨RJ2, "indexOfCharUnsafe", "([BIII)I"⟩
abbrev cJ2_indexOfSupplementary_4cfef : ByteArray := prog_25_method_49_code
def yJ2_indexOfSupplementary_4cfef : MethodName := ⟨RJ2, "indexOfSupplementary", "([BIII)I"⟩
abbrev cJ2_checkBoundsBeginEnd_d044e : ByteArray := prog_25_method_93_code
def yJ2_checkBoundsBeginEnd_d044e : MethodName := ⟨RJ2, "checkBoundsBeginEnd", "(II[B)V"⟩
def RJxfd54e : String := "java/lang/constant/Constable"
def TJxfd54e : u_T := fun k => match k with
  | _ => ("", "", "", false)
def tyJxfd54e : Nat → FieldType := fun k => match k with
  | _ => .int
abbrev wsJxfd54e0 : List Cond := u_ws RJxfd54e TJxfd54e 0
theorem nmJxfd54e : ∀ a, a < 0 → ∀ b, b < 0 → a ≠ b → (TJxfd54e a).2.1 ≠ (TJxfd54e b).2.1 := by decide +kernel
theorem tyJxfd54e_ok : ∀ k, k < 0 → parseFieldDescriptor (TJxfd54e k).2.2.1 = some (tyJxfd54e k) := by decide +kernel
def RJx3cf43 : String := "java/lang/constant/ConstantDesc"
def TJx3cf43 : u_T := fun k => match k with
  | _ => ("", "", "", false)
def tyJx3cf43 : Nat → FieldType := fun k => match k with
  | _ => .int
abbrev wsJx3cf430 : List Cond := u_ws RJx3cf43 TJx3cf43 0
theorem nmJx3cf43 : ∀ a, a < 0 → ∀ b, b < 0 → a ≠ b → (TJx3cf43 a).2.1 ≠ (TJx3cf43 b).2.1 := by decide +kernel
theorem tyJx3cf43_ok : ∀ k, k < 0 → parseFieldDescriptor (TJx3cf43 k).2.2.1 = some (tyJx3cf43 k) := by decide +kernel
def RJ7 : String := "java/util/Arrays"
def TJ7 : u_T := fun k => match k with
  | _ => ("", "", "", false)
def tyJ7 : Nat → FieldType := fun k => match k with
  | _ => .int
abbrev wsJ70 : List Cond := u_ws RJ7 TJ7 0
theorem nmJ7 : ∀ a, a < 0 → ∀ b, b < 0 → a ≠ b → (TJ7 a).2.1 ≠ (TJ7 b).2.1 := by decide +kernel
theorem tyJ7_ok : ∀ k, k < 0 → parseFieldDescriptor (TJ7 k).2.2.1 = some (tyJ7 k) := by decide +kernel
abbrev cJ7_fill_53178 : ByteArray := prog_29_method_103_code
def yJ7_fill_53178 : MethodName := ⟨RJ7, "fill", "([II)V"⟩
def RJ3 : String := "jdk/internal/util/Preconditions"
def TJ3 : u_T := fun k => match k with
  | _ => ("", "", "", false)
def tyJ3 : Nat → FieldType := fun k => match k with
  | _ => .int
abbrev wsJ30 : List Cond := u_ws RJ3 TJ3 0
theorem nmJ3 : ∀ a, a < 0 → ∀ b, b < 0 → a ≠ b → (TJ3 a).2.1 ≠ (TJ3 b).2.1 := by decide +kernel
theorem tyJ3_ok : ∀ k, k < 0 → parseFieldDescriptor (TJ3 k).2.2.1 = some (tyJ3 k) := by decide +kernel
abbrev cJ3_checkFromToIndex_8c36e : ByteArray := prog_31_method_12_code
def yJ3_checkFromToIndex_8c36e : MethodName := ⟨RJ3, "checkFromToIndex", "(IIILjava/util/function/BiFunction;)I"⟩
def RL : String := "RaceByLapsLaw"
abbrev cL_of : ByteArray := method_3_code
def yL_of : MethodName := ⟨RL, "of", "(LRaceByLaps;II[J)I"⟩
abbrev cL_sum : ByteArray := method_4_code
def yL_sum : MethodName := ⟨RL, "sum", "(LRaceByLaps;II[J)I"⟩
abbrev cL_row : ByteArray := method_5_code
def yL_row : MethodName := ⟨RL, "row", "(LRaceByLaps;I[J)I"⟩
abbrev cL_law : ByteArray := code
def yL_law : MethodName := ⟨RL, "law", "([I)Z"⟩
abbrev vwCl : List vw_C := [(RX0, TX0, 5), (RX1, TX1, 14), (RX2, TX2, 8), (RX3, TX3, 9), (RX4, TX4, 2), (RX5, TX5, 5), (RX6, TX6, 20), (RX7, TX7, 4), (RX8, TX8, 8), (RX9, TX9, 9), (RX10, TX10, 11), (RX11, TX11, 11), (RX12, TX12, 97)]
end
section
/-! A world by roles: N cells, role k at the address ad k with the content w k. Rows of the kit, told for it. -/
def tw_W (N : Nat) (ad : Nat → Nat) (w : Nat → va_E) : va_W := (List.range N).map (fun k => (ad k, w k))
theorem tw_W_get {N r : Nat} {ad : Nat → Nat} {w : Nat → va_E} (h : r < N) : (tw_W N ad w)[r]? = some (ad r, w r) := by simp [tw_W, h]
theorem tw_W_in {N k : Nat} {ad : Nat → Nat} {w : Nat → va_E} {q : Nat × va_E} (h : (tw_W N ad w)[k]? = some q) : k < N ∧ q = (ad k, w k) := by
  have hl := (List.getElem?_eq_some_iff.mp h).1
  have hk : k < N := by simpa [tw_W] using hl
  rw [tw_W_get hk] at h
  exact ⟨hk, (Option.some.inj h).symm⟩
theorem tw_W_set {N r : Nat} {ad : Nat → Nat} {w : Nat → va_E} {e : va_E} : (tw_W N ad w).set r (ad r, e) = tw_W N ad (va_up w r e) := by
  apply List.ext_getElem?
  intro k
  by_cases hk : k < N
  · rw [tw_W_get hk]
    by_cases hr : k = r
    · subst hr
      rw [List.getElem?_set_self (by simp [tw_W, hk]), va_up_self]
    · rw [List.getElem?_set_ne (Ne.symm hr), tw_W_get hk, va_up_ne _ _ hr]
  · rw [List.getElem?_eq_none (by simp [tw_W]; omega), List.getElem?_eq_none (by simp [tw_W]; omega)]
theorem tw_W_push {N q : Nat} {ad : Nat → Nat} {w : Nat → va_E} {e : va_E} : tw_W N ad w ++ [(q, e)] = tw_W (N + 1) (va_up ad N q) (va_up w N e) := by
  simp only [tw_W, List.range_succ, List.map_append, List.map_cons, List.map_nil, va_up_self]
  congr 1
  apply List.map_congr_left
  intro k hk
  have hk : k ≠ N := by have := List.mem_range.mp hk; omega
  rw [va_up_ne _ _ hk, va_up_ne _ _ hk]
def tw_A (N : Nat) (ad : Nat → Nat) (sz : Nat) : Nat → Prop := fun q => (∃ k : Nat, k < N ∧ q = ad k) ∨ sz ≤ q
theorem tw_D_any {A : Nat → Prop} {N : Nat} {ad : Nat → Nat} {w w' : Nat → va_E} (h : va_D A (tw_W N ad w)) : va_D A (tw_W N ad w') := by
  refine ⟨fun i j x y hi hj hxy => ?_, fun k q hk => ?_⟩
  · obtain ⟨hi1, rfl⟩ := tw_W_in hi
    obtain ⟨hj1, rfl⟩ := tw_W_in hj
    exact h.1 i j _ _ (tw_W_get hi1) (tw_W_get hj1) hxy
  · obtain ⟨hk1, rfl⟩ := tw_W_in hk
    exact h.2 k (ad k, w k) (tw_W_get hk1)
theorem tw_D_self {A : Nat → Prop} {N sz : Nat} {ad : Nat → Nat} {w : Nat → va_E} (h : va_D A (tw_W N ad w)) : va_D (tw_A N ad sz) (tw_W N ad w) :=
  ⟨h.1, fun k q hk => by obtain ⟨hk1, rfl⟩ := tw_W_in hk; exact Or.inl ⟨k, hk1, rfl⟩⟩
/-- what a launch's worlds are made of: the classes' numbers, the array classes, where the static tables lie -/
abbrev tw_G : Type := va_G × (Nat → ClassId) × (Nat → Nat)
abbrev tw_tys (G : tw_G) : List (ClassId × FieldType) := [(G.2.1 0, .int), (G.2.1 1, .boolean), (G.2.1 2, .object RX1), (G.2.1 3, .object RX6), (G.2.1 4, .object RX8), (G.2.1 5, .long)]
def tw_nwM : List (String × Nat × MethodName × String) := [("RaceByLaps$Track", 59, ⟨"RaceByLaps", "isIndex", "(II)Z"⟩, "RaceByLaps"), ("RaceByLaps$Race", 41, ⟨"RaceByLaps", "isIndex", "(II)Z"⟩, "RaceByLaps"), ("RaceByLaps$Text", 37, ⟨"RaceByLaps", "isIndex", "(II)Z"⟩, "RaceByLaps"), ("RaceByLaps$Reader", 109, ⟨"RaceByLaps", "isIndex", "(II)Z"⟩, "RaceByLaps"), ("RaceByLaps$Runner", 95, ⟨"RaceByLaps", "isIndex", "(II)Z"⟩, "RaceByLaps"), ("RaceByLaps$Reckoner", 18, ⟨"RaceByLaps", "isIndex", "(II)Z"⟩, "RaceByLaps"), ("RaceByLaps$Book", 39, ⟨"RaceByLaps", "isIndex", "(II)Z"⟩, "RaceByLaps"), ("RaceByLaps$Tries", 47, ⟨"RaceByLaps", "isWithin", "(III)Z"⟩, "RaceByLaps"), ("RaceByLaps$Result", 85, ⟨"RaceByLaps", "isIndex", "(II)Z"⟩, "RaceByLaps"), ("RaceByLaps$Tries", 147, ⟨"RaceByLaps", "isIndex", "(II)Z"⟩, "RaceByLaps")]
def tw_zn (k : Nat) : String := match k with | 0 => "NUMBERS_AT_FIRST" | 1 => "NUMBERS_LEAST" | 2 => "NUMBERS_MOST" | 3 => "TYRES_AT_FIRST" | _ => "TYRES_MOST"
def tw_zl (k : Nat) : Nat := match k with | 0 => 8 | 1 => 8 | 2 => 8 | 3 => 6 | _ => 6
def tw_zv (k j : Nat) : Int32 := (match k with | 0 => [(500 : Int32), (5 : Int32), (200 : Int32), (15000 : Int32), (3000 : Int32), (50 : Int32), (300 : Int32), (0 : Int32)] | 1 => [(100 : Int32), (0 : Int32), (0 : Int32), (0 : Int32), (0 : Int32), (0 : Int32), (0 : Int32), (0 : Int32)] | 2 => [(2000 : Int32), (50 : Int32), (500 : Int32), (60000 : Int32), (20000 : Int32), (200 : Int32), (2000 : Int32), (9 : Int32)] | 3 => [(0 : Int32), (10 : Int32), (40 : Int32), (1000 : Int32), (0 : Int32), (5 : Int32)] | _ => [(3000 : Int32), (100 : Int32), (200 : Int32), (5000 : Int32), (100 : Int32), (100 : Int32)]).getD j 0
def tw_zs (G : tw_G) (k : Nat) (A : Nat → Prop) (U : State) (H : Heap) : Prop := va_Z RX11 (tw_zn k) "[I" (.ref (G.2.2 k)) A U H ∧ va_T .int (G.2.2 k) (tw_zl k) (fun j => .int (tw_zv k j)) A U H
def tw_strs : List (String × Nat × String) := [("RaceByLaps$Reader", 125, "lrpafnokwvyth"), ("RaceByLaps$Reader", 127, "skplwcoft"), ("RaceByLapsModel", 278, "lrpafnokwvyth"), ("RaceByLapsModel", 280, "skplwcoft"), ("RaceByLapsModel", 235, "!-"), ("RaceByLapsModel", 211, "0123456789"), ("RaceByLapsModel", 249, "+-"), ("RaceByLapsModel", 254, "<>="), ("RaceByLapsModel", 262, "b+=-gh."), ("RaceByLapsModel", 264, "0123"), ("RaceByLapsModel", 595, "")]
def tw_nws (U : State) : Prop := ∀ q ∈ tw_nwM, va_Nw (.methodLinkNest q.1 q.2.1 q.2.2.1 q.2.2.2) U
def tw_E (G : tw_G) (A : Nat → Prop) (U : State) : Prop := va_K G.1 vwCl (tw_tys G) U ∧ tw_nws U ∧ (va_AO RX1 U ∧ va_AO RX6 U ∧ va_AO RX8 U) ∧ (∀ k : Nat, k < 5 → tw_zs G k A U U.heap) ∧ ∀ q ∈ tw_strs, ∃ a : Nat, vk_R q.1 q.2.1 q.2.2 a U
theorem tw_E.call {G : tw_G} {A A' : Nat → Prop} {s U : State} {H : Heap} {locs : List Loc} (h : tw_E G A s) (hS : va_S A s.heap H locs) (hU : U.heap = H) (hW : s.WarmedH U.vm) (hAA : ∀ q, A' q → A q) : tw_E G A' U := by
  obtain ⟨h1, h2, ⟨h3, h4, h5⟩, h6, h7⟩ := h
  have al := hW.alike
  refine ⟨va_K.moved al h1, fun q hq => va_Nw.warmM hW (h2 q hq), ⟨va_AO.moved al h3, va_AO.moved al h4, va_AO.moved al h5⟩, fun k hk => ?_, fun q hq => (h7 q hq).elim fun a ha => ⟨a, vk_R.warm hW ha⟩⟩
  obtain ⟨z, t⟩ := h6 k hk
  have hk' : ∀ a : Nat, a < s.heap.size → ¬ A a → U.heap[a]? = s.heap[a]? := fun a ha hA => by rw [hU]; exact hS.2.1 a ha hA
  exact ⟨((va_Z.moved al z).kept hk').narrow hAA, ((va_T.moved al t).kept hk').narrow hAA⟩
theorem tw_E.calling {G : tw_G} {A : Nat → Prop} {U : State} (g : JFrame) (mk : MethodId) (a : Array Value) (h : tw_E G A U) : tw_E G A (U.calling g mk a) := by
  obtain ⟨h1, h2, ⟨h3, h4, h5⟩, h6, h7⟩ := h
  have al : U.vm.Alike (U.calling g mk a).vm := Vm.Alike.refl U.vm
  refine ⟨va_K.moved al h1, fun q hq => va_Nw.same rfl rfl (h2 q hq), ⟨va_AO.moved al h3, va_AO.moved al h4, va_AO.moved al h5⟩, fun k hk => ?_, fun q hq => (h7 q hq).elim fun a ha => ⟨a, vk_R.same rfl ha⟩⟩
  obtain ⟨z, t⟩ := h6 k hk
  exact ⟨va_Z.moved al z, va_T.moved al t⟩
/-- a method's words: its own code, and all good words of the tables -/
def tw_ws (y : MethodName) (b : ByteArray) (maxL : Nat) (ret : Option FieldType) : List Cond := Cond.code y b maxL ret :: lw_g
abbrev tw_Pre (G : tw_G) (N : Nat) (ad : Nat → Nat) (w : Nat → va_E) (sz : Nat) (As : List Value) : Array Value → State → Prop := va_Pc As (fun U => U.heap.size = sz ∧ va_P G.1 vwCl (tw_W N ad w) U.heap ∧ tw_E G (tw_A N ad sz) U ∧ va_D (fun _ => True) (tw_W N ad w))
abbrev tw_Qi (G : tw_G) (N : Nat) (ad : Nat → Nat) (post : Int32 → (Nat → va_E) → Prop) (sz : Nat) : Array Value → State → Outcome → State → Prop := va_Qi post (fun w t => va_P G.1 vwCl (tw_W N ad w) t.heap) (tw_A N ad sz)
abbrev tw_Qv (G : tw_G) (N : Nat) (ad : Nat → Nat) (post : (Nat → va_E) → Prop) (sz : Nat) : Array Value → State → Outcome → State → Prop := va_Qv post (fun w t => va_P G.1 vwCl (tw_W N ad w) t.heap) (tw_A N ad sz)
/-- a method that makes cells: M of them, behind its world's -/
abbrev tw_Qn (G : tw_G) (N M : Nat) (ad : Nat → Nat) (post : (Nat → Nat) × (Nat → va_E) → Prop) (sz : Nat) : Array Value → State → Outcome → State → Prop := va_Qv post (fun u t => (∀ k, k < N → u.1 k = ad k) ∧ va_P G.1 vwCl (tw_W (N + M) u.1 u.2) t.heap ∧ va_D (tw_A N ad sz) (tw_W (N + M) u.1 u.2)) (tw_A N ad sz)
def tw_F (p : Program) (m : MethodId) (c : Code) (cc : ByteArray) (nL : Nat) (s : State) (args : Array Value) (own : String) (G : tw_G) (A : Nat → Prop) : Prop := CallFix p m c cc nL s args lw_g own ∧ tw_E G A s ∧ ∀ q, s.heap.size ≤ q → A q
def tw_H (G : tw_G) (N : Nat) (ad : Nat → Nat) (w : Nat → va_E) (A : Nat → Prop) (s : State) (H : Heap) (locs : List Loc) : Prop := va_P G.1 vwCl (tw_W N ad w) H ∧ va_D A (tw_W N ad w) ∧ va_S A s.heap H locs
/-- a method by its body -/
theorem tw_met {l : Launch} {y : MethodName} {b : ByteArray} {maxL : Nat} {ret : Option FieldType} {rm : Room} {As : List Value} {G : tw_G} {N : Nat} {ad : Nat → Nat} {w : Nat → va_E} {sz : Nat} {Qc : Array Value → State → Outcome → State → Prop} {mc ms : Nat} (hy : plainName y.cls = true) (hn : (lg_sl As).length ≤ maxL)
    (body : ∀ (p : Program) (e : Env) (s : State) (m : MethodId) (args : Array Value) (below : List Frame) (meth : Method) (c : Code), tw_F p m c b maxL s args y.cls G (tw_A N ad sz) → meth.sig.returnType = ret → meth.locks = false → meth.name = y.name → args = As.toArray → s.heap.size = sz → tw_H G N ad w (tw_A N ad sz) s s.heap [] → ∀ ls, lv_has ls maxL (lv_args 0 As) →
      W p l e rm s m args below meth c s.heap [] 0 0 (MQ below Qc args s mc ms (tw_A N ad sz)) (F0 m 0 ls [])) : Met l y (tw_ws y b maxL ret) rm (tw_Pre G N ad w sz As) Qc mc ms (tw_A N ad sz) := by
  refine Met.ofW (cc := b) (maxL := maxL) (ret := ret) hy rfl ?_
  intro p e s m args below meth c s₁ B hml hv
  obtain ⟨rfl, hsz, hP, hE, hD0⟩ := hv
  have hts := atoms_spec (ws := tw_ws y b maxL ret) B.pre
  have hD := tw_D_self (sz := sz) hD0
  have hl := lv_entry As hn
  rw [lg_entry_eq]
  exact body p e s m _ below meth c ⟨⟨B.exec, B.bytes, hml, findClass_of_methodNamed B.named, fun x hx => hts x (List.mem_cons_of_mem _ hx)⟩, hE, fun q hq => Or.inr (by omega)⟩ B.returns B.notSynchronized (name_of_methodNamed B.named B.method).1 rfl hsz ⟨hP, hD, va_S.rf⟩ _ hl
section TW
variable {p : Program} {l : Launch} {e : Env} {R : Room} {s : State} {m : MethodId} {args : Array Value} {below : List Frame} {meth : Method} {c : Code} {H : Heap} {locs : List Loc} {cells slots : Nat} {Q : State → Prop}
variable {cc : ByteArray} {nL pc : Nat} {ls : Array Slot} {rest : List Value} {own : String} {G : tw_G} {A : Nat → Prop} {N : Nat} {ad : Nat → Nat} {w : Nat → va_E}
theorem tw_H.free (hH : tw_H G N ad w A s H locs) (F : tw_F p m c cc nL s args own G A) : ∀ q, tw_A N ad H.size q → A q := by
  intro q hq
  rcases hq with ⟨k, hk, rfl⟩ | hq
  · exact hH.2.1.2 k _ (tw_W_get hk)
  · exact F.2.2 q (Nat.le_trans hH.2.2.1 hq)
/-! fields -/
def tw_kF (own : String) (idx ci k : Nat) (C : String) (T : u_T) (Nf : Nat) : Prop := vwCl[ci]? = some (C, T, Nf) ∧ (∀ x ∈ u_ws C T Nf, x ∈ lw_g) ∧ k < Nf ∧ (T k).1 = C ∧ Cond.fieldLink own idx C (T k).2.1 (T k).2.2.1 ∈ lw_g
def tw_kP (ci k : Nat) (C : String) (T : u_T) (Nf : Nat) (ty : FieldType) (fin : Bool) : Prop := (∃ ty0 : Nat → FieldType, ∀ j, j < Nf → parseFieldDescriptor (T j).2.2.1 = some (ty0 j)) ∧ (∀ a, a < Nf → ∀ b, b < Nf → a ≠ b → (T a).2.1 ≠ (T b).2.1) ∧ (T k).2.2.2 = fin ∧ parseFieldDescriptor (T k).2.2.1 = some ty
theorem tw_get (F : tw_F p m c cc nL s args own G A) (hH : tw_H G N ad w A s H locs) {r ci k idx Nf : Nat} {C : String} {T : u_T} {fs : List Value} {v : Value} (hf : tw_kF own idx ci k C T Nf) {a : Nat} (hra : ad r = a) (hr : r < N) (hw : w r = .inr (ci, fs)) (hv : fs[k]? = some v) (hdg : decode cc pc = .ok (.getfield idx, 3))
    (kk : W p l e R s m args below meth c H locs cells slots Q (F0 m (pc + 3) ls (v :: rest))) : W p l e R s m args below meth c H locs cells slots Q (F0 m pc ls (.ref a :: rest)) := by
  subst hra
  obtain ⟨h1, h2, h3, h4, h5⟩ := hf
  obtain ⟨⟨hx, hb, hml, hown, hts⟩, hE, -⟩ := F
  exact va_get hx hb hts h2 hown hE.1 hH.1 r (by rw [tw_W_get hr, hw]) h1 k h3 (hts _ h5) (fun x hx => by rw [h4] at hx; exact hx) hv hdg kk
theorem tw_put (F : tw_F p m c cc nL s args own G A) (hH : tw_H G N ad w A s H locs) {r ci k idx Nf : Nat} {C : String} {T : u_T} {fs : List Value} {v : Value} {ty : FieldType} (hf : tw_kF own idx ci k C T Nf) (hp : tw_kP ci k C T Nf ty false) {a : Nat} (hra : ad r = a) (hr : r < N) (hw : w r = .inr (ci, fs)) (hl : k < fs.length) (hn : narrow ty v = v) (hfit : fits ty v = true) (hdg : decode cc pc = .ok (.putfield idx, 3))
    (kk : ∀ (H1 : Heap) (locs1 : List Loc) (w1 : Nat → va_E), w1 r = .inr (ci, fs.set k v) → (∀ j, j ≠ r → w1 j = w j) → tw_H G N ad w1 A s H1 locs1 → W p l e R s m args below meth c H1 locs1 cells slots Q (F0 m (pc + 3) ls rest)) : W p l e R s m args below meth c H locs cells slots Q (F0 m pc ls (v :: .ref a :: rest)) := by
  subst hra
  obtain ⟨h1, h2, h3, h4, h5⟩ := hf
  obtain ⟨⟨ty0, g1⟩, g2, g3, g4⟩ := hp
  obtain ⟨⟨hx, hb, hml, hown, hts⟩, hE, -⟩ := F
  refine va_put hx hb hts h2 ty0 g1 g2 hown hE.1 hH.1 hH.2.1 hH.2.2 r (by rw [tw_W_get hr, hw]) h1 k h3 (hts _ h5) (fun x hx => by rw [h4] at hx; exact hx) g3 g4 hn hfit hl hdg fun H1 locs1 a1 a2 a3 => ?_
  rw [tw_W_set] at a1 a2
  exact kk H1 locs1 _ (va_up_self _ _ _) (fun j hj => va_up_ne _ _ hj) ⟨a1, a2, a3⟩
theorem tw_putF (F : tw_F p m c cc nL s args own G A) (hH : tw_H G N ad w A s H locs) {r ci k idx Nf : Nat} {C : String} {T : u_T} {fs : List Value} {v : Value} {ty : FieldType} (hf : tw_kF own idx ci k C T Nf) (hp : tw_kP ci k C T Nf ty true) (hin : meth.name = "<init>") (hC : C = own) {a : Nat} (hra : ad r = a) (hr : r < N) (hw : w r = .inr (ci, fs)) (hl : k < fs.length) (hn : narrow ty v = v) (hfit : fits ty v = true) (hdg : decode cc pc = .ok (.putfield idx, 3))
    (kk : ∀ (H1 : Heap) (locs1 : List Loc) (w1 : Nat → va_E), w1 r = .inr (ci, fs.set k v) → (∀ j, j ≠ r → w1 j = w j) → tw_H G N ad w1 A s H1 locs1 → W p l e R s m args below meth c H1 locs1 cells slots Q (F0 m (pc + 3) ls rest)) : W p l e R s m args below meth c H locs cells slots Q (F0 m pc ls (v :: .ref a :: rest)) := by
  subst hra
  obtain ⟨h1, h2, h3, h4, h5⟩ := hf
  obtain ⟨⟨ty0, g1⟩, g2, g3, g4⟩ := hp
  obtain ⟨⟨hx, hb, hml, hown, hts⟩, hE, -⟩ := F
  refine va_putF hx hb hts h2 ty0 g1 g2 hown hE.1 hH.1 hH.2.1 hH.2.2 r (by rw [tw_W_get hr, hw]) h1 k h3 (hts _ h5) (fun x hx => by rw [h4] at hx; exact hx) g3 hin (by rw [h4]; exact hC) g4 hn hfit hl hdg fun H1 locs1 a1 a2 a3 => ?_
  rw [tw_W_set] at a1 a2
  exact kk H1 locs1 _ (va_up_self _ _ _) (fun j hj => va_up_ne _ _ hj) ⟨a1, a2, a3⟩
/-! arrays -/
theorem tw_ix {i : Int32} {j n : Nat} (hi : i.toInt = (j : Int)) (hj : j < n) : vp_in i n ∧ i.toNatClampNeg = j := by
  have e : i.toNatClampNeg = j := by
    show i.toInt.toNat = j
    omega
  exact ⟨vp_in_iff.mpr ⟨by omega, by omega⟩, e⟩
theorem tw_iald (F : tw_F p m c cc nL s args own G A) (hH : tw_H G N ad w A s H locs) {r n j : Nat} {f : Nat → Int32} {i v : Int32} {a : Nat} (hra : ad r = a) (hr : r < N) (hw : w r = .inl (G.2.1 0, n, .inl f)) (hi : i.toInt = (j : Int)) (hj : j < n) (hv : f j = v) (hdg : decode cc pc = .ok (.iaload, 1))
    (kk : W p l e R s m args below meth c H locs cells slots Q (F0 m (pc + 1) ls (.int v :: rest))) : W p l e R s m args below meth c H locs cells slots Q (F0 m pc ls (.int i :: .ref a :: rest)) := by
  subst hra
  obtain ⟨h1, h2⟩ := tw_ix hi hj
  obtain ⟨⟨hx, hb, hml, hown, hts⟩, hE, -⟩ := F
  subst hv
  refine va_iald hx hb hE.1 hH.1 r 0 (by rw [tw_W_get hr, hw]) rfl h1 hdg ?_
  rw [h2]
  exact kk
theorem tw_zald (F : tw_F p m c cc nL s args own G A) (hH : tw_H G N ad w A s H locs) {r n j : Nat} {f : Nat → Int32} {i v : Int32} {a : Nat} (hra : ad r = a) (hr : r < N) (hw : w r = .inl (G.2.1 1, n, .inl f)) (hi : i.toInt = (j : Int)) (hj : j < n) (hv : f j = v) (hdg : decode cc pc = .ok (.baload, 1))
    (kk : W p l e R s m args below meth c H locs cells slots Q (F0 m (pc + 1) ls (.int v :: rest))) : W p l e R s m args below meth c H locs cells slots Q (F0 m pc ls (.int i :: .ref a :: rest)) := by
  subst hra
  obtain ⟨h1, h2⟩ := tw_ix hi hj
  obtain ⟨⟨hx, hb, hml, hown, hts⟩, hE, -⟩ := F
  subst hv
  refine va_zald hx hb hE.1 hH.1 r 1 (by rw [tw_W_get hr, hw]) rfl h1 hdg ?_
  rw [h2]
  exact kk
theorem tw_aald (F : tw_F p m c cc nL s args own G A) (hH : tw_H G N ad w A s H locs) {r n j t : Nat} {C : String} {f : Nat → Option Nat} {i : Int32} {v : Value} (ht : (tw_tys G)[t]? = some (G.2.1 t, .object C)) {a : Nat} (hra : ad r = a) (hr : r < N) (hw : w r = .inl (G.2.1 t, n, .inr (.inr (.inr (.inr f))))) (hi : i.toInt = (j : Int)) (hj : j < n) (hv : va_rf (f j) = v) (hdg : decode cc pc = .ok (.aaload, 1))
    (kk : W p l e R s m args below meth c H locs cells slots Q (F0 m (pc + 1) ls (v :: rest))) : W p l e R s m args below meth c H locs cells slots Q (F0 m pc ls (.int i :: .ref a :: rest)) := by
  subst hra
  obtain ⟨h1, h2⟩ := tw_ix hi hj
  obtain ⟨⟨hx, hb, hml, hown, hts⟩, hE, -⟩ := F
  subst hv
  refine va_aldq hx hb hE.1 hH.1 r t (by rw [tw_W_get hr, hw]) ht h1 hdg ?_
  rw [h2]
  exact kk
theorem tw_iast (F : tw_F p m c cc nL s args own G A) (hH : tw_H G N ad w A s H locs) {r n j : Nat} {f : Nat → Int32} {i x : Int32} {a : Nat} (hra : ad r = a) (hr : r < N) (hw : w r = .inl (G.2.1 0, n, .inl f)) (hi : i.toInt = (j : Int)) (hj : j < n) (hdg : decode cc pc = .ok (.iastore, 1))
    (kk : ∀ (H1 : Heap) (locs1 : List Loc) (w1 : Nat → va_E), w1 r = .inl (G.2.1 0, n, .inl (upd f j x)) → (∀ q, q ≠ r → w1 q = w q) → tw_H G N ad w1 A s H1 locs1 → W p l e R s m args below meth c H1 locs1 cells slots Q (F0 m (pc + 1) ls rest)) : W p l e R s m args below meth c H locs cells slots Q (F0 m pc ls (.int x :: .int i :: .ref a :: rest)) := by
  subst hra
  obtain ⟨h1, h2⟩ := tw_ix hi hj
  obtain ⟨⟨hx, hb, hml, hown, hts⟩, hE, -⟩ := F
  refine va_iast hx hb hE.1 hH.1 hH.2.1 hH.2.2 r 0 (by rw [tw_W_get hr, hw]) rfl h1 hdg fun H1 locs1 a1 a2 a3 => ?_
  rw [h2, tw_W_set] at a1 a2
  exact kk H1 locs1 _ (va_up_self _ _ _) (fun j hj => va_up_ne _ _ hj) ⟨a1, a2, a3⟩
theorem tw_zast (F : tw_F p m c cc nL s args own G A) (hH : tw_H G N ad w A s H locs) {r n j : Nat} {f : Nat → Int32} {i x : Int32} {a : Nat} (hra : ad r = a) (hr : r < N) (hw : w r = .inl (G.2.1 1, n, .inl f)) (hi : i.toInt = (j : Int)) (hj : j < n) (hz : vp_nar .boolean x = x) (hdg : decode cc pc = .ok (.bastore, 1))
    (kk : ∀ (H1 : Heap) (locs1 : List Loc) (w1 : Nat → va_E), w1 r = .inl (G.2.1 1, n, .inl (upd f j x)) → (∀ q, q ≠ r → w1 q = w q) → tw_H G N ad w1 A s H1 locs1 → W p l e R s m args below meth c H1 locs1 cells slots Q (F0 m (pc + 1) ls rest)) : W p l e R s m args below meth c H locs cells slots Q (F0 m pc ls (.int x :: .int i :: .ref a :: rest)) := by
  subst hra
  obtain ⟨h1, h2⟩ := tw_ix hi hj
  obtain ⟨⟨hx, hb, hml, hown, hts⟩, hE, -⟩ := F
  refine va_zast hx hb hE.1 hH.1 hH.2.1 hH.2.2 r 1 (by rw [tw_W_get hr, hw]) rfl h1 hdg fun H1 locs1 a1 a2 a3 => ?_
  rw [h2, tw_W_set, hz] at a1 a2
  exact kk H1 locs1 _ (va_up_self _ _ _) (fun j hj => va_up_ne _ _ hj) ⟨a1, a2, a3⟩
theorem tw_aast (F : tw_F p m c cc nL s args own G A) (hH : tw_H G N ad w A s H locs) {r n j t r2 ci Nf : Nat} {C : String} {T : u_T} {vs : List Value} {f : Nat → Option Nat} {i : Int32} (ht : (tw_tys G)[t]? = some (G.2.1 t, .object C)) {a : Nat} (hra : ad r = a) (hr : r < N) (hw : w r = .inl (G.2.1 t, n, .inr (.inr (.inr (.inr f))))) (hc : vwCl[ci]? = some (C, T, Nf)) {a2 : Nat} (hra2 : ad r2 = a2) (hr2 : r2 < N) (hw2 : w r2 = .inr (ci, vs)) (hi : i.toInt = (j : Int)) (hj : j < n) (hdg : decode cc pc = .ok (.aastore, 1))
    (kk : ∀ (H1 : Heap) (locs1 : List Loc) (w1 : Nat → va_E), w1 r = .inl (G.2.1 t, n, .inr (.inr (.inr (.inr (va_up f j (some a2)))))) → (∀ q, q ≠ r → w1 q = w q) → tw_H G N ad w1 A s H1 locs1 → W p l e R s m args below meth c H1 locs1 cells slots Q (F0 m (pc + 1) ls rest)) : W p l e R s m args below meth c H locs cells slots Q (F0 m pc ls (.ref a2 :: .int i :: .ref a :: rest)) := by
  subst hra
  subst hra2
  obtain ⟨h1, h2⟩ := tw_ix hi hj
  obtain ⟨⟨hx, hb, hml, hown, hts⟩, hE, -⟩ := F
  refine va_astq hx hb hE.1 hH.1 hH.2.1 hH.2.2 r t r2 ci (by rw [tw_W_get hr, hw]) ht (by rw [tw_W_get hr2, hw2]) hc h1 hdg fun H1 locs1 a1 a2 a3 => ?_
  rw [h2, tw_W_set] at a1 a2
  exact kk H1 locs1 _ (va_up_self _ _ _) (fun j hj => va_up_ne _ _ hj) ⟨a1, a2, a3⟩
theorem tw_alen (F : tw_F p m c cc nL s args own G A) (hH : tw_H G N ad w A s H locs) {r t : Nat} {x : vp_A} {v : Int32} {ty : FieldType} (ht : (tw_tys G)[t]? = some (G.2.1 t, ty)) {a : Nat} (hra : ad r = a) (hr : r < N) (hw : w r = .inl (G.2.1 t, x)) (hv : Int32.ofNat x.1 = v) (hdg : decode cc pc = .ok (.arraylength, 1))
    (kk : W p l e R s m args below meth c H locs cells slots Q (F0 m (pc + 1) ls (.int v :: rest))) : W p l e R s m args below meth c H locs cells slots Q (F0 m pc ls (.ref a :: rest)) := by
  subst hra
  obtain ⟨⟨hx, hb, hml, hown, hts⟩, hE, -⟩ := F
  exact va_alen hx hb hE.1 hH.1 r t (by rw [tw_W_get hr, hw]) ht hv hdg kk
theorem tw_push {q : Nat} {e0 : va_E} (hH : va_P G.1 vwCl (tw_W N ad w ++ [(q, e0)]) H) (hD : va_D A (tw_W N ad w ++ [(q, e0)])) (hS : va_S A s.heap H locs) : tw_H G (N + 1) (va_up ad N q) (va_up w N e0) A s H locs := by
  rw [tw_W_push] at hH hD
  exact ⟨hH, hD, hS⟩
/-- new: the cell's role is N -/
theorem tw_new (F : tw_F p m c cc nL s args own G A) (hH : tw_H G N ad w A s H locs) {ci idx Nf : Nat} {C : String} {T : u_T} {fs : List Value} (hc : vwCl[ci]? = some (C, T, Nf)) (hin : ∀ x ∈ u_ws C T Nf, x ∈ lw_g) (ty : Nat → FieldType) (hty : ∀ k, k < Nf → parseFieldDescriptor (T k).2.2.1 = some (ty k)) (k1 : Cond.classLink own idx C ∈ lw_g) (k2 : Cond.instantiable C Nf ∈ lw_g) (k3 : Cond.initialized C ∈ lw_g) (hfs : ∀ j, j < Nf → defaultValue (ty j) = vp_V fs j) (hcells : cells + 1 ≤ R.cells) (hslots : slots + Nf ≤ R.slots) (hdg : decode cc pc = .ok (.new idx, 3))
    (kk : ∀ (H1 : Heap) (locs1 : List Loc) (ad1 : Nat → Nat) (w1 : Nat → va_E), (∀ k, k < N → ad1 k = ad k) → w1 N = .inr (ci, fs) → (∀ k, k ≠ N → w1 k = w k) → tw_H G (N + 1) ad1 w1 A s H1 locs1 → W p l e R s m args below meth c H1 locs1 (cells + 1) (slots + Nf) Q (F0 m (pc + 3) ls (.ref (ad1 N) :: rest))) : W p l e R s m args below meth c H locs cells slots Q (F0 m pc ls rest) := by
  obtain ⟨⟨hx, hb, hml, hown, hts⟩, hE, hA⟩ := F
  refine va_new hx hb hts hin ty hty hown (hts _ k1) (hts _ k2) (hts _ k3) hE.1 hH.1 hH.2.1 hH.2.2 hA hc hfs hcells hslots hdg fun q H1 a1 a2 a3 => ?_
  have h := kk H1 locs (va_up ad N q) (va_up w N (.inr (ci, fs))) (fun k hk => va_up_ne _ _ (by omega)) (va_up_self _ _ _) (fun k hk => va_up_ne _ _ hk) (tw_push a1 a2 a3)
  rw [va_up_self] at h
  exact h
theorem tw_cl0 {U : State} {t : Nat} {cA : ClassId} {ty : FieldType} {X : ClassId → Prop} (hn : ∀ C, ty ≠ .object C) (hK : va_K G.1 vwCl (tw_tys G) U) (ht : (tw_tys G)[t]? = some (G.2.1 t, ty)) (hK2 : va_K G.1 vwCl (tw_tys G ++ [(cA, ty)]) U) : cA = G.2.1 t := by
  have h1 := (hK.2 t _ ht).2
  have h2 := (hK2.2 (tw_tys G).length (cA, ty) (by simp)).2
  cases ty with
  | object C => exact absurd rfl (hn C)
  | _ => exact Option.some.inj (h2.symm.trans h1)
theorem tw_clO {U : State} {t : Nat} {cA : ClassId} {C : String} (hK : va_K G.1 vwCl (tw_tys G) U) (ht : (tw_tys G)[t]? = some (G.2.1 t, .object C)) (hK2 : va_K G.1 vwCl (tw_tys G ++ [(cA, .object C)]) U) : cA = G.2.1 t := by
  obtain ⟨_, _, _, _, _, h1⟩ := (hK.2 t _ ht).2
  obtain ⟨_, _, _, _, _, h2⟩ := (hK2.2 (tw_tys G).length (cA, .object C) (by simp)).2
  exact Option.some.inj (h2.symm.trans h1)
theorem tw_newa (F : tw_F p m c cc nL s args own G A) (hH : tw_H G N ad w A s H locs) {t : Nat} {atype : ArrayType} {ty : FieldType} (ht : (tw_tys G)[t]? = some (G.2.1 t, ty)) (hn0 : ∀ C, ty ≠ .object C) (k1 : Cond.arrayClass ty ∈ lw_g) (hty : newarray.typeOf atype = ty) {n : Int32} {n' : Nat} {a0 : vp_A} (ha : ∀ cA : ClassId, vp_cell cA a0 = arrV cA n' (fun _ => defaultValue ty)) (hn : n.toInt = (n' : Int)) (hbytes : n' * componentBytes ty ≤ 536870912) (hcells : cells + 1 ≤ R.cells) (hslots : slots + n' ≤ R.slots) (hdg : decode cc pc = .ok (.newarray atype, 2))
    (kk : ∀ (H1 : Heap) (locs1 : List Loc) (ad1 : Nat → Nat) (w1 : Nat → va_E), (∀ k, k < N → ad1 k = ad k) → w1 N = .inl (G.2.1 t, a0) → (∀ k, k ≠ N → w1 k = w k) → tw_H G (N + 1) ad1 w1 A s H1 locs1 → W p l e R s m args below meth c H1 locs1 (cells + 1) (slots + n') Q (F0 m (pc + 2) ls (.ref (ad1 N) :: rest))) : W p l e R s m args below meth c H locs cells slots Q (F0 m pc ls (.int n :: rest)) := by
  obtain ⟨⟨hx, hb, hml, hown, hts⟩, hE, hA⟩ := F
  have e0 : n.toNatClampNeg = n' := by
    show n.toInt.toNat = n'
    omega
  have e1 : ¬ n < 0 := by
    intro h
    have h2 := Int32.lt_iff_toInt_lt.mp h
    have h3 : (0 : Int32).toInt = 0 := by decide
    omega
  refine va_newa hx hb (by rw [hty]; exact hts _ k1) hty hE.1 hH.1 hH.2.1 hH.2.2 hA ha e1 e0 hbytes hcells hslots hdg fun q cA H1 aK a1 a2 a3 => ?_
  have e2 := tw_cl0 (X := fun _ => True) hn0 hE.1 ht aK
  subst e2
  have h := kk H1 locs (va_up ad N q) (va_up w N (.inl (G.2.1 t, a0))) (fun k hk => va_up_ne _ _ (by omega)) (va_up_self _ _ _) (fun k hk => va_up_ne _ _ hk) (tw_push a1 a2 a3)
  rw [va_up_self] at h
  exact h
theorem tw_newq (F : tw_F p m c cc nL s args own G A) (hH : tw_H G N ad w A s H locs) {t idx : Nat} {C : String} (ht : (tw_tys G)[t]? = some (G.2.1 t, .object C)) (k1 : Cond.classLink own idx C ∈ lw_g) (hao : va_AO C s) {n : Int32} {n' : Nat} (hn : n.toInt = (n' : Int)) (hbytes : n' * 4 ≤ 536870912) (hcells : cells + 1 ≤ R.cells) (hslots : slots + n' ≤ R.slots) (hdg : decode cc pc = .ok (.anewarray idx, 3))
    (kk : ∀ (H1 : Heap) (locs1 : List Loc) (ad1 : Nat → Nat) (w1 : Nat → va_E), (∀ k, k < N → ad1 k = ad k) → w1 N = .inl (G.2.1 t, n', .inr (.inr (.inr (.inr (fun _ => none))))) → (∀ k, k ≠ N → w1 k = w k) → tw_H G (N + 1) ad1 w1 A s H1 locs1 → W p l e R s m args below meth c H1 locs1 (cells + 1) (slots + n') Q (F0 m (pc + 3) ls (.ref (ad1 N) :: rest))) : W p l e R s m args below meth c H locs cells slots Q (F0 m pc ls (.int n :: rest)) := by
  obtain ⟨⟨hx, hb, hml, hown, hts⟩, hE, hA⟩ := F
  have e0 : n.toNatClampNeg = n' := by
    show n.toInt.toNat = n'
    omega
  have e1 : ¬ n < 0 := by
    intro h
    have h2 := Int32.lt_iff_toInt_lt.mp h
    have h3 : (0 : Int32).toInt = 0 := by decide
    omega
  refine va_newq hx hb hown (hts _ k1) hao hE.1 hH.1 hH.2.1 hH.2.2 hA e1 e0 hbytes hcells hslots hdg fun q cA H1 aK a1 a2 a3 => ?_
  have e2 := tw_clO hE.1 ht aK
  subst e2
  have h := kk H1 locs (va_up ad N q) (va_up w N (.inl (G.2.1 t, n', .inr (.inr (.inr (.inr (fun _ => none))))))) (fun k hk => va_up_ne _ _ (by omega)) (va_up_self _ _ _) (fun k hk => va_up_ne _ _ hk) (tw_push a1 a2 a3)
  rw [va_up_self] at h
  exact h
end TW
end
section
/-! calls, returns, branches over a world by roles -/
theorem tw_goodIn {Ts ws : List Cond} {y : MethodName} {b : ByteArray} {maxL : Nat} {ret : Option FieldType} (pre : List Cond) (hws : ws = pre ++ tw_ws y b maxL ret) (hp : ∀ w ∈ pre, w ∈ lw_g) (hc : Cond.code y b maxL ret ∈ lw_g) (hT : ∀ w ∈ lw_g, w ∈ Ts) : GoodIn Ts ws := by
  intro w hw
  have h1 : w ∈ lw_g := by
    rw [hws] at hw
    rcases List.mem_append.mp hw with h | h
    · exact hp w h
    · rcases List.mem_cons.mp h with h | h
      · rw [h]; exact hc
      · exact h
  exact ⟨hT w h1, good_of_word (tw_good w h1)⟩
/-- what the tables say of a method that is called -/
def tw_kM (y : MethodName) (b : ByteArray) (maxL : Nat) (ret : Option FieldType) (n : Nat) : Prop := Cond.initialized y.cls ∈ lw_g ∧ Cond.code y b maxL ret ∈ lw_g ∧ (y.cls ≠ "java/lang/invoke/MethodHandle" ∧ y.cls ≠ "java/lang/invoke/VarHandle" ∧ (parseMethodDescriptor y.desc).map (fun d => d.parameters.length) = some n)
def tw_kV (y : MethodName) : Prop := Cond.instanceMethod y ∈ lw_g ∧ Cond.selects y.cls y y ∈ lw_g
section TWC
variable {p : Program} {l : Launch} {e : Env} {R : Room} {s : State} {m : MethodId} {args : Array Value} {below : List Frame} {meth : Method} {c : Code} {H : Heap} {locs : List Loc} {cells slots : Nat} {Q : State → Prop}
variable {cc : ByteArray} {nL pc : Nat} {ls : Array Slot} {rest st : List Value} {own : String} {G : tw_G} {A : Nat → Prop} {N : Nat} {ad : Nat → Nat} {w : Nat → va_E}
variable {y : MethodName} {b : ByteArray} {maxL : Nat} {ret : Option FieldType} {rm : Room} {Qc : Array Value → State → Outcome → State → Prop} {mc ms idx n r ci Nf : Nat} {fs As : List Value} {C : String} {T : u_T} {host : String}
theorem tw_pre_blind {w : Nat → va_E} {sz : Nat} {As : List Value} : FrameBlind (tw_Pre G N ad w sz As) := fun a U g mk q => by
  obtain ⟨q0, q1, qP, qE, qD⟩ := q
  exact ⟨q0, q1, qP, tw_E.calling g mk a qE, qD⟩
theorem tw_pre_at (F : tw_F p m c cc nL s args own G A) (hH : tw_H G N ad w A s H locs) {As : List Value} : ∀ U : State, U.heap = H → s.WarmedH U.vm → tw_Pre G N ad w H.size As As.toArray U := fun U hU hW =>
  ⟨rfl, by rw [hU], by rw [hU]; exact hH.1, F.2.1.call hH.2.2 hU hW (hH.free F), hH.2.1.weaken (fun _ _ _ _ => trivial)⟩
theorem tw_runV (F : tw_F p m c cc nL s args own G A) (hH : tw_H G N ad w A s H locs) (hM : Met l y (tw_ws y b maxL ret) rm (tw_Pre G N ad w H.size (.ref (ad r) :: As)) Qc mc ms (tw_A N ad H.size)) (k1 : Cond.methodLink own idx y ∈ lw_g) (k2 : tw_kM y b maxL ret n) (k3 : tw_kV y) (hrc : rm.cells = mc) (hrs : rm.slots = ms) (hR : rm.frames + 1 ≤ R.frames ∧ 8 + (maxL + 11) + rm.locals ≤ R.locals) (hr : r < N) (hw : w r = .inr (ci, fs)) (hc : vwCl[ci]? = some (y.cls, T, Nf)) (hn : As.length = n) (hls : ls.size = nL) (hst : st = As.reverse ++ .ref (ad r) :: rest) (hW : (rest.map fun v => v.category).sum ≤ 8) (hdg : decode cc pc = .ok (.invokevirtual idx, 3)) (hf : cells + mc ≤ R.cells ∧ slots + ms ≤ R.slots) :
    va_Run p l e R s m args below meth c H locs cells slots mc ms (F0 m pc ls st) rest (Qc (Value.ref (ad r) :: As).toArray) (tw_A N ad H.size) := by
  subst hst
  have hts := F.1.2.2.2.2
  have hg : GoodIn lw_g (wsV own idx y.cls y (tw_ws y b maxL ret)) := tw_goodIn [.methodLink own idx y, .instanceMethod y, .selects y.cls y y, .initialized y.cls] rfl (fun x hx => by simp at hx; rcases hx with rfl | rfl | rfl | rfl; exact k1; exact k3.1; exact k3.2; exact k2.1) k2.2.1 (fun _ h => h)
  refine va_runV (cc := cc) (nL := nL) (own := own) (C := y.cls) (bytes := b) (maxL := maxL) (ret := ret) (b := ad r) (As := As) F.1 hM (cwV n hts hg rfl hrc hrs ⟨rfl, k2.2.2⟩ hR) ⟨tw_pre_blind, ?_, tw_pre_at F hH⟩ rfl hn hls rfl (lv_room hW) hdg hf
  exact va_recv F.2.1.1 hH.1 hc (q0 := r) (ci := ci) (fs := fs) (by rw [tw_W_get hr, hw])
theorem tw_runS (F : tw_F p m c cc nL s args own G A) (hH : tw_H G N ad w A s H locs) (hM : Met l y (tw_ws y b maxL ret) rm (tw_Pre G N ad w H.size As) Qc mc ms (tw_A N ad H.size)) (k1 : Cond.methodLink own idx y ∈ lw_g) (k2 : tw_kM y b maxL ret n) (k3 : Cond.static y ∈ lw_g) (hrc : rm.cells = mc) (hrs : rm.slots = ms) (hR : rm.frames + 1 ≤ R.frames ∧ 8 + (maxL + 11) + rm.locals ≤ R.locals) (hn : As.length = n) (hls : ls.size = nL) (hst : st = As.reverse ++ rest) (hW : (rest.map fun v => v.category).sum ≤ 8) (hdg : decode cc pc = .ok (.invokestatic idx, 3)) (hf : cells + mc ≤ R.cells ∧ slots + ms ≤ R.slots) :
    va_Run p l e R s m args below meth c H locs cells slots mc ms (F0 m pc ls st) rest (Qc As.toArray) (tw_A N ad H.size) := by
  subst hst
  have hts := F.1.2.2.2.2
  have hg : GoodIn lw_g (va_wsS own idx y (tw_ws y b maxL ret)) := tw_goodIn [.methodLink own idx y, .static y, .initialized y.cls] rfl (fun x hx => by simp at hx; rcases hx with rfl | rfl | rfl; exact k1; exact k3; exact k2.1) k2.2.1 (fun _ h => h)
  exact va_runS (cc := cc) (nL := nL) (own := own) (bytes := b) (maxL := maxL) (ret := ret) (As := As) F.1 hM (va_cwS n hts hg rfl hrc hrs k2.2.2 hR) ⟨tw_pre_blind, tw_pre_at F hH⟩ rfl hn hls rfl (lv_room hW) hdg hf
theorem tw_runSN (F : tw_F p m c cc nL s args own G A) (hH : tw_H G N ad w A s H locs) (hM : Met l y (tw_ws y b maxL ret) rm (tw_Pre G N ad w H.size As) Qc mc ms (tw_A N ad H.size)) (k1 : (own, idx, y, host) ∈ tw_nwM) (k2 : tw_kM y b maxL ret n) (k3 : Cond.static y ∈ lw_g) (hrc : rm.cells = mc) (hrs : rm.slots = ms) (hR : rm.frames + 1 ≤ R.frames ∧ 8 + (maxL + 11) + rm.locals ≤ R.locals) (hn : As.length = n) (hls : ls.size = nL) (hst : st = As.reverse ++ rest) (hW : (rest.map fun v => v.category).sum ≤ 8) (hdg : decode cc pc = .ok (.invokestatic idx, 3)) (hf : cells + mc ≤ R.cells ∧ slots + ms ≤ R.slots) :
    va_Run p l e R s m args below meth c H locs cells slots mc ms (F0 m pc ls st) rest (Qc As.toArray) (tw_A N ad H.size) := by
  subst hst
  have hts := F.1.2.2.2.2
  have hg : GoodIn lw_g (tw_ws y b maxL ret) := tw_goodIn [] rfl (fun x hx => by simp at hx) k2.2.1 (fun _ h => h)
  exact va_runSN (cc := cc) (nL := nL) (own := own) (host := host) (bytes := b) (maxL := maxL) (ret := ret) (As := As) F.1 hM ⟨va_cnB n hts hg rfl hrc hrs (F.2.1.2.1 _ k1) (hts _ k2.1) k2.2.2 hR, hts _ k3, trivial⟩ ⟨tw_pre_blind, tw_pre_at F hH⟩ rfl hn hls rfl (lv_room hW) hdg hf
theorem tw_runI (F : tw_F p m c cc nL s args own G A) (hH : tw_H G N ad w A s H locs) (hM : Met l y (tw_ws y b maxL none) rm (tw_Pre G N ad w H.size (.ref (ad r) :: As)) Qc mc ms (tw_A N ad H.size)) (k1 : Cond.methodLink own idx y ∈ lw_g) (k2 : tw_kM y b maxL none n) (k3 : Cond.instanceMethod y ∈ lw_g) (hin : y.name = "<init>") (hrc : rm.cells = mc) (hrs : rm.slots = ms) (hR : rm.frames + 1 ≤ R.frames ∧ 8 + (maxL + 11) + rm.locals ≤ R.locals) (hn : As.length = n) (hls : ls.size = nL) (hst : st = As.reverse ++ .ref (ad r) :: rest) (hW : (rest.map fun v => v.category).sum ≤ 8) (hdg : decode cc pc = .ok (.invokespecial idx, 3)) (hf : cells + mc ≤ R.cells ∧ slots + ms ≤ R.slots) :
    va_Run p l e R s m args below meth c H locs cells slots mc ms (F0 m pc ls st) rest (Qc (Value.ref (ad r) :: As).toArray) (tw_A N ad H.size) := by
  subst hst
  have hts := F.1.2.2.2.2
  have hg : GoodIn lw_g (tw_ws y b maxL none) := tw_goodIn [] rfl (fun x hx => by simp at hx) k2.2.1 (fun _ h => h)
  exact va_runI (cc := cc) (nL := nL) (own := own) (bytes := b) (maxL := maxL) (b := ad r) (As := As) F.1 hM (cwI n hts hg rfl hrc hrs (hts _ k2.1) (hts _ k1) (hts _ k3) hin k2.2.2 hR) ⟨tw_pre_blind, tw_pre_at F hH⟩ rfl hn hls rfl (lv_room hW) hdg hf
theorem tw_calli {a : Array Value} {post : Int32 → (Nat → va_E) → Prop} (F : tw_F p m c cc nL s args own G A) (hH : tw_H G N ad w A s H locs) (hr : va_Run p l e R s m args below meth c H locs cells slots mc ms (F0 m pc ls st) rest (tw_Qi G N ad post H.size a) (tw_A N ad H.size))
    (kk : ∀ (r : Int32) (w1 : Nat → va_E) (H1 : Heap) (locs1 : List Loc), post r w1 → H.size ≤ H1.size → tw_H G N ad w1 A s H1 locs1 → W p l e R s m args below meth c H1 locs1 (cells + mc) (slots + ms) Q (F0 m (pc + 3) ls (.int r :: rest))) : W p l e R s m args below meth c H locs cells slots Q (F0 m pc ls st) := by
  have hF := hH.free F
  exact va_calli hr hH.2.2 (fun q _ h => hF q h) hF fun r u t H1 locs1 ht hvm hp hB hz hk hS => kk r u H1 locs1 hp hz ⟨by rw [ht] at hB; exact hB, tw_D_any hH.2.1, hS⟩
theorem tw_callv {a : Array Value} {post : (Nat → va_E) → Prop} (F : tw_F p m c cc nL s args own G A) (hH : tw_H G N ad w A s H locs) (hr : va_Run p l e R s m args below meth c H locs cells slots mc ms (F0 m pc ls st) rest (tw_Qv G N ad post H.size a) (tw_A N ad H.size))
    (kk : ∀ (w1 : Nat → va_E) (H1 : Heap) (locs1 : List Loc), post w1 → H.size ≤ H1.size → tw_H G N ad w1 A s H1 locs1 → W p l e R s m args below meth c H1 locs1 (cells + mc) (slots + ms) Q (F0 m (pc + 3) ls rest)) : W p l e R s m args below meth c H locs cells slots Q (F0 m pc ls st) := by
  have hF := hH.free F
  exact va_callv hr hH.2.2 (fun q _ h => hF q h) hF fun u t H1 locs1 ht hvm hp hB hz hk hS => kk u H1 locs1 hp hz ⟨by rw [ht] at hB; exact hB, tw_D_any hH.2.1, hS⟩
theorem tw_calln {a : Array Value} {M : Nat} {post : (Nat → Nat) × (Nat → va_E) → Prop} (F : tw_F p m c cc nL s args own G A) (hH : tw_H G N ad w A s H locs) (hr : va_Run p l e R s m args below meth c H locs cells slots mc ms (F0 m pc ls st) rest (tw_Qn G N M ad post H.size a) (tw_A N ad H.size))
    (kk : ∀ (ad1 : Nat → Nat) (w1 : Nat → va_E) (H1 : Heap) (locs1 : List Loc), post (ad1, w1) → (∀ k, k < N → ad1 k = ad k) → H.size ≤ H1.size → tw_H G (N + M) ad1 w1 A s H1 locs1 → W p l e R s m args below meth c H1 locs1 (cells + mc) (slots + ms) Q (F0 m (pc + 3) ls rest)) : W p l e R s m args below meth c H locs cells slots Q (F0 m pc ls st) := by
  have hF := hH.free F
  refine va_callv hr hH.2.2 (fun q _ h => hF q h) hF fun u t H1 locs1 ht hvm hp hB hz hk hS => ?_
  obtain ⟨b1, b2, b3⟩ := hB
  rw [ht] at b2
  exact kk u.1 u.2 H1 locs1 hp b1 hz ⟨b2, b3.weaken (fun _ q _ h => hF q.1 h), hS⟩
/-! returns -/
theorem tw_iret {post : Int32 → (Nat → va_E) → Prop} {sz : Nat} {v : Int32} {ty : FieldType} (F : tw_F p m c cc nL s args own G (tw_A N ad sz)) (hH : tw_H G N ad w (tw_A N ad sz) s H locs) (hret : meth.sig.returnType = some ty) (hlk : meth.locks = false) (hn : narrow ty (.int v) = .int v) (h1 : cells ≤ mc) (h2 : slots ≤ ms) (hdg : decode cc pc = .ok (.ireturn, 1)) (hp : post v w) :
    W p l e R s m args below meth c H locs cells slots (MQ below (tw_Qi G N ad post sz) args s mc ms (tw_A N ad sz)) (F0 m pc ls [.int v]) := by
  refine W.widen h1 h2 ?_
  exact W.zret F.1.1 F.1.2.1 hret hn (fun t ht hW => ⟨⟨v, w, rfl, hp, by subst ht; exact hH.1⟩, hH.2.2.F ht⟩) hH.2.2.2.2 hdg hlk
theorem tw_vret {post : (Nat → va_E) → Prop} {sz : Nat} (F : tw_F p m c cc nL s args own G (tw_A N ad sz)) (hH : tw_H G N ad w (tw_A N ad sz) s H locs) (hret : meth.sig.returnType = none) (hlk : meth.locks = false) (h1 : cells ≤ mc) (h2 : slots ≤ ms) (hdg : decode cc pc = .ok (.return_, 1)) (hp : post w) :
    W p l e R s m args below meth c H locs cells slots (MQ below (tw_Qv G N ad post sz) args s mc ms (tw_A N ad sz)) (F0 m pc ls []) := by
  refine W.widen h1 h2 ?_
  exact W.vret F.1.1 F.1.2.1 hret (fun t ht hW => ⟨⟨w, rfl, hp, by subst ht; exact hH.1⟩, hH.2.2.F ht⟩) hH.2.2.2.2 hdg hlk
theorem tw_nret {post : (Nat → Nat) × (Nat → va_E) → Prop} {sz M : Nat} {ad1 : Nat → Nat} (F : tw_F p m c cc nL s args own G (tw_A N ad sz)) (hH : tw_H G (N + M) ad1 w (tw_A N ad sz) s H locs) (ha : ∀ k, k < N → ad1 k = ad k) (hret : meth.sig.returnType = none) (hlk : meth.locks = false) (h1 : cells ≤ mc) (h2 : slots ≤ ms) (hdg : decode cc pc = .ok (.return_, 1)) (hp : post (ad1, w)) :
    W p l e R s m args below meth c H locs cells slots (MQ below (tw_Qn G N M ad post sz) args s mc ms (tw_A N ad sz)) (F0 m pc ls []) := by
  refine W.widen h1 h2 ?_
  exact W.vret F.1.1 F.1.2.1 hret (fun t ht hW => ⟨⟨(ad1, w), rfl, hp, ha, by subst ht; exact hH.1, hH.2.1⟩, hH.2.2.F ht⟩) hH.2.2.2.2 hdg hlk
/-! Object.<init>, Math.max, static tables -/
theorem tw_objInit (F : tw_F p m c cc nL s args own G A) (k1 : Cond.methodLink own idx Lib.objectInit ∈ lw_g) (k2 : Cond.instanceMethod Lib.objectInit ∈ lw_g) (k3 : Cond.code Lib.objectInit ⟨#[0xb1]⟩ 1 none ∈ lw_g) (hls : ls.size = nL) {a : Nat} (hR : 1 ≤ R.frames ∧ 20 ≤ R.locals) (hW : (rest.map fun v => v.category).sum ≤ 8) (hdg : decode cc pc = .ok (.invokespecial idx, 3))
    (kk : W p l e R s m args below meth c H locs cells slots Q (F0 m (pc + 3) ls rest)) : W p l e R s m args below meth c H locs cells slots Q (F0 m pc ls (.ref a :: rest)) := by
  obtain ⟨⟨hx, hb, hml, hown, hts⟩, hE, hA⟩ := F
  refine W.objInit hx hb hown (hts _ k1) (hts _ k2) (hts _ k3) rfl (by rw [hml]; exact hls) rfl hdg hR.1 ?_ kk
  have h := lv_room (pc := pc) (m := m) (ls := ls) (rest := Value.ref a :: rest) hW
  omega
theorem tw_gets (F : tw_F p m c cc nL s args own G A) (hH : tw_H G N ad w A s H locs) {k : Nat} (hk : k < 5) (k1 : Cond.fieldLink own idx RX11 (tw_zn k) "[I" ∈ lw_g) (hdg : decode cc pc = .ok (.getstatic idx, 3))
    (kk : W p l e R s m args below meth c H locs cells slots Q (F0 m (pc + 3) ls (.ref (G.2.2 k) :: rest))) : W p l e R s m args below meth c H locs cells slots Q (F0 m pc ls rest) := by
  obtain ⟨⟨hx, hb, hml, hown, hts⟩, hE, hA⟩ := F
  exact va_gets hx hb (hE.2.2.2.1 k hk).1 hH.2.2 hown (hts _ k1) (fun _ h => h) hdg kk
theorem tw_tald (F : tw_F p m c cc nL s args own G A) (hH : tw_H G N ad w A s H locs) {k j : Nat} {i v : Int32} (hk : k < 5) (hi : i.toInt = (j : Int)) (hj : j < tw_zl k) (hv : tw_zv k j = v) (hdg : decode cc pc = .ok (.iaload, 1))
    (kk : W p l e R s m args below meth c H locs cells slots Q (F0 m (pc + 1) ls (.int v :: rest))) : W p l e R s m args below meth c H locs cells slots Q (F0 m pc ls (.int i :: .ref (G.2.2 k) :: rest)) := by
  obtain ⟨⟨hx, hb, hml, hown, hts⟩, hE, hA⟩ := F
  obtain ⟨h1, h2⟩ := tw_ix hi hj
  exact va_ti hx hb (hE.2.2.2.1 k hk).2 hH.2.2 h1 (v := .int v) (by rw [h2, hv]) hdg kk
theorem tw_ldcS (F : tw_F p m c cc nL s args own G A) {tx : String} (hq : (own, idx, tx) ∈ tw_strs) (hdg : decode cc pc = .ok (.ldc idx, 2))
    (kk : ∀ a : Nat, W p l e R s m args below meth c H locs cells slots Q (F0 m (pc + 2) ls (.ref a :: rest))) : W p l e R s m args below meth c H locs cells slots Q (F0 m pc ls rest) := by
  obtain ⟨⟨hx, hb, hml, hown, hts⟩, hE, hA⟩ := F
  obtain ⟨a, ha⟩ := hE.2.2.2.2 _ hq
  exact va_ldcS hx hb hown ha hdg (kk a)
theorem tw_ldcwS (F : tw_F p m c cc nL s args own G A) {tx : String} (hq : (own, idx, tx) ∈ tw_strs) (hdg : decode cc pc = .ok (.ldc_w idx, 3))
    (kk : ∀ a : Nat, W p l e R s m args below meth c H locs cells slots Q (F0 m (pc + 3) ls (.ref a :: rest))) : W p l e R s m args below meth c H locs cells slots Q (F0 m pc ls rest) := by
  obtain ⟨⟨hx, hb, hml, hown, hts⟩, hE, hA⟩ := F
  obtain ⟨a, ha⟩ := hE.2.2.2.2 _ hq
  intro T hT X
  obtain ⟨t, a1, b1⟩ := kk a T hT X
  exact ⟨t, X.ldcStringW hx hown (text := tx) (a := a) ha.1 ha.2 (g := F0 m pc ls rest) rfl (by rw [hb]; exact hdg) t a1, b1⟩
theorem tw_cv {x v : Int32} (h : x = v) (k : W p l e R s m args below meth c H locs cells slots Q (F0 m pc ls (.int v :: rest))) : W p l e R s m args below meth c H locs cells slots Q (F0 m pc ls (.int x :: rest)) := by
  subst h; exact k
/-! branches, told in whole numbers -/
theorem tw_lt {x y : Int32} {a b : Int} (hx : x.toInt = a) (hy : y.toInt = b) : x < y ↔ a < b := by rw [Int32.lt_iff_toInt_lt, hx, hy]
theorem tw_le {x y : Int32} {a b : Int} (hx : x.toInt = a) (hy : y.toInt = b) : x ≤ y ↔ a ≤ b := by rw [Int32.le_iff_toInt_le, hx, hy]
theorem tw_eq {x y : Int32} {a b : Int} (hx : x.toInt = a) (hy : y.toInt = b) : x = y ↔ a = b := by rw [← Int32.toInt_inj, hx, hy]
theorem tw_ltL {x y : Int64} {a b : Int} (hx : x.toInt = a) (hy : y.toInt = b) : lg_cmp x y < 0 ↔ a < b := by
  have h := lg_cmp_ge x y
  rw [Int64.le_iff_toInt_le, hx, hy] at h
  have h2 : lg_cmp x y < 0 ↔ ¬ 0 ≤ lg_cmp x y := by
    rw [Int32.lt_iff_toInt_lt, Int32.le_iff_toInt_le]; omega
  rw [h2, h]; omega
theorem tw_gtL {x y : Int64} {a b : Int} (hx : x.toInt = a) (hy : y.toInt = b) : 0 < lg_cmp x y ↔ b < a := by
  unfold lg_cmp
  by_cases h1 : x > y
  · rw [if_pos h1]
    have h2 : b < a := by have h3 := Int64.lt_iff_toInt_lt.mp h1; rw [hx, hy] at h3; exact h3
    exact ⟨fun _ => h2, fun _ => by decide⟩
  · rw [if_neg h1]
    have h2 : ¬ b < a := fun h3 => h1 (Int64.lt_iff_toInt_lt.mpr (by rw [hx, hy]; exact h3))
    by_cases h4 : x = y
    · rw [if_pos h4]; exact ⟨fun h => absurd h (by decide), fun h => absurd h h2⟩
    · rw [if_neg h4]; exact ⟨fun h => absurd h (by decide), fun h => absurd h h2⟩
theorem tw_wide (x : Int32) : x.toInt64.toInt = x.toInt := Int32.toInt_toInt64 x
end TWC
end
section
theorem iw_X8 : ∀ x ∈ u_ws RX8 TX8 8, x ∈ lw_g := List.forall_mem_cons.mpr ⟨(tw_gl kw_174 rfl), List.forall_mem_cons.mpr ⟨(tw_gl kw_176 rfl), List.forall_mem_cons.mpr ⟨(tw_gl kw_178 rfl), List.forall_mem_cons.mpr ⟨(tw_gl kw_180 rfl), List.forall_mem_cons.mpr ⟨(tw_gl kw_182 rfl), List.forall_mem_cons.mpr ⟨(tw_gl kw_184 rfl), List.forall_mem_cons.mpr ⟨(tw_gl kw_186 rfl), List.forall_mem_cons.mpr ⟨(tw_gl kw_188 rfl), fun _ h => absurd h List.not_mem_nil⟩⟩⟩⟩⟩⟩⟩⟩
theorem kf_RX8_9 : tw_kF RX8 9 8 0 RX8 TX8 8 := ⟨rfl, iw_X8, by decide, rfl, (tw_gl kw_158 rfl)⟩
theorem kp_X8_0 : tw_kP 8 0 RX8 TX8 8 (.array (.int)) true := ⟨⟨tyX8, tyX8_ok⟩, nmX8, rfl, by decide +kernel⟩
theorem kf_RX8_15 : tw_kF RX8 15 8 2 RX8 TX8 8 := ⟨rfl, iw_X8, by decide, rfl, (tw_gl kw_161 rfl)⟩
theorem kp_X8_2 : tw_kP 8 2 RX8 TX8 8 (.array (.int)) true := ⟨⟨tyX8, tyX8_ok⟩, nmX8, rfl, by decide +kernel⟩
theorem kf_RX8_18 : tw_kF RX8 18 8 3 RX8 TX8 8 := ⟨rfl, iw_X8, by decide, rfl, (tw_gl kw_163 rfl)⟩
theorem kp_X8_3 : tw_kP 8 3 RX8 TX8 8 (.array (.int)) true := ⟨⟨tyX8, tyX8_ok⟩, nmX8, rfl, by decide +kernel⟩
theorem kf_RX8_21 : tw_kF RX8 21 8 4 RX8 TX8 8 := ⟨rfl, iw_X8, by decide, rfl, (tw_gl kw_165 rfl)⟩
theorem kp_X8_4 : tw_kP 8 4 RX8 TX8 8 (.array (.int)) true := ⟨⟨tyX8, tyX8_ok⟩, nmX8, rfl, by decide +kernel⟩
theorem kf_RX8_24 : tw_kF RX8 24 8 5 RX8 TX8 8 := ⟨rfl, iw_X8, by decide, rfl, (tw_gl kw_167 rfl)⟩
theorem kp_X8_5 : tw_kP 8 5 RX8 TX8 8 (.array (.int)) true := ⟨⟨tyX8, tyX8_ok⟩, nmX8, rfl, by decide +kernel⟩
theorem iw_X7 : ∀ x ∈ u_ws RX7 TX7 4, x ∈ lw_g := List.forall_mem_cons.mpr ⟨(tw_gl kw_74 rfl), List.forall_mem_cons.mpr ⟨(tw_gl kw_76 rfl), List.forall_mem_cons.mpr ⟨(tw_gl kw_78 rfl), List.forall_mem_cons.mpr ⟨(tw_gl kw_80 rfl), fun _ h => absurd h List.not_mem_nil⟩⟩⟩⟩
theorem kf_RX7_9 : tw_kF RX7 9 7 0 RX7 TX7 4 := ⟨rfl, iw_X7, by decide, rfl, (tw_gl kw_63 rfl)⟩
theorem kp_X7_0 : tw_kP 7 0 RX7 TX7 4 (.int) true := ⟨⟨tyX7, tyX7_ok⟩, nmX7, rfl, by decide +kernel⟩
theorem kf_RX7_15 : tw_kF RX7 15 7 1 RX7 TX7 4 := ⟨rfl, iw_X7, by decide, rfl, (tw_gl kw_64 rfl)⟩
theorem kp_X7_1 : tw_kP 7 1 RX7 TX7 4 (.int) true := ⟨⟨tyX7, tyX7_ok⟩, nmX7, rfl, by decide +kernel⟩
theorem kf_RX7_24 : tw_kF RX7 24 7 2 RX7 TX7 4 := ⟨rfl, iw_X7, by decide, rfl, (tw_gl kw_65 rfl)⟩
theorem kp_X7_2 : tw_kP 7 2 RX7 TX7 4 (.array (.int)) true := ⟨⟨tyX7, tyX7_ok⟩, nmX7, rfl, by decide +kernel⟩
theorem kd_X7 : ∀ j, j < 4 → defaultValue (tyX7 j) = vp_V [.int (0 : Int32), .int (0 : Int32), .null, .int (0 : Int32)] j := fun j hj => match j, hj with
  | 0, _ => rfl
  | 1, _ => rfl
  | 2, _ => rfl
  | 3, _ => rfl
  | k + 4, h => absurd h (by omega)
theorem km_X7_init : tw_kM yX7_init cX7_init 3 none 2 := ⟨(tw_gl kw_4 rfl), (tw_gl kw_58 rfl), by decide, by decide, by decide +kernel⟩
theorem iw_X1 : ∀ x ∈ u_ws RX1 TX1 14, x ∈ lw_g := List.forall_mem_cons.mpr ⟨(tw_gl kw_228 rfl), List.forall_mem_cons.mpr ⟨(tw_gl kw_230 rfl), List.forall_mem_cons.mpr ⟨(tw_gl kw_232 rfl), List.forall_mem_cons.mpr ⟨(tw_gl kw_234 rfl), List.forall_mem_cons.mpr ⟨(tw_gl kw_236 rfl), List.forall_mem_cons.mpr ⟨(tw_gl kw_238 rfl), List.forall_mem_cons.mpr ⟨(tw_gl kw_240 rfl), List.forall_mem_cons.mpr ⟨(tw_gl kw_242 rfl), List.forall_mem_cons.mpr ⟨(tw_gl kw_244 rfl), List.forall_mem_cons.mpr ⟨(tw_gl kw_246 rfl), List.forall_mem_cons.mpr ⟨(tw_gl kw_248 rfl), List.forall_mem_cons.mpr ⟨(tw_gl kw_250 rfl), List.forall_mem_cons.mpr ⟨(tw_gl kw_252 rfl), List.forall_mem_cons.mpr ⟨(tw_gl kw_254 rfl), fun _ h => absurd h List.not_mem_nil⟩⟩⟩⟩⟩⟩⟩⟩⟩⟩⟩⟩⟩⟩
theorem kf_RX1_14 : tw_kF RX1 14 1 6 RX1 TX1 14 := ⟨rfl, iw_X1, by decide, rfl, (tw_gl kw_205 rfl)⟩
theorem kp_X1_6 : tw_kP 1 6 RX1 TX1 14 (.object "RaceByLaps$Table") true := ⟨⟨tyX1, tyX1_ok⟩, nmX1, rfl, by decide +kernel⟩
theorem kf_RX1_20 : tw_kF RX1 20 1 7 RX1 TX1 14 := ⟨rfl, iw_X1, by decide, rfl, (tw_gl kw_210 rfl)⟩
theorem kp_X1_7 : tw_kP 1 7 RX1 TX1 14 (.object "RaceByLaps$Table") true := ⟨⟨tyX1, tyX1_ok⟩, nmX1, rfl, by decide +kernel⟩
theorem kf_RX1_23 : tw_kF RX1 23 1 8 RX1 TX1 14 := ⟨rfl, iw_X1, by decide, rfl, (tw_gl kw_213 rfl)⟩
theorem kp_X1_8 : tw_kP 1 8 RX1 TX1 14 (.object "RaceByLaps$Table") true := ⟨⟨tyX1, tyX1_ok⟩, nmX1, rfl, by decide +kernel⟩
theorem kf_RX1_26 : tw_kF RX1 26 1 9 RX1 TX1 14 := ⟨rfl, iw_X1, by decide, rfl, (tw_gl kw_215 rfl)⟩
theorem kp_X1_9 : tw_kP 1 9 RX1 TX1 14 (.object "RaceByLaps$Table") true := ⟨⟨tyX1, tyX1_ok⟩, nmX1, rfl, by decide +kernel⟩
theorem kf_RX1_29 : tw_kF RX1 29 1 10 RX1 TX1 14 := ⟨rfl, iw_X1, by decide, rfl, (tw_gl kw_219 rfl)⟩
theorem kp_X1_10 : tw_kP 1 10 RX1 TX1 14 (.object "RaceByLaps$Table") true := ⟨⟨tyX1, tyX1_ok⟩, nmX1, rfl, by decide +kernel⟩
theorem kd_X8 : ∀ j, j < 8 → defaultValue (tyX8 j) = vp_V [.null, .int (0 : Int32), .null, .null, .null, .null, .int (0 : Int32), .int (0 : Int32)] j := fun j hj => match j, hj with
  | 0, _ => rfl
  | 1, _ => rfl
  | 2, _ => rfl
  | 3, _ => rfl
  | 4, _ => rfl
  | 5, _ => rfl
  | 6, _ => rfl
  | 7, _ => rfl
  | k + 8, h => absurd h (by omega)
theorem km_X8_init : tw_kM yX8_init cX8_init 1 none 0 := ⟨(tw_gl kw_8 rfl), (tw_gl kw_156 rfl), by decide, by decide, by decide +kernel⟩
theorem kf_RX1_35 : tw_kF RX1 35 1 11 RX1 TX1 14 := ⟨rfl, iw_X1, by decide, rfl, (tw_gl kw_221 rfl)⟩
theorem kp_X1_11 : tw_kP 1 11 RX1 TX1 14 (.object "RaceByLaps$Text") false := ⟨⟨tyX1, tyX1_ok⟩, nmX1, rfl, by decide +kernel⟩
theorem dX1_init_0 : decode cX1_init 0 = .ok (.aload_n 0, 1) := by decide +kernel
theorem dX1_init_1 : decode cX1_init 1 = .ok (.invokespecial 3, 3) := by decide +kernel
theorem dX1_init_4 : decode cX1_init 4 = .ok (.aload_n 0, 1) := by decide +kernel
theorem dX1_init_5 : decode cX1_init 5 = .ok (.new 9, 3) := by decide +kernel
theorem dX1_init_8 : decode cX1_init 8 = .ok (.dup, 1) := by decide +kernel
theorem dX1_init_9 : decode cX1_init 9 = .ok (.iconst 4, 1) := by decide +kernel
theorem dX1_init_10 : decode cX1_init 10 = .ok (.iconst 2, 1) := by decide +kernel
theorem dX1_init_11 : decode cX1_init 11 = .ok (.invokespecial 11, 3) := by decide +kernel
theorem dX1_init_14 : decode cX1_init 14 = .ok (.putfield 14, 3) := by decide +kernel
theorem dX1_init_17 : decode cX1_init 17 = .ok (.aload_n 0, 1) := by decide +kernel
theorem dX1_init_18 : decode cX1_init 18 = .ok (.new 9, 3) := by decide +kernel
theorem dX1_init_21 : decode cX1_init 21 = .ok (.dup, 1) := by decide +kernel
theorem dX1_init_22 : decode cX1_init 22 = .ok (.bipush 12, 2) := by decide +kernel
theorem dX1_init_24 : decode cX1_init 24 = .ok (.iconst 3, 1) := by decide +kernel
theorem dX1_init_25 : decode cX1_init 25 = .ok (.invokespecial 11, 3) := by decide +kernel
theorem dX1_init_28 : decode cX1_init 28 = .ok (.putfield 20, 3) := by decide +kernel
theorem dX1_init_31 : decode cX1_init 31 = .ok (.aload_n 0, 1) := by decide +kernel
theorem dX1_init_32 : decode cX1_init 32 = .ok (.new 9, 3) := by decide +kernel
theorem dX1_init_35 : decode cX1_init 35 = .ok (.dup, 1) := by decide +kernel
theorem dX1_init_36 : decode cX1_init 36 = .ok (.iconst 5, 1) := by decide +kernel
theorem dX1_init_37 : decode cX1_init 37 = .ok (.iconst 3, 1) := by decide +kernel
theorem dX1_init_38 : decode cX1_init 38 = .ok (.invokespecial 11, 3) := by decide +kernel
theorem dX1_init_41 : decode cX1_init 41 = .ok (.putfield 23, 3) := by decide +kernel
theorem dX1_init_44 : decode cX1_init 44 = .ok (.aload_n 0, 1) := by decide +kernel
theorem dX1_init_45 : decode cX1_init 45 = .ok (.new 9, 3) := by decide +kernel
theorem dX1_init_48 : decode cX1_init 48 = .ok (.dup, 1) := by decide +kernel
theorem dX1_init_49 : decode cX1_init 49 = .ok (.iconst 4, 1) := by decide +kernel
theorem dX1_init_50 : decode cX1_init 50 = .ok (.iconst 2, 1) := by decide +kernel
theorem dX1_init_51 : decode cX1_init 51 = .ok (.invokespecial 11, 3) := by decide +kernel
theorem dX1_init_54 : decode cX1_init 54 = .ok (.putfield 26, 3) := by decide +kernel
theorem dX1_init_57 : decode cX1_init 57 = .ok (.aload_n 0, 1) := by decide +kernel
theorem dX1_init_58 : decode cX1_init 58 = .ok (.new 9, 3) := by decide +kernel
theorem dX1_init_61 : decode cX1_init 61 = .ok (.dup, 1) := by decide +kernel
theorem dX1_init_62 : decode cX1_init 62 = .ok (.iconst 2, 1) := by decide +kernel
theorem dX1_init_63 : decode cX1_init 63 = .ok (.iconst 3, 1) := by decide +kernel
theorem dX1_init_64 : decode cX1_init 64 = .ok (.invokespecial 11, 3) := by decide +kernel
theorem dX1_init_67 : decode cX1_init 67 = .ok (.putfield 29, 3) := by decide +kernel
theorem dX1_init_70 : decode cX1_init 70 = .ok (.aload_n 0, 1) := by decide +kernel
theorem dX1_init_71 : decode cX1_init 71 = .ok (.new 32, 3) := by decide +kernel
theorem dX1_init_74 : decode cX1_init 74 = .ok (.dup, 1) := by decide +kernel
theorem dX1_init_75 : decode cX1_init 75 = .ok (.invokespecial 34, 3) := by decide +kernel
theorem dX1_init_78 : decode cX1_init 78 = .ok (.putfield 35, 3) := by decide +kernel
theorem dX1_init_81 : decode cX1_init 81 = .ok (.return_, 1) := by decide +kernel
theorem dX7_init_0 : decode cX7_init 0 = .ok (.aload_n 0, 1) := by decide +kernel
theorem dX7_init_1 : decode cX7_init 1 = .ok (.invokespecial 3, 3) := by decide +kernel
theorem dX7_init_4 : decode cX7_init 4 = .ok (.aload_n 0, 1) := by decide +kernel
theorem dX7_init_5 : decode cX7_init 5 = .ok (.iload_n 1, 1) := by decide +kernel
theorem dX7_init_6 : decode cX7_init 6 = .ok (.putfield 9, 3) := by decide +kernel
theorem dX7_init_9 : decode cX7_init 9 = .ok (.aload_n 0, 1) := by decide +kernel
theorem dX7_init_10 : decode cX7_init 10 = .ok (.iload_n 2, 1) := by decide +kernel
theorem dX7_init_11 : decode cX7_init 11 = .ok (.putfield 15, 3) := by decide +kernel
theorem dX7_init_14 : decode cX7_init 14 = .ok (.aload_n 0, 1) := by decide +kernel
theorem dX7_init_15 : decode cX7_init 15 = .ok (.iconst 0, 1) := by decide +kernel
theorem dX7_init_16 : decode cX7_init 16 = .ok (.iload_n 1, 1) := by decide +kernel
theorem dX7_init_17 : decode cX7_init 17 = .ok (.iload_n 2, 1) := by decide +kernel
theorem dX7_init_18 : decode cX7_init 18 = .ok (.imul, 1) := by decide +kernel
theorem dX7_init_19 : decode cX7_init 19 = .ok (.invokestatic 18, 3) := by decide +kernel
theorem dX7_init_22 : decode cX7_init 22 = .ok (.newarray .int, 2) := by decide +kernel
theorem dX7_init_24 : decode cX7_init 24 = .ok (.putfield 24, 3) := by decide +kernel
theorem dX7_init_27 : decode cX7_init 27 = .ok (.return_, 1) := by decide +kernel
theorem dX8_init_0 : decode cX8_init 0 = .ok (.aload_n 0, 1) := by decide +kernel
theorem dX8_init_1 : decode cX8_init 1 = .ok (.invokespecial 3, 3) := by decide +kernel
theorem dX8_init_4 : decode cX8_init 4 = .ok (.aload_n 0, 1) := by decide +kernel
theorem dX8_init_5 : decode cX8_init 5 = .ok (.bipush 60, 2) := by decide +kernel
theorem dX8_init_7 : decode cX8_init 7 = .ok (.newarray .int, 2) := by decide +kernel
theorem dX8_init_9 : decode cX8_init 9 = .ok (.putfield 9, 3) := by decide +kernel
theorem dX8_init_12 : decode cX8_init 12 = .ok (.aload_n 0, 1) := by decide +kernel
theorem dX8_init_13 : decode cX8_init 13 = .ok (.bipush 21, 2) := by decide +kernel
theorem dX8_init_15 : decode cX8_init 15 = .ok (.newarray .int, 2) := by decide +kernel
theorem dX8_init_17 : decode cX8_init 17 = .ok (.putfield 15, 3) := by decide +kernel
theorem dX8_init_20 : decode cX8_init 20 = .ok (.aload_n 0, 1) := by decide +kernel
theorem dX8_init_21 : decode cX8_init 21 = .ok (.bipush 21, 2) := by decide +kernel
theorem dX8_init_23 : decode cX8_init 23 = .ok (.newarray .int, 2) := by decide +kernel
theorem dX8_init_25 : decode cX8_init 25 = .ok (.putfield 18, 3) := by decide +kernel
theorem dX8_init_28 : decode cX8_init 28 = .ok (.aload_n 0, 1) := by decide +kernel
theorem dX8_init_29 : decode cX8_init 29 = .ok (.bipush 21, 2) := by decide +kernel
theorem dX8_init_31 : decode cX8_init 31 = .ok (.newarray .int, 2) := by decide +kernel
theorem dX8_init_33 : decode cX8_init 33 = .ok (.putfield 21, 3) := by decide +kernel
theorem dX8_init_36 : decode cX8_init 36 = .ok (.aload_n 0, 1) := by decide +kernel
theorem dX8_init_37 : decode cX8_init 37 = .ok (.bipush 21, 2) := by decide +kernel
theorem dX8_init_39 : decode cX8_init 39 = .ok (.newarray .int, 2) := by decide +kernel
theorem dX8_init_41 : decode cX8_init 41 = .ok (.putfield 24, 3) := by decide +kernel
theorem dX8_init_44 : decode cX8_init 44 = .ok (.return_, 1) := by decide +kernel
theorem dX11_isIndex_0 : decode cX11_isIndex 0 = .ok (.iload_n 0, 1) := by decide +kernel
theorem dX11_isIndex_1 : decode cX11_isIndex 1 = .ok (.ifCond .lt 12, 3) := by decide +kernel
theorem dX11_isIndex_4 : decode cX11_isIndex 4 = .ok (.iload_n 0, 1) := by decide +kernel
theorem dX11_isIndex_5 : decode cX11_isIndex 5 = .ok (.iload_n 1, 1) := by decide +kernel
theorem dX11_isIndex_6 : decode cX11_isIndex 6 = .ok (.if_icmp .ge 7, 3) := by decide +kernel
theorem dX11_isIndex_9 : decode cX11_isIndex 9 = .ok (.iconst 1, 1) := by decide +kernel
theorem dX11_isIndex_10 : decode cX11_isIndex 10 = .ok (.goto 4, 3) := by decide +kernel
theorem dX11_isIndex_13 : decode cX11_isIndex 13 = .ok (.iconst 0, 1) := by decide +kernel
theorem dX11_isIndex_14 : decode cX11_isIndex 14 = .ok (.ireturn, 1) := by decide +kernel
theorem dX12_in_0 : decode cX12_in 0 = .ok (.lload_n 0, 1) := by decide +kernel
theorem dX12_in_1 : decode cX12_in 1 = .ok (.lload_n 2, 1) := by decide +kernel
theorem dX12_in_2 : decode cX12_in 2 = .ok (.lcmp, 1) := by decide +kernel
theorem dX12_in_3 : decode cX12_in 3 = .ok (.ifCond .lt 14, 3) := by decide +kernel
theorem dX12_in_6 : decode cX12_in 6 = .ok (.lload_n 0, 1) := by decide +kernel
theorem dX12_in_7 : decode cX12_in 7 = .ok (.lload 4, 2) := by decide +kernel
theorem dX12_in_9 : decode cX12_in 9 = .ok (.lcmp, 1) := by decide +kernel
theorem dX12_in_10 : decode cX12_in 10 = .ok (.ifCond .gt 7, 3) := by decide +kernel
theorem dX12_in_13 : decode cX12_in 13 = .ok (.iconst 1, 1) := by decide +kernel
theorem dX12_in_14 : decode cX12_in 14 = .ok (.goto 4, 3) := by decide +kernel
theorem dX12_in_17 : decode cX12_in 17 = .ok (.iconst 0, 1) := by decide +kernel
theorem dX12_in_18 : decode cX12_in 18 = .ok (.ireturn, 1) := by decide +kernel
end
section
set_option maxHeartbeats 4000000 in
set_option maxRecDepth 100000 in
theorem c_X8_init (l : Launch) (G : tw_G) (n : Nat) (ad : Nat → Nat) (w : Nat → va_E) (sz : Nat) (hw_n : w n = .inr (8, [.null, .int (0 : Int32), .null, .null, .null, .null, .int (0 : Int32), .int (0 : Int32)])) : Met l yX8_init (tw_ws yX8_init cX8_init 1 none) ({ frames := 1, cells := 5, slots := 144, locals := 20 }) (tw_Pre G (n + 1) ad w sz [.ref (ad n)]) (tw_Qn G (n + 1) 5 ad (fun u => (True ∧ u.2 (n + 1) = .inl (G.2.1 0, 60, .inl (fun _ => 0)) ∧ u.2 n = .inr (8, [.ref (u.1 (n + 1)), .int (0 : Int32), .ref (u.1 (n + 2)), .ref (u.1 (n + 3)), .ref (u.1 (n + 4)), .ref (u.1 (n + 5)), .int (0 : Int32), .int (0 : Int32)]) ∧ u.2 (n + 2) = .inl (G.2.1 0, 21, .inl (fun _ => 0)) ∧ u.2 (n + 3) = .inl (G.2.1 0, 21, .inl (fun _ => 0)) ∧ u.2 (n + 4) = .inl (G.2.1 0, 21, .inl (fun _ => 0)) ∧ u.2 (n + 5) = .inl (G.2.1 0, 21, .inl (fun _ => 0)) ∧ ∀ k, k < n → u.2 k = w k)) sz) 5 144 (tw_A (n + 1) ad sz) := by
  refine tw_met (by decide) (Nat.le_of_ble_eq_true rfl) ?_
  intro p e s m args below meth c F hret hlk hin hargs hsz hH ls hl
  have hx := F.1.1
  have hb := F.1.2.1
  have hown := F.1.2.2.2.1
  have hts := F.1.2.2.2.2
  have hl : lv_has ls 1 [(0, .ref (ad n))] := hl
  generalize hH0 : s.heap = H at hH ⊢
  refine lv_aload_n hx hb dX8_init_0 rfl (lv_at hl 0 rfl) ?_
  refine tw_objInit F (tw_gl kw_157 rfl) (tw_gl kw_32 rfl) (tw_gl kw_33 rfl) hl.1 ⟨(Nat.le_of_ble_eq_true rfl), (Nat.le_of_ble_eq_true rfl)⟩ (Nat.le_of_ble_eq_true rfl) dX8_init_1 ?_
  refine lv_aload_n hx hb dX8_init_4 rfl (lv_at hl 0 rfl) ?_
  refine lv_bipush (v := 60) hx hb dX8_init_5 (by decide) ?_
  refine tw_newa (t := 0) (atype := .int) (ty := .int) (n' := 60) (a0 := (60, .inl (fun _ => 0))) F hH rfl (fun C h => by cases h) (tw_gl kw_47 rfl) rfl (fun _ => rfl) (by decide) (Nat.le_of_ble_eq_true rfl) (Nat.le_of_ble_eq_true rfl) (Nat.le_of_ble_eq_true rfl) dX8_init_7 (fun H locs ad4 w1 ha5 hw2 hne3 hH => ?_)
  have hw6 : w1 n = .inr (8, [.null, .int (0 : Int32), .null, .null, .null, .null, .int (0 : Int32), .int (0 : Int32)]) := (hne3 n (by omega)).trans (hw_n)
  refine tw_putF (r := n) F hH kf_RX8_9 kp_X8_0 hin rfl (ha5 n (by omega)) (by omega) hw6 (Nat.le_of_ble_eq_true rfl) rfl rfl dX8_init_9 (fun H locs w7 hw8 hne9 hH => ?_)
  have hw8 : w7 n = .inr (8, [.ref (ad4 (n + 1)), .int (0 : Int32), .null, .null, .null, .null, .int (0 : Int32), .int (0 : Int32)]) := hw8
  refine lv_aload_n hx hb dX8_init_12 rfl (lv_at hl 0 rfl) ?_
  refine lv_bipush (v := 21) hx hb dX8_init_13 (by decide) ?_
  refine tw_newa (t := 0) (atype := .int) (ty := .int) (n' := 21) (a0 := (21, .inl (fun _ => 0))) F hH rfl (fun C h => by cases h) (tw_gl kw_47 rfl) rfl (fun _ => rfl) (by decide) (Nat.le_of_ble_eq_true rfl) (Nat.le_of_ble_eq_true rfl) (Nat.le_of_ble_eq_true rfl) dX8_init_15 (fun H locs ad13 w10 ha14 hw11 hne12 hH => ?_)
  have hw15 : w10 n = .inr (8, [.ref (ad4 (n + 1)), .int (0 : Int32), .null, .null, .null, .null, .int (0 : Int32), .int (0 : Int32)]) := (hne12 n (by omega)).trans (hw8)
  refine tw_putF (r := n) F hH kf_RX8_15 kp_X8_2 hin rfl ((ha14 n (by omega)).trans (ha5 n (by omega))) (by omega) hw15 (Nat.le_of_ble_eq_true rfl) rfl rfl dX8_init_17 (fun H locs w16 hw17 hne18 hH => ?_)
  have hw17 : w16 n = .inr (8, [.ref (ad4 (n + 1)), .int (0 : Int32), .ref (ad13 (n + 2)), .null, .null, .null, .int (0 : Int32), .int (0 : Int32)]) := hw17
  refine lv_aload_n hx hb dX8_init_20 rfl (lv_at hl 0 rfl) ?_
  refine lv_bipush (v := 21) hx hb dX8_init_21 (by decide) ?_
  refine tw_newa (t := 0) (atype := .int) (ty := .int) (n' := 21) (a0 := (21, .inl (fun _ => 0))) F hH rfl (fun C h => by cases h) (tw_gl kw_47 rfl) rfl (fun _ => rfl) (by decide) (Nat.le_of_ble_eq_true rfl) (Nat.le_of_ble_eq_true rfl) (Nat.le_of_ble_eq_true rfl) dX8_init_23 (fun H locs ad22 w19 ha23 hw20 hne21 hH => ?_)
  have hw24 : w19 n = .inr (8, [.ref (ad4 (n + 1)), .int (0 : Int32), .ref (ad13 (n + 2)), .null, .null, .null, .int (0 : Int32), .int (0 : Int32)]) := (hne21 n (by omega)).trans (hw17)
  refine tw_putF (r := n) F hH kf_RX8_18 kp_X8_3 hin rfl (((ha23 n (by omega)).trans (ha14 n (by omega))).trans (ha5 n (by omega))) (by omega) hw24 (Nat.le_of_ble_eq_true rfl) rfl rfl dX8_init_25 (fun H locs w25 hw26 hne27 hH => ?_)
  have hw26 : w25 n = .inr (8, [.ref (ad4 (n + 1)), .int (0 : Int32), .ref (ad13 (n + 2)), .ref (ad22 (n + 3)), .null, .null, .int (0 : Int32), .int (0 : Int32)]) := hw26
  refine lv_aload_n hx hb dX8_init_28 rfl (lv_at hl 0 rfl) ?_
  refine lv_bipush (v := 21) hx hb dX8_init_29 (by decide) ?_
  refine tw_newa (t := 0) (atype := .int) (ty := .int) (n' := 21) (a0 := (21, .inl (fun _ => 0))) F hH rfl (fun C h => by cases h) (tw_gl kw_47 rfl) rfl (fun _ => rfl) (by decide) (Nat.le_of_ble_eq_true rfl) (Nat.le_of_ble_eq_true rfl) (Nat.le_of_ble_eq_true rfl) dX8_init_31 (fun H locs ad31 w28 ha32 hw29 hne30 hH => ?_)
  have hw33 : w28 n = .inr (8, [.ref (ad4 (n + 1)), .int (0 : Int32), .ref (ad13 (n + 2)), .ref (ad22 (n + 3)), .null, .null, .int (0 : Int32), .int (0 : Int32)]) := (hne30 n (by omega)).trans (hw26)
  refine tw_putF (r := n) F hH kf_RX8_21 kp_X8_4 hin rfl ((((ha32 n (by omega)).trans (ha23 n (by omega))).trans (ha14 n (by omega))).trans (ha5 n (by omega))) (by omega) hw33 (Nat.le_of_ble_eq_true rfl) rfl rfl dX8_init_33 (fun H locs w34 hw35 hne36 hH => ?_)
  have hw35 : w34 n = .inr (8, [.ref (ad4 (n + 1)), .int (0 : Int32), .ref (ad13 (n + 2)), .ref (ad22 (n + 3)), .ref (ad31 (n + 4)), .null, .int (0 : Int32), .int (0 : Int32)]) := hw35
  refine lv_aload_n hx hb dX8_init_36 rfl (lv_at hl 0 rfl) ?_
  refine lv_bipush (v := 21) hx hb dX8_init_37 (by decide) ?_
  refine tw_newa (t := 0) (atype := .int) (ty := .int) (n' := 21) (a0 := (21, .inl (fun _ => 0))) F hH rfl (fun C h => by cases h) (tw_gl kw_47 rfl) rfl (fun _ => rfl) (by decide) (Nat.le_of_ble_eq_true rfl) (Nat.le_of_ble_eq_true rfl) (Nat.le_of_ble_eq_true rfl) dX8_init_39 (fun H locs ad40 w37 ha41 hw38 hne39 hH => ?_)
  have hw42 : w37 n = .inr (8, [.ref (ad4 (n + 1)), .int (0 : Int32), .ref (ad13 (n + 2)), .ref (ad22 (n + 3)), .ref (ad31 (n + 4)), .null, .int (0 : Int32), .int (0 : Int32)]) := (hne39 n (by omega)).trans (hw35)
  refine tw_putF (r := n) F hH kf_RX8_24 kp_X8_5 hin rfl (((((ha41 n (by omega)).trans (ha32 n (by omega))).trans (ha23 n (by omega))).trans (ha14 n (by omega))).trans (ha5 n (by omega))) (by omega) hw42 (Nat.le_of_ble_eq_true rfl) rfl rfl dX8_init_41 (fun H locs w43 hw44 hne45 hH => ?_)
  have hw44 : w43 n = .inr (8, [.ref (ad4 (n + 1)), .int (0 : Int32), .ref (ad13 (n + 2)), .ref (ad22 (n + 3)), .ref (ad31 (n + 4)), .ref (ad40 (n + 5)), .int (0 : Int32), .int (0 : Int32)]) := hw44
  have hw46 : w43 (n + 1) = .inl (G.2.1 0, 60, .inl (fun _ => 0)) := (hne45 (n + 1) (by omega)).trans ((hne39 (n + 1) (by omega)).trans ((hne36 (n + 1) (by omega)).trans ((hne30 (n + 1) (by omega)).trans ((hne27 (n + 1) (by omega)).trans ((hne21 (n + 1) (by omega)).trans ((hne18 (n + 1) (by omega)).trans ((hne12 (n + 1) (by omega)).trans ((hne9 (n + 1) (by omega)).trans (hw2)))))))))
  have hw47 : w43 n = .inr (8, [.ref (ad40 (n + 1)), .int (0 : Int32), .ref (ad40 (n + 2)), .ref (ad40 (n + 3)), .ref (ad40 (n + 4)), .ref (ad40 (n + 5)), .int (0 : Int32), .int (0 : Int32)]) := by rw [hw44]; rw [show ad4 (n + 1) = ad40 (n + 1) from ((((ha41 (n + 1) (by omega)).trans (ha32 (n + 1) (by omega))).trans (ha23 (n + 1) (by omega))).trans (ha14 (n + 1) (by omega))).symm, show ad13 (n + 2) = ad40 (n + 2) from (((ha41 (n + 2) (by omega)).trans (ha32 (n + 2) (by omega))).trans (ha23 (n + 2) (by omega))).symm, show ad22 (n + 3) = ad40 (n + 3) from ((ha41 (n + 3) (by omega)).trans (ha32 (n + 3) (by omega))).symm, show ad31 (n + 4) = ad40 (n + 4) from (ha41 (n + 4) (by omega)).symm]
  have hw48 : w43 (n + 2) = .inl (G.2.1 0, 21, .inl (fun _ => 0)) := (hne45 (n + 2) (by omega)).trans ((hne39 (n + 2) (by omega)).trans ((hne36 (n + 2) (by omega)).trans ((hne30 (n + 2) (by omega)).trans ((hne27 (n + 2) (by omega)).trans ((hne21 (n + 2) (by omega)).trans ((hne18 (n + 2) (by omega)).trans (hw11)))))))
  have hw49 : w43 (n + 3) = .inl (G.2.1 0, 21, .inl (fun _ => 0)) := (hne45 (n + 3) (by omega)).trans ((hne39 (n + 3) (by omega)).trans ((hne36 (n + 3) (by omega)).trans ((hne30 (n + 3) (by omega)).trans ((hne27 (n + 3) (by omega)).trans (hw20)))))
  have hw50 : w43 (n + 4) = .inl (G.2.1 0, 21, .inl (fun _ => 0)) := (hne45 (n + 4) (by omega)).trans ((hne39 (n + 4) (by omega)).trans ((hne36 (n + 4) (by omega)).trans (hw29)))
  have hw51 : w43 (n + 5) = .inl (G.2.1 0, 21, .inl (fun _ => 0)) := (hne45 (n + 5) (by omega)).trans (hw38)
  exact tw_nret F hH (fun k hk => ((ha41 k (by omega)).trans ((ha32 k (by omega)).trans ((ha23 k (by omega)).trans ((ha14 k (by omega)).trans (ha5 k (by omega))))))) hret hlk (Nat.le_of_ble_eq_true rfl) (Nat.le_of_ble_eq_true rfl) dX8_init_44 (⟨trivial, hw46, hw47, hw48, hw49, hw50, hw51, fun k hk => ((hne45 k (by omega)).trans ((hne39 k (by omega)).trans ((hne36 k (by omega)).trans ((hne30 k (by omega)).trans ((hne27 k (by omega)).trans ((hne21 k (by omega)).trans ((hne18 k (by omega)).trans ((hne12 k (by omega)).trans ((hne9 k (by omega)).trans (hne3 k (by omega)))))))))))⟩)
set_option maxHeartbeats 4000000 in
set_option maxRecDepth 100000 in
theorem c_X7_init (l : Launch) (G : tw_G) (n : Nat) (ad : Nat → Nat) (w : Nat → va_E) (sz : Nat) (hw_n : w n = .inr (7, [.int (0 : Int32), .int (0 : Int32), .null, .int (0 : Int32)])) : Met l yX7_init (tw_ws yX7_init cX7_init 3 none) ({ frames := 1, cells := 1, slots := 90, locals := 21 }) (tw_Pre G (n + 1) ad w sz [.ref (ad n), .int (30 : Int32), .int (3 : Int32)]) (tw_Qn G (n + 1) 1 ad (fun u => (True ∧ u.2 n = .inr (7, [.int (30 : Int32), .int (3 : Int32), .ref (u.1 (n + 1)), .int (0 : Int32)]) ∧ u.2 (n + 1) = .inl (G.2.1 0, 90, .inl (fun _ => 0)) ∧ ∀ k, k < n → u.2 k = w k)) sz) 1 90 (tw_A (n + 1) ad sz) := by
  refine tw_met (by decide) (Nat.le_of_ble_eq_true rfl) ?_
  intro p e s m args below meth c F hret hlk hin hargs hsz hH ls hl
  have hx := F.1.1
  have hb := F.1.2.1
  have hown := F.1.2.2.2.1
  have hts := F.1.2.2.2.2
  have hl : lv_has ls 3 [(0, .ref (ad n)), (1, .int (30 : Int32)), (2, .int (3 : Int32))] := hl
  generalize hH0 : s.heap = H at hH ⊢
  refine lv_aload_n hx hb dX7_init_0 rfl (lv_at hl 0 rfl) ?_
  refine tw_objInit F (tw_gl kw_59 rfl) (tw_gl kw_32 rfl) (tw_gl kw_33 rfl) hl.1 ⟨(Nat.le_of_ble_eq_true rfl), (Nat.le_of_ble_eq_true rfl)⟩ (Nat.le_of_ble_eq_true rfl) dX7_init_1 ?_
  refine lv_aload_n hx hb dX7_init_4 rfl (lv_at hl 0 rfl) ?_
  refine lv_iload_n hx hb dX7_init_5 rfl (lv_at hl 1 rfl) ?_
  refine tw_putF (r := n) F hH kf_RX7_9 kp_X7_0 hin rfl rfl (by omega) hw_n (Nat.le_of_ble_eq_true rfl) rfl rfl dX7_init_6 (fun H locs w1 hw2 hne3 hH => ?_)
  have hw2 : w1 n = .inr (7, [.int (30 : Int32), .int (0 : Int32), .null, .int (0 : Int32)]) := hw2
  refine lv_aload_n hx hb dX7_init_9 rfl (lv_at hl 0 rfl) ?_
  refine lv_iload_n hx hb dX7_init_10 rfl (lv_at hl 2 rfl) ?_
  refine tw_putF (r := n) F hH kf_RX7_15 kp_X7_1 hin rfl rfl (by omega) hw2 (Nat.le_of_ble_eq_true rfl) rfl rfl dX7_init_11 (fun H locs w4 hw5 hne6 hH => ?_)
  have hw5 : w4 n = .inr (7, [.int (30 : Int32), .int (3 : Int32), .null, .int (0 : Int32)]) := hw5
  refine lv_aload_n hx hb dX7_init_14 rfl (lv_at hl 0 rfl) ?_
  refine lv_iconst (v := 0) hx hb dX7_init_15 (by decide) ?_
  refine lv_iload_n hx hb dX7_init_16 rfl (lv_at hl 1 rfl) ?_
  refine lv_iload_n hx hb dX7_init_17 rfl (lv_at hl 2 rfl) ?_
  refine lv_imul hx hb dX7_init_18 ?_
  refine tw_cv (v := (90 : Int32)) (by decide) ?_
  refine va_mmax hx hb (F.1.2.2.1.trans hl.1.symm) hown (hts _ (tw_gl kw_60 rfl)) (hts _ (tw_gl kw_61 rfl)) (hts _ (tw_gl kw_5 rfl)) (hts _ (tw_gl kw_62 rfl)) (Nat.le_of_ble_eq_true rfl) (Nat.le_of_ble_eq_true rfl) (Nat.le_of_ble_eq_true rfl) (Nat.le_of_ble_eq_true rfl) dX7_init_19 ?_
  refine tw_cv (v := (90 : Int32)) (by decide) ?_
  refine tw_newa (t := 0) (atype := .int) (ty := .int) (n' := 90) (a0 := (90, .inl (fun _ => 0))) F hH rfl (fun C h => by cases h) (tw_gl kw_47 rfl) rfl (fun _ => rfl) (by decide) (Nat.le_of_ble_eq_true rfl) (Nat.le_of_ble_eq_true rfl) (Nat.le_of_ble_eq_true rfl) dX7_init_22 (fun H locs ad10 w7 ha11 hw8 hne9 hH => ?_)
  have hw12 : w7 n = .inr (7, [.int (30 : Int32), .int (3 : Int32), .null, .int (0 : Int32)]) := (hne9 n (by omega)).trans (hw5)
  refine tw_putF (r := n) F hH kf_RX7_24 kp_X7_2 hin rfl (ha11 n (by omega)) (by omega) hw12 (Nat.le_of_ble_eq_true rfl) rfl rfl dX7_init_24 (fun H locs w13 hw14 hne15 hH => ?_)
  have hw14 : w13 n = .inr (7, [.int (30 : Int32), .int (3 : Int32), .ref (ad10 (n + 1)), .int (0 : Int32)]) := hw14
  have hw16 : w13 (n + 1) = .inl (G.2.1 0, 90, .inl (fun _ => 0)) := (hne15 (n + 1) (by omega)).trans (hw8)
  exact tw_nret F hH (fun k hk => (ha11 k (by omega))) hret hlk (Nat.le_of_ble_eq_true rfl) (Nat.le_of_ble_eq_true rfl) dX7_init_27 (⟨trivial, hw14, hw16, fun k hk => ((hne15 k (by omega)).trans ((hne9 k (by omega)).trans ((hne6 k (by omega)).trans (hne3 k (by omega)))))⟩)
set_option maxHeartbeats 4000000 in
set_option maxRecDepth 100000 in
theorem c_X11_isIndex (l : Launch) (G : tw_G) (N : Nat) (ad : Nat → Nat) (w : Nat → va_E) (sz : Nat) (x0 : Int32) (z0 : Int) (e0 : x0.toInt = z0) (x1 : Int32) (z1 : Int) (e1 : x1.toInt = z1) : Met l yX11_isIndex (tw_ws yX11_isIndex cX11_isIndex 2 (some .boolean)) ({ frames := 0, cells := 0, slots := 0, locals := 0 }) (tw_Pre G N ad w sz [.int x0, .int x1]) (tw_Qi G N ad (fun r w1 => ((0 : Int32) = r ∧ (((z0 < 0)) ∨ ((¬ (z0 < 0)) ∧ (z1 ≤ z0))) ∧ w = w1) ∨ ((1 : Int32) = r ∧ ((¬ (z0 < 0)) ∧ (¬ (z1 ≤ z0))) ∧ w = w1)) sz) 0 0 (tw_A N ad sz) := by
  refine tw_met (by decide) (Nat.le_of_ble_eq_true rfl) ?_
  intro p e s m args below meth c F hret hlk hin hargs hsz hH ls hl
  have hx := F.1.1
  have hb := F.1.2.1
  have hown := F.1.2.2.2.1
  have hts := F.1.2.2.2.2
  have hl : lv_has ls 2 [(0, .int x0), (1, .int x1)] := hl
  generalize hH0 : s.heap = H at hH ⊢
  refine lv_iload_n hx hb dX11_isIndex_0 rfl (lv_at hl 0 rfl) ?_
  refine lv_if_lt (tgt := 13) hx hb dX11_isIndex_1 (by decide) (fun c1 => ?_) (fun c1 => ?_)
  · have c1 := (tw_lt e0 (by decide : (0 : Int32).toInt = 0)).mp c1
    refine lv_iconst (v := 0) hx hb dX11_isIndex_13 (by decide) ?_
    exact tw_iret F hH hret hlk rfl (Nat.le_of_ble_eq_true rfl) (Nat.le_of_ble_eq_true rfl) dX11_isIndex_14 (Or.inl (⟨rfl, (by omega), rfl⟩))
  · have c1 := mt (tw_lt e0 (by decide : (0 : Int32).toInt = 0)).mpr c1
    refine lv_iload_n hx hb dX11_isIndex_4 rfl (lv_at hl 0 rfl) ?_
    refine lv_iload_n hx hb dX11_isIndex_5 rfl (lv_at hl 1 rfl) ?_
    refine lv_icmp_ge (tgt := 13) hx hb dX11_isIndex_6 (by decide) (fun c2 => ?_) (fun c2 => ?_)
    · have c2 := (tw_le e1 e0).mp c2
      refine lv_iconst (v := 0) hx hb dX11_isIndex_13 (by decide) ?_
      exact tw_iret F hH hret hlk rfl (Nat.le_of_ble_eq_true rfl) (Nat.le_of_ble_eq_true rfl) dX11_isIndex_14 (Or.inl (⟨rfl, (by omega), rfl⟩))
    · have c2 := mt (tw_le e1 e0).mpr c2
      refine lv_iconst (v := 1) hx hb dX11_isIndex_9 (by decide) ?_
      refine lv_goto (tgt := 14) hx hb dX11_isIndex_10 (by decide) ?_
      exact tw_iret F hH hret hlk rfl (Nat.le_of_ble_eq_true rfl) (Nat.le_of_ble_eq_true rfl) dX11_isIndex_14 (Or.inr (⟨rfl, (by omega), rfl⟩))
set_option maxHeartbeats 4000000 in
set_option maxRecDepth 100000 in
theorem c_X12_in (l : Launch) (G : tw_G) (N : Nat) (ad : Nat → Nat) (w : Nat → va_E) (sz : Nat) (x0 : Int64) (z0 : Int) (e0 : x0.toInt = z0) (x1 : Int64) (z1 : Int) (e1 : x1.toInt = z1) (x2 : Int64) (z2 : Int) (e2 : x2.toInt = z2) : Met l yX12_in (tw_ws yX12_in cX12_in 6 (some .boolean)) ({ frames := 0, cells := 0, slots := 0, locals := 0 }) (tw_Pre G N ad w sz [.long x0, .long x1, .long x2]) (tw_Qi G N ad (fun r w1 => ((0 : Int32) = r ∧ (((z0 < z1)) ∨ ((¬ (z0 < z1)) ∧ (z2 < z0))) ∧ w = w1) ∨ ((1 : Int32) = r ∧ ((¬ (z0 < z1)) ∧ (¬ (z2 < z0))) ∧ w = w1)) sz) 0 0 (tw_A N ad sz) := by
  refine tw_met (by decide) (Nat.le_of_ble_eq_true rfl) ?_
  intro p e s m args below meth c F hret hlk hin hargs hsz hH ls hl
  have hx := F.1.1
  have hb := F.1.2.1
  have hown := F.1.2.2.2.1
  have hts := F.1.2.2.2.2
  have hl : lv_has ls 6 [(0, .long x0), (2, .long x1), (4, .long x2)] := hl
  generalize hH0 : s.heap = H at hH ⊢
  refine lv_lload_n hx hb dX12_in_0 rfl (lv_at hl 0 rfl) ?_
  refine lv_lload_n hx hb dX12_in_1 rfl (lv_at hl 1 rfl) ?_
  refine W.lcmp hx hb dX12_in_2 ?_
  refine lv_if_lt (tgt := 17) hx hb dX12_in_3 (by decide) (fun c1 => ?_) (fun c1 => ?_)
  · have c1 := (tw_ltL e0 e1).mp c1
    refine lv_iconst (v := 0) hx hb dX12_in_17 (by decide) ?_
    exact tw_iret F hH hret hlk rfl (Nat.le_of_ble_eq_true rfl) (Nat.le_of_ble_eq_true rfl) dX12_in_18 (Or.inl (⟨rfl, (by omega), rfl⟩))
  · have c1 := mt (tw_ltL e0 e1).mpr c1
    refine lv_lload_n hx hb dX12_in_6 rfl (lv_at hl 0 rfl) ?_
    refine lv_lload hx hb dX12_in_7 (lv_at hl 2 rfl) ?_
    refine W.lcmp hx hb dX12_in_9 ?_
    refine lv_if_gt (tgt := 17) hx hb dX12_in_10 (by decide) (fun c2 => ?_) (fun c2 => ?_)
    · have c2 := (tw_gtL e0 e2).mp c2
      refine lv_iconst (v := 0) hx hb dX12_in_17 (by decide) ?_
      exact tw_iret F hH hret hlk rfl (Nat.le_of_ble_eq_true rfl) (Nat.le_of_ble_eq_true rfl) dX12_in_18 (Or.inl (⟨rfl, (by omega), rfl⟩))
    · have c2 := mt (tw_gtL e0 e2).mpr c2
      refine lv_iconst (v := 1) hx hb dX12_in_13 (by decide) ?_
      refine lv_goto (tgt := 18) hx hb dX12_in_14 (by decide) ?_
      exact tw_iret F hH hret hlk rfl (Nat.le_of_ble_eq_true rfl) (Nat.le_of_ble_eq_true rfl) dX12_in_18 (Or.inr (⟨rfl, (by omega), rfl⟩))
set_option maxHeartbeats 4000000 in
set_option maxRecDepth 100000 in
theorem c_X7_init_v2 (l : Launch) (G : tw_G) (n : Nat) (ad : Nat → Nat) (w : Nat → va_E) (sz : Nat) (hw_n : w n = .inr (7, [.int (0 : Int32), .int (0 : Int32), .null, .int (0 : Int32)])) : Met l yX7_init (tw_ws yX7_init cX7_init 3 none) ({ frames := 1, cells := 1, slots := 8, locals := 21 }) (tw_Pre G (n + 1) ad w sz [.ref (ad n), .int (4 : Int32), .int (2 : Int32)]) (tw_Qn G (n + 1) 1 ad (fun u => (True ∧ u.2 n = .inr (7, [.int (4 : Int32), .int (2 : Int32), .ref (u.1 (n + 1)), .int (0 : Int32)]) ∧ u.2 (n + 1) = .inl (G.2.1 0, 8, .inl (fun _ => 0)) ∧ ∀ k, k < n → u.2 k = w k)) sz) 1 8 (tw_A (n + 1) ad sz) := by
  refine tw_met (by decide) (Nat.le_of_ble_eq_true rfl) ?_
  intro p e s m args below meth c F hret hlk hin hargs hsz hH ls hl
  have hx := F.1.1
  have hb := F.1.2.1
  have hown := F.1.2.2.2.1
  have hts := F.1.2.2.2.2
  have hl : lv_has ls 3 [(0, .ref (ad n)), (1, .int (4 : Int32)), (2, .int (2 : Int32))] := hl
  generalize hH0 : s.heap = H at hH ⊢
  refine lv_aload_n hx hb dX7_init_0 rfl (lv_at hl 0 rfl) ?_
  refine tw_objInit F (tw_gl kw_59 rfl) (tw_gl kw_32 rfl) (tw_gl kw_33 rfl) hl.1 ⟨(Nat.le_of_ble_eq_true rfl), (Nat.le_of_ble_eq_true rfl)⟩ (Nat.le_of_ble_eq_true rfl) dX7_init_1 ?_
  refine lv_aload_n hx hb dX7_init_4 rfl (lv_at hl 0 rfl) ?_
  refine lv_iload_n hx hb dX7_init_5 rfl (lv_at hl 1 rfl) ?_
  refine tw_putF (r := n) F hH kf_RX7_9 kp_X7_0 hin rfl rfl (by omega) hw_n (Nat.le_of_ble_eq_true rfl) rfl rfl dX7_init_6 (fun H locs w1 hw2 hne3 hH => ?_)
  have hw2 : w1 n = .inr (7, [.int (4 : Int32), .int (0 : Int32), .null, .int (0 : Int32)]) := hw2
  refine lv_aload_n hx hb dX7_init_9 rfl (lv_at hl 0 rfl) ?_
  refine lv_iload_n hx hb dX7_init_10 rfl (lv_at hl 2 rfl) ?_
  refine tw_putF (r := n) F hH kf_RX7_15 kp_X7_1 hin rfl rfl (by omega) hw2 (Nat.le_of_ble_eq_true rfl) rfl rfl dX7_init_11 (fun H locs w4 hw5 hne6 hH => ?_)
  have hw5 : w4 n = .inr (7, [.int (4 : Int32), .int (2 : Int32), .null, .int (0 : Int32)]) := hw5
  refine lv_aload_n hx hb dX7_init_14 rfl (lv_at hl 0 rfl) ?_
  refine lv_iconst (v := 0) hx hb dX7_init_15 (by decide) ?_
  refine lv_iload_n hx hb dX7_init_16 rfl (lv_at hl 1 rfl) ?_
  refine lv_iload_n hx hb dX7_init_17 rfl (lv_at hl 2 rfl) ?_
  refine lv_imul hx hb dX7_init_18 ?_
  refine tw_cv (v := (8 : Int32)) (by decide) ?_
  refine va_mmax hx hb (F.1.2.2.1.trans hl.1.symm) hown (hts _ (tw_gl kw_60 rfl)) (hts _ (tw_gl kw_61 rfl)) (hts _ (tw_gl kw_5 rfl)) (hts _ (tw_gl kw_62 rfl)) (Nat.le_of_ble_eq_true rfl) (Nat.le_of_ble_eq_true rfl) (Nat.le_of_ble_eq_true rfl) (Nat.le_of_ble_eq_true rfl) dX7_init_19 ?_
  refine tw_cv (v := (8 : Int32)) (by decide) ?_
  refine tw_newa (t := 0) (atype := .int) (ty := .int) (n' := 8) (a0 := (8, .inl (fun _ => 0))) F hH rfl (fun C h => by cases h) (tw_gl kw_47 rfl) rfl (fun _ => rfl) (by decide) (Nat.le_of_ble_eq_true rfl) (Nat.le_of_ble_eq_true rfl) (Nat.le_of_ble_eq_true rfl) dX7_init_22 (fun H locs ad10 w7 ha11 hw8 hne9 hH => ?_)
  have hw12 : w7 n = .inr (7, [.int (4 : Int32), .int (2 : Int32), .null, .int (0 : Int32)]) := (hne9 n (by omega)).trans (hw5)
  refine tw_putF (r := n) F hH kf_RX7_24 kp_X7_2 hin rfl (ha11 n (by omega)) (by omega) hw12 (Nat.le_of_ble_eq_true rfl) rfl rfl dX7_init_24 (fun H locs w13 hw14 hne15 hH => ?_)
  have hw14 : w13 n = .inr (7, [.int (4 : Int32), .int (2 : Int32), .ref (ad10 (n + 1)), .int (0 : Int32)]) := hw14
  have hw16 : w13 (n + 1) = .inl (G.2.1 0, 8, .inl (fun _ => 0)) := (hne15 (n + 1) (by omega)).trans (hw8)
  exact tw_nret F hH (fun k hk => (ha11 k (by omega))) hret hlk (Nat.le_of_ble_eq_true rfl) (Nat.le_of_ble_eq_true rfl) dX7_init_27 (⟨trivial, hw14, hw16, fun k hk => ((hne15 k (by omega)).trans ((hne9 k (by omega)).trans ((hne6 k (by omega)).trans (hne3 k (by omega)))))⟩)
set_option maxHeartbeats 4000000 in
set_option maxRecDepth 100000 in
theorem c_X7_init_v3 (l : Launch) (G : tw_G) (n : Nat) (ad : Nat → Nat) (w : Nat → va_E) (sz : Nat) (hw_n : w n = .inr (7, [.int (0 : Int32), .int (0 : Int32), .null, .int (0 : Int32)])) : Met l yX7_init (tw_ws yX7_init cX7_init 3 none) ({ frames := 1, cells := 1, slots := 36, locals := 21 }) (tw_Pre G (n + 1) ad w sz [.ref (ad n), .int (12 : Int32), .int (3 : Int32)]) (tw_Qn G (n + 1) 1 ad (fun u => (True ∧ u.2 n = .inr (7, [.int (12 : Int32), .int (3 : Int32), .ref (u.1 (n + 1)), .int (0 : Int32)]) ∧ u.2 (n + 1) = .inl (G.2.1 0, 36, .inl (fun _ => 0)) ∧ ∀ k, k < n → u.2 k = w k)) sz) 1 36 (tw_A (n + 1) ad sz) := by
  refine tw_met (by decide) (Nat.le_of_ble_eq_true rfl) ?_
  intro p e s m args below meth c F hret hlk hin hargs hsz hH ls hl
  have hx := F.1.1
  have hb := F.1.2.1
  have hown := F.1.2.2.2.1
  have hts := F.1.2.2.2.2
  have hl : lv_has ls 3 [(0, .ref (ad n)), (1, .int (12 : Int32)), (2, .int (3 : Int32))] := hl
  generalize hH0 : s.heap = H at hH ⊢
  refine lv_aload_n hx hb dX7_init_0 rfl (lv_at hl 0 rfl) ?_
  refine tw_objInit F (tw_gl kw_59 rfl) (tw_gl kw_32 rfl) (tw_gl kw_33 rfl) hl.1 ⟨(Nat.le_of_ble_eq_true rfl), (Nat.le_of_ble_eq_true rfl)⟩ (Nat.le_of_ble_eq_true rfl) dX7_init_1 ?_
  refine lv_aload_n hx hb dX7_init_4 rfl (lv_at hl 0 rfl) ?_
  refine lv_iload_n hx hb dX7_init_5 rfl (lv_at hl 1 rfl) ?_
  refine tw_putF (r := n) F hH kf_RX7_9 kp_X7_0 hin rfl rfl (by omega) hw_n (Nat.le_of_ble_eq_true rfl) rfl rfl dX7_init_6 (fun H locs w1 hw2 hne3 hH => ?_)
  have hw2 : w1 n = .inr (7, [.int (12 : Int32), .int (0 : Int32), .null, .int (0 : Int32)]) := hw2
  refine lv_aload_n hx hb dX7_init_9 rfl (lv_at hl 0 rfl) ?_
  refine lv_iload_n hx hb dX7_init_10 rfl (lv_at hl 2 rfl) ?_
  refine tw_putF (r := n) F hH kf_RX7_15 kp_X7_1 hin rfl rfl (by omega) hw2 (Nat.le_of_ble_eq_true rfl) rfl rfl dX7_init_11 (fun H locs w4 hw5 hne6 hH => ?_)
  have hw5 : w4 n = .inr (7, [.int (12 : Int32), .int (3 : Int32), .null, .int (0 : Int32)]) := hw5
  refine lv_aload_n hx hb dX7_init_14 rfl (lv_at hl 0 rfl) ?_
  refine lv_iconst (v := 0) hx hb dX7_init_15 (by decide) ?_
  refine lv_iload_n hx hb dX7_init_16 rfl (lv_at hl 1 rfl) ?_
  refine lv_iload_n hx hb dX7_init_17 rfl (lv_at hl 2 rfl) ?_
  refine lv_imul hx hb dX7_init_18 ?_
  refine tw_cv (v := (36 : Int32)) (by decide) ?_
  refine va_mmax hx hb (F.1.2.2.1.trans hl.1.symm) hown (hts _ (tw_gl kw_60 rfl)) (hts _ (tw_gl kw_61 rfl)) (hts _ (tw_gl kw_5 rfl)) (hts _ (tw_gl kw_62 rfl)) (Nat.le_of_ble_eq_true rfl) (Nat.le_of_ble_eq_true rfl) (Nat.le_of_ble_eq_true rfl) (Nat.le_of_ble_eq_true rfl) dX7_init_19 ?_
  refine tw_cv (v := (36 : Int32)) (by decide) ?_
  refine tw_newa (t := 0) (atype := .int) (ty := .int) (n' := 36) (a0 := (36, .inl (fun _ => 0))) F hH rfl (fun C h => by cases h) (tw_gl kw_47 rfl) rfl (fun _ => rfl) (by decide) (Nat.le_of_ble_eq_true rfl) (Nat.le_of_ble_eq_true rfl) (Nat.le_of_ble_eq_true rfl) dX7_init_22 (fun H locs ad10 w7 ha11 hw8 hne9 hH => ?_)
  have hw12 : w7 n = .inr (7, [.int (12 : Int32), .int (3 : Int32), .null, .int (0 : Int32)]) := (hne9 n (by omega)).trans (hw5)
  refine tw_putF (r := n) F hH kf_RX7_24 kp_X7_2 hin rfl (ha11 n (by omega)) (by omega) hw12 (Nat.le_of_ble_eq_true rfl) rfl rfl dX7_init_24 (fun H locs w13 hw14 hne15 hH => ?_)
  have hw14 : w13 n = .inr (7, [.int (12 : Int32), .int (3 : Int32), .ref (ad10 (n + 1)), .int (0 : Int32)]) := hw14
  have hw16 : w13 (n + 1) = .inl (G.2.1 0, 36, .inl (fun _ => 0)) := (hne15 (n + 1) (by omega)).trans (hw8)
  exact tw_nret F hH (fun k hk => (ha11 k (by omega))) hret hlk (Nat.le_of_ble_eq_true rfl) (Nat.le_of_ble_eq_true rfl) dX7_init_27 (⟨trivial, hw14, hw16, fun k hk => ((hne15 k (by omega)).trans ((hne9 k (by omega)).trans ((hne6 k (by omega)).trans (hne3 k (by omega)))))⟩)
set_option maxHeartbeats 4000000 in
set_option maxRecDepth 100000 in
theorem c_X7_init_v4 (l : Launch) (G : tw_G) (n : Nat) (ad : Nat → Nat) (w : Nat → va_E) (sz : Nat) (hw_n : w n = .inr (7, [.int (0 : Int32), .int (0 : Int32), .null, .int (0 : Int32)])) : Met l yX7_init (tw_ws yX7_init cX7_init 3 none) ({ frames := 1, cells := 1, slots := 15, locals := 21 }) (tw_Pre G (n + 1) ad w sz [.ref (ad n), .int (5 : Int32), .int (3 : Int32)]) (tw_Qn G (n + 1) 1 ad (fun u => (True ∧ u.2 n = .inr (7, [.int (5 : Int32), .int (3 : Int32), .ref (u.1 (n + 1)), .int (0 : Int32)]) ∧ u.2 (n + 1) = .inl (G.2.1 0, 15, .inl (fun _ => 0)) ∧ ∀ k, k < n → u.2 k = w k)) sz) 1 15 (tw_A (n + 1) ad sz) := by
  refine tw_met (by decide) (Nat.le_of_ble_eq_true rfl) ?_
  intro p e s m args below meth c F hret hlk hin hargs hsz hH ls hl
  have hx := F.1.1
  have hb := F.1.2.1
  have hown := F.1.2.2.2.1
  have hts := F.1.2.2.2.2
  have hl : lv_has ls 3 [(0, .ref (ad n)), (1, .int (5 : Int32)), (2, .int (3 : Int32))] := hl
  generalize hH0 : s.heap = H at hH ⊢
  refine lv_aload_n hx hb dX7_init_0 rfl (lv_at hl 0 rfl) ?_
  refine tw_objInit F (tw_gl kw_59 rfl) (tw_gl kw_32 rfl) (tw_gl kw_33 rfl) hl.1 ⟨(Nat.le_of_ble_eq_true rfl), (Nat.le_of_ble_eq_true rfl)⟩ (Nat.le_of_ble_eq_true rfl) dX7_init_1 ?_
  refine lv_aload_n hx hb dX7_init_4 rfl (lv_at hl 0 rfl) ?_
  refine lv_iload_n hx hb dX7_init_5 rfl (lv_at hl 1 rfl) ?_
  refine tw_putF (r := n) F hH kf_RX7_9 kp_X7_0 hin rfl rfl (by omega) hw_n (Nat.le_of_ble_eq_true rfl) rfl rfl dX7_init_6 (fun H locs w1 hw2 hne3 hH => ?_)
  have hw2 : w1 n = .inr (7, [.int (5 : Int32), .int (0 : Int32), .null, .int (0 : Int32)]) := hw2
  refine lv_aload_n hx hb dX7_init_9 rfl (lv_at hl 0 rfl) ?_
  refine lv_iload_n hx hb dX7_init_10 rfl (lv_at hl 2 rfl) ?_
  refine tw_putF (r := n) F hH kf_RX7_15 kp_X7_1 hin rfl rfl (by omega) hw2 (Nat.le_of_ble_eq_true rfl) rfl rfl dX7_init_11 (fun H locs w4 hw5 hne6 hH => ?_)
  have hw5 : w4 n = .inr (7, [.int (5 : Int32), .int (3 : Int32), .null, .int (0 : Int32)]) := hw5
  refine lv_aload_n hx hb dX7_init_14 rfl (lv_at hl 0 rfl) ?_
  refine lv_iconst (v := 0) hx hb dX7_init_15 (by decide) ?_
  refine lv_iload_n hx hb dX7_init_16 rfl (lv_at hl 1 rfl) ?_
  refine lv_iload_n hx hb dX7_init_17 rfl (lv_at hl 2 rfl) ?_
  refine lv_imul hx hb dX7_init_18 ?_
  refine tw_cv (v := (15 : Int32)) (by decide) ?_
  refine va_mmax hx hb (F.1.2.2.1.trans hl.1.symm) hown (hts _ (tw_gl kw_60 rfl)) (hts _ (tw_gl kw_61 rfl)) (hts _ (tw_gl kw_5 rfl)) (hts _ (tw_gl kw_62 rfl)) (Nat.le_of_ble_eq_true rfl) (Nat.le_of_ble_eq_true rfl) (Nat.le_of_ble_eq_true rfl) (Nat.le_of_ble_eq_true rfl) dX7_init_19 ?_
  refine tw_cv (v := (15 : Int32)) (by decide) ?_
  refine tw_newa (t := 0) (atype := .int) (ty := .int) (n' := 15) (a0 := (15, .inl (fun _ => 0))) F hH rfl (fun C h => by cases h) (tw_gl kw_47 rfl) rfl (fun _ => rfl) (by decide) (Nat.le_of_ble_eq_true rfl) (Nat.le_of_ble_eq_true rfl) (Nat.le_of_ble_eq_true rfl) dX7_init_22 (fun H locs ad10 w7 ha11 hw8 hne9 hH => ?_)
  have hw12 : w7 n = .inr (7, [.int (5 : Int32), .int (3 : Int32), .null, .int (0 : Int32)]) := (hne9 n (by omega)).trans (hw5)
  refine tw_putF (r := n) F hH kf_RX7_24 kp_X7_2 hin rfl (ha11 n (by omega)) (by omega) hw12 (Nat.le_of_ble_eq_true rfl) rfl rfl dX7_init_24 (fun H locs w13 hw14 hne15 hH => ?_)
  have hw14 : w13 n = .inr (7, [.int (5 : Int32), .int (3 : Int32), .ref (ad10 (n + 1)), .int (0 : Int32)]) := hw14
  have hw16 : w13 (n + 1) = .inl (G.2.1 0, 15, .inl (fun _ => 0)) := (hne15 (n + 1) (by omega)).trans (hw8)
  exact tw_nret F hH (fun k hk => (ha11 k (by omega))) hret hlk (Nat.le_of_ble_eq_true rfl) (Nat.le_of_ble_eq_true rfl) dX7_init_27 (⟨trivial, hw14, hw16, fun k hk => ((hne15 k (by omega)).trans ((hne9 k (by omega)).trans ((hne6 k (by omega)).trans (hne3 k (by omega)))))⟩)
set_option maxHeartbeats 4000000 in
set_option maxRecDepth 100000 in
theorem c_X7_init_v5 (l : Launch) (G : tw_G) (n : Nat) (ad : Nat → Nat) (w : Nat → va_E) (sz : Nat) (hw_n : w n = .inr (7, [.int (0 : Int32), .int (0 : Int32), .null, .int (0 : Int32)])) : Met l yX7_init (tw_ws yX7_init cX7_init 3 none) ({ frames := 1, cells := 1, slots := 6, locals := 21 }) (tw_Pre G (n + 1) ad w sz [.ref (ad n), .int (2 : Int32), .int (3 : Int32)]) (tw_Qn G (n + 1) 1 ad (fun u => (True ∧ u.2 n = .inr (7, [.int (2 : Int32), .int (3 : Int32), .ref (u.1 (n + 1)), .int (0 : Int32)]) ∧ u.2 (n + 1) = .inl (G.2.1 0, 6, .inl (fun _ => 0)) ∧ ∀ k, k < n → u.2 k = w k)) sz) 1 6 (tw_A (n + 1) ad sz) := by
  refine tw_met (by decide) (Nat.le_of_ble_eq_true rfl) ?_
  intro p e s m args below meth c F hret hlk hin hargs hsz hH ls hl
  have hx := F.1.1
  have hb := F.1.2.1
  have hown := F.1.2.2.2.1
  have hts := F.1.2.2.2.2
  have hl : lv_has ls 3 [(0, .ref (ad n)), (1, .int (2 : Int32)), (2, .int (3 : Int32))] := hl
  generalize hH0 : s.heap = H at hH ⊢
  refine lv_aload_n hx hb dX7_init_0 rfl (lv_at hl 0 rfl) ?_
  refine tw_objInit F (tw_gl kw_59 rfl) (tw_gl kw_32 rfl) (tw_gl kw_33 rfl) hl.1 ⟨(Nat.le_of_ble_eq_true rfl), (Nat.le_of_ble_eq_true rfl)⟩ (Nat.le_of_ble_eq_true rfl) dX7_init_1 ?_
  refine lv_aload_n hx hb dX7_init_4 rfl (lv_at hl 0 rfl) ?_
  refine lv_iload_n hx hb dX7_init_5 rfl (lv_at hl 1 rfl) ?_
  refine tw_putF (r := n) F hH kf_RX7_9 kp_X7_0 hin rfl rfl (by omega) hw_n (Nat.le_of_ble_eq_true rfl) rfl rfl dX7_init_6 (fun H locs w1 hw2 hne3 hH => ?_)
  have hw2 : w1 n = .inr (7, [.int (2 : Int32), .int (0 : Int32), .null, .int (0 : Int32)]) := hw2
  refine lv_aload_n hx hb dX7_init_9 rfl (lv_at hl 0 rfl) ?_
  refine lv_iload_n hx hb dX7_init_10 rfl (lv_at hl 2 rfl) ?_
  refine tw_putF (r := n) F hH kf_RX7_15 kp_X7_1 hin rfl rfl (by omega) hw2 (Nat.le_of_ble_eq_true rfl) rfl rfl dX7_init_11 (fun H locs w4 hw5 hne6 hH => ?_)
  have hw5 : w4 n = .inr (7, [.int (2 : Int32), .int (3 : Int32), .null, .int (0 : Int32)]) := hw5
  refine lv_aload_n hx hb dX7_init_14 rfl (lv_at hl 0 rfl) ?_
  refine lv_iconst (v := 0) hx hb dX7_init_15 (by decide) ?_
  refine lv_iload_n hx hb dX7_init_16 rfl (lv_at hl 1 rfl) ?_
  refine lv_iload_n hx hb dX7_init_17 rfl (lv_at hl 2 rfl) ?_
  refine lv_imul hx hb dX7_init_18 ?_
  refine tw_cv (v := (6 : Int32)) (by decide) ?_
  refine va_mmax hx hb (F.1.2.2.1.trans hl.1.symm) hown (hts _ (tw_gl kw_60 rfl)) (hts _ (tw_gl kw_61 rfl)) (hts _ (tw_gl kw_5 rfl)) (hts _ (tw_gl kw_62 rfl)) (Nat.le_of_ble_eq_true rfl) (Nat.le_of_ble_eq_true rfl) (Nat.le_of_ble_eq_true rfl) (Nat.le_of_ble_eq_true rfl) dX7_init_19 ?_
  refine tw_cv (v := (6 : Int32)) (by decide) ?_
  refine tw_newa (t := 0) (atype := .int) (ty := .int) (n' := 6) (a0 := (6, .inl (fun _ => 0))) F hH rfl (fun C h => by cases h) (tw_gl kw_47 rfl) rfl (fun _ => rfl) (by decide) (Nat.le_of_ble_eq_true rfl) (Nat.le_of_ble_eq_true rfl) (Nat.le_of_ble_eq_true rfl) dX7_init_22 (fun H locs ad10 w7 ha11 hw8 hne9 hH => ?_)
  have hw12 : w7 n = .inr (7, [.int (2 : Int32), .int (3 : Int32), .null, .int (0 : Int32)]) := (hne9 n (by omega)).trans (hw5)
  refine tw_putF (r := n) F hH kf_RX7_24 kp_X7_2 hin rfl (ha11 n (by omega)) (by omega) hw12 (Nat.le_of_ble_eq_true rfl) rfl rfl dX7_init_24 (fun H locs w13 hw14 hne15 hH => ?_)
  have hw14 : w13 n = .inr (7, [.int (2 : Int32), .int (3 : Int32), .ref (ad10 (n + 1)), .int (0 : Int32)]) := hw14
  have hw16 : w13 (n + 1) = .inl (G.2.1 0, 6, .inl (fun _ => 0)) := (hne15 (n + 1) (by omega)).trans (hw8)
  exact tw_nret F hH (fun k hk => (ha11 k (by omega))) hret hlk (Nat.le_of_ble_eq_true rfl) (Nat.le_of_ble_eq_true rfl) dX7_init_27 (⟨trivial, hw14, hw16, fun k hk => ((hne15 k (by omega)).trans ((hne9 k (by omega)).trans ((hne6 k (by omega)).trans (hne3 k (by omega)))))⟩)
set_option maxHeartbeats 4000000 in
set_option maxRecDepth 100000 in
theorem c_X1_init (l : Launch) (G : tw_G) (n : Nat) (ad : Nat → Nat) (w : Nat → va_E) (sz : Nat) (hw_n : w n = .inr (1, [.int (0 : Int32), .int (0 : Int32), .int (0 : Int32), .int (0 : Int32), .int (0 : Int32), .int (0 : Int32), .null, .null, .null, .null, .null, .null, .int (0 : Int32), .int (0 : Int32)])) : Met l yX1_init (tw_ws yX1_init cX1_init 1 none) ({ frames := 2, cells := 16, slots := 245, locals := 43 }) (tw_Pre G (n + 1) ad w sz [.ref (ad n)]) (tw_Qn G (n + 1) 16 ad (fun u => (True ∧ u.2 (n + 1) = .inr (7, [.int (4 : Int32), .int (2 : Int32), .ref (u.1 (n + 2)), .int (0 : Int32)]) ∧ u.2 (n + 2) = .inl (G.2.1 0, 8, .inl (fun _ => 0)) ∧ u.2 n = .inr (1, [.int (0 : Int32), .int (0 : Int32), .int (0 : Int32), .int (0 : Int32), .int (0 : Int32), .int (0 : Int32), .ref (u.1 (n + 1)), .ref (u.1 (n + 3)), .ref (u.1 (n + 5)), .ref (u.1 (n + 7)), .ref (u.1 (n + 9)), .ref (u.1 (n + 11)), .int (0 : Int32), .int (0 : Int32)]) ∧ u.2 (n + 3) = .inr (7, [.int (12 : Int32), .int (3 : Int32), .ref (u.1 (n + 4)), .int (0 : Int32)]) ∧ u.2 (n + 4) = .inl (G.2.1 0, 36, .inl (fun _ => 0)) ∧ u.2 (n + 5) = .inr (7, [.int (5 : Int32), .int (3 : Int32), .ref (u.1 (n + 6)), .int (0 : Int32)]) ∧ u.2 (n + 6) = .inl (G.2.1 0, 15, .inl (fun _ => 0)) ∧ u.2 (n + 7) = .inr (7, [.int (4 : Int32), .int (2 : Int32), .ref (u.1 (n + 8)), .int (0 : Int32)]) ∧ u.2 (n + 8) = .inl (G.2.1 0, 8, .inl (fun _ => 0)) ∧ u.2 (n + 9) = .inr (7, [.int (2 : Int32), .int (3 : Int32), .ref (u.1 (n + 10)), .int (0 : Int32)]) ∧ u.2 (n + 10) = .inl (G.2.1 0, 6, .inl (fun _ => 0)) ∧ u.2 (n + 11) = .inr (8, [.ref (u.1 (n + 12)), .int (0 : Int32), .ref (u.1 (n + 13)), .ref (u.1 (n + 14)), .ref (u.1 (n + 15)), .ref (u.1 (n + 16)), .int (0 : Int32), .int (0 : Int32)]) ∧ u.2 (n + 12) = .inl (G.2.1 0, 60, .inl (fun _ => 0)) ∧ u.2 (n + 13) = .inl (G.2.1 0, 21, .inl (fun _ => 0)) ∧ u.2 (n + 14) = .inl (G.2.1 0, 21, .inl (fun _ => 0)) ∧ u.2 (n + 15) = .inl (G.2.1 0, 21, .inl (fun _ => 0)) ∧ u.2 (n + 16) = .inl (G.2.1 0, 21, .inl (fun _ => 0)) ∧ ∀ k, k < n → u.2 k = w k)) sz) 16 245 (tw_A (n + 1) ad sz) := by
  refine tw_met (by decide) (Nat.le_of_ble_eq_true rfl) ?_
  intro p e s m args below meth c F hret hlk hin hargs hsz hH ls hl
  have hx := F.1.1
  have hb := F.1.2.1
  have hown := F.1.2.2.2.1
  have hts := F.1.2.2.2.2
  have hl : lv_has ls 1 [(0, .ref (ad n))] := hl
  generalize hH0 : s.heap = H at hH ⊢
  refine lv_aload_n hx hb dX1_init_0 rfl (lv_at hl 0 rfl) ?_
  refine tw_objInit F (tw_gl kw_149 rfl) (tw_gl kw_32 rfl) (tw_gl kw_33 rfl) hl.1 ⟨(Nat.le_of_ble_eq_true rfl), (Nat.le_of_ble_eq_true rfl)⟩ (Nat.le_of_ble_eq_true rfl) dX1_init_1 ?_
  refine lv_aload_n hx hb dX1_init_4 rfl (lv_at hl 0 rfl) ?_
  refine tw_new (ci := 7) (T := TX7) F hH rfl iw_X7 tyX7 tyX7_ok (tw_gl kw_150 rfl) (tw_gl kw_55 rfl) (tw_gl kw_4 rfl) kd_X7 (Nat.le_of_ble_eq_true rfl) (Nat.le_of_ble_eq_true rfl) dX1_init_5 (fun H locs ad4 w1 ha5 hw2 hne3 hH => ?_)
  refine lv_dup hx hb dX1_init_8 rfl ?_
  refine lv_iconst (v := 4) hx hb dX1_init_9 (by decide) ?_
  refine lv_iconst (v := 2) hx hb dX1_init_10 (by decide) ?_
  refine tw_calln F hH (tw_runI (r := (n + 1)) (As := [.int (4 : Int32), .int (2 : Int32)]) (rest := [.ref (ad4 (n + 1)), .ref (ad n)]) F hH (c_X7_init_v2 l G (n + 1) ad4 w1 H.size hw2) (tw_gl kw_151 rfl) km_X7_init (tw_gl kw_57 rfl) rfl rfl rfl ⟨(Nat.le_of_ble_eq_true rfl), (Nat.le_of_ble_eq_true rfl)⟩ rfl hl.1 rfl (Nat.le_of_ble_eq_true rfl) dX1_init_11 ⟨(Nat.le_of_ble_eq_true rfl), (Nat.le_of_ble_eq_true rfl)⟩) (fun ad8 w6 H locs hp7 ha9 _ hH => ?_)
  obtain ⟨-, hw11, hw12, hfr13⟩ := hp7
  have hw14 : w6 n = .inr (1, [.int (0 : Int32), .int (0 : Int32), .int (0 : Int32), .int (0 : Int32), .int (0 : Int32), .int (0 : Int32), .null, .null, .null, .null, .null, .null, .int (0 : Int32), .int (0 : Int32)]) := (hfr13 n (by omega)).trans ((hne3 n (by omega)).trans (hw_n))
  refine tw_putF (r := n) F hH kf_RX1_14 kp_X1_6 hin rfl ((ha9 n (by omega)).trans (ha5 n (by omega))) (by omega) hw14 (Nat.le_of_ble_eq_true rfl) rfl rfl dX1_init_14 (fun H locs w15 hw16 hne17 hH => ?_)
  have hw16 : w15 n = .inr (1, [.int (0 : Int32), .int (0 : Int32), .int (0 : Int32), .int (0 : Int32), .int (0 : Int32), .int (0 : Int32), .ref (ad4 (n + 1)), .null, .null, .null, .null, .null, .int (0 : Int32), .int (0 : Int32)]) := hw16
  refine lv_aload_n hx hb dX1_init_17 rfl (lv_at hl 0 rfl) ?_
  refine tw_new (ci := 7) (T := TX7) F hH rfl iw_X7 tyX7 tyX7_ok (tw_gl kw_150 rfl) (tw_gl kw_55 rfl) (tw_gl kw_4 rfl) kd_X7 (Nat.le_of_ble_eq_true rfl) (Nat.le_of_ble_eq_true rfl) dX1_init_18 (fun H locs ad21 w18 ha22 hw19 hne20 hH => ?_)
  refine lv_dup hx hb dX1_init_21 rfl ?_
  refine lv_bipush (v := 12) hx hb dX1_init_22 (by decide) ?_
  refine lv_iconst (v := 3) hx hb dX1_init_24 (by decide) ?_
  refine tw_calln F hH (tw_runI (r := (n + 3)) (As := [.int (12 : Int32), .int (3 : Int32)]) (rest := [.ref (ad21 (n + 3)), .ref (ad n)]) F hH (c_X7_init_v3 l G (n + 3) ad21 w18 H.size hw19) (tw_gl kw_151 rfl) km_X7_init (tw_gl kw_57 rfl) rfl rfl rfl ⟨(Nat.le_of_ble_eq_true rfl), (Nat.le_of_ble_eq_true rfl)⟩ rfl hl.1 rfl (Nat.le_of_ble_eq_true rfl) dX1_init_25 ⟨(Nat.le_of_ble_eq_true rfl), (Nat.le_of_ble_eq_true rfl)⟩) (fun ad25 w23 H locs hp24 ha26 _ hH => ?_)
  obtain ⟨-, hw28, hw29, hfr30⟩ := hp24
  have hw31 : w23 n = .inr (1, [.int (0 : Int32), .int (0 : Int32), .int (0 : Int32), .int (0 : Int32), .int (0 : Int32), .int (0 : Int32), .ref (ad4 (n + 1)), .null, .null, .null, .null, .null, .int (0 : Int32), .int (0 : Int32)]) := (hfr30 n (by omega)).trans ((hne20 n (by omega)).trans (hw16))
  refine tw_putF (r := n) F hH kf_RX1_20 kp_X1_7 hin rfl ((((ha26 n (by omega)).trans (ha22 n (by omega))).trans (ha9 n (by omega))).trans (ha5 n (by omega))) (by omega) hw31 (Nat.le_of_ble_eq_true rfl) rfl rfl dX1_init_28 (fun H locs w32 hw33 hne34 hH => ?_)
  have hw33 : w32 n = .inr (1, [.int (0 : Int32), .int (0 : Int32), .int (0 : Int32), .int (0 : Int32), .int (0 : Int32), .int (0 : Int32), .ref (ad4 (n + 1)), .ref (ad21 (n + 3)), .null, .null, .null, .null, .int (0 : Int32), .int (0 : Int32)]) := hw33
  refine lv_aload_n hx hb dX1_init_31 rfl (lv_at hl 0 rfl) ?_
  refine tw_new (ci := 7) (T := TX7) F hH rfl iw_X7 tyX7 tyX7_ok (tw_gl kw_150 rfl) (tw_gl kw_55 rfl) (tw_gl kw_4 rfl) kd_X7 (Nat.le_of_ble_eq_true rfl) (Nat.le_of_ble_eq_true rfl) dX1_init_32 (fun H locs ad38 w35 ha39 hw36 hne37 hH => ?_)
  refine lv_dup hx hb dX1_init_35 rfl ?_
  refine lv_iconst (v := 5) hx hb dX1_init_36 (by decide) ?_
  refine lv_iconst (v := 3) hx hb dX1_init_37 (by decide) ?_
  refine tw_calln F hH (tw_runI (r := (n + 5)) (As := [.int (5 : Int32), .int (3 : Int32)]) (rest := [.ref (ad38 (n + 5)), .ref (ad n)]) F hH (c_X7_init_v4 l G (n + 5) ad38 w35 H.size hw36) (tw_gl kw_151 rfl) km_X7_init (tw_gl kw_57 rfl) rfl rfl rfl ⟨(Nat.le_of_ble_eq_true rfl), (Nat.le_of_ble_eq_true rfl)⟩ rfl hl.1 rfl (Nat.le_of_ble_eq_true rfl) dX1_init_38 ⟨(Nat.le_of_ble_eq_true rfl), (Nat.le_of_ble_eq_true rfl)⟩) (fun ad42 w40 H locs hp41 ha43 _ hH => ?_)
  obtain ⟨-, hw45, hw46, hfr47⟩ := hp41
  have hw48 : w40 n = .inr (1, [.int (0 : Int32), .int (0 : Int32), .int (0 : Int32), .int (0 : Int32), .int (0 : Int32), .int (0 : Int32), .ref (ad4 (n + 1)), .ref (ad21 (n + 3)), .null, .null, .null, .null, .int (0 : Int32), .int (0 : Int32)]) := (hfr47 n (by omega)).trans ((hne37 n (by omega)).trans (hw33))
  refine tw_putF (r := n) F hH kf_RX1_23 kp_X1_8 hin rfl ((((((ha43 n (by omega)).trans (ha39 n (by omega))).trans (ha26 n (by omega))).trans (ha22 n (by omega))).trans (ha9 n (by omega))).trans (ha5 n (by omega))) (by omega) hw48 (Nat.le_of_ble_eq_true rfl) rfl rfl dX1_init_41 (fun H locs w49 hw50 hne51 hH => ?_)
  have hw50 : w49 n = .inr (1, [.int (0 : Int32), .int (0 : Int32), .int (0 : Int32), .int (0 : Int32), .int (0 : Int32), .int (0 : Int32), .ref (ad4 (n + 1)), .ref (ad21 (n + 3)), .ref (ad38 (n + 5)), .null, .null, .null, .int (0 : Int32), .int (0 : Int32)]) := hw50
  refine lv_aload_n hx hb dX1_init_44 rfl (lv_at hl 0 rfl) ?_
  refine tw_new (ci := 7) (T := TX7) F hH rfl iw_X7 tyX7 tyX7_ok (tw_gl kw_150 rfl) (tw_gl kw_55 rfl) (tw_gl kw_4 rfl) kd_X7 (Nat.le_of_ble_eq_true rfl) (Nat.le_of_ble_eq_true rfl) dX1_init_45 (fun H locs ad55 w52 ha56 hw53 hne54 hH => ?_)
  refine lv_dup hx hb dX1_init_48 rfl ?_
  refine lv_iconst (v := 4) hx hb dX1_init_49 (by decide) ?_
  refine lv_iconst (v := 2) hx hb dX1_init_50 (by decide) ?_
  refine tw_calln F hH (tw_runI (r := (n + 7)) (As := [.int (4 : Int32), .int (2 : Int32)]) (rest := [.ref (ad55 (n + 7)), .ref (ad n)]) F hH (c_X7_init_v2 l G (n + 7) ad55 w52 H.size hw53) (tw_gl kw_151 rfl) km_X7_init (tw_gl kw_57 rfl) rfl rfl rfl ⟨(Nat.le_of_ble_eq_true rfl), (Nat.le_of_ble_eq_true rfl)⟩ rfl hl.1 rfl (Nat.le_of_ble_eq_true rfl) dX1_init_51 ⟨(Nat.le_of_ble_eq_true rfl), (Nat.le_of_ble_eq_true rfl)⟩) (fun ad59 w57 H locs hp58 ha60 _ hH => ?_)
  obtain ⟨-, hw62, hw63, hfr64⟩ := hp58
  have hw65 : w57 n = .inr (1, [.int (0 : Int32), .int (0 : Int32), .int (0 : Int32), .int (0 : Int32), .int (0 : Int32), .int (0 : Int32), .ref (ad4 (n + 1)), .ref (ad21 (n + 3)), .ref (ad38 (n + 5)), .null, .null, .null, .int (0 : Int32), .int (0 : Int32)]) := (hfr64 n (by omega)).trans ((hne54 n (by omega)).trans (hw50))
  refine tw_putF (r := n) F hH kf_RX1_26 kp_X1_9 hin rfl ((((((((ha60 n (by omega)).trans (ha56 n (by omega))).trans (ha43 n (by omega))).trans (ha39 n (by omega))).trans (ha26 n (by omega))).trans (ha22 n (by omega))).trans (ha9 n (by omega))).trans (ha5 n (by omega))) (by omega) hw65 (Nat.le_of_ble_eq_true rfl) rfl rfl dX1_init_54 (fun H locs w66 hw67 hne68 hH => ?_)
  have hw67 : w66 n = .inr (1, [.int (0 : Int32), .int (0 : Int32), .int (0 : Int32), .int (0 : Int32), .int (0 : Int32), .int (0 : Int32), .ref (ad4 (n + 1)), .ref (ad21 (n + 3)), .ref (ad38 (n + 5)), .ref (ad55 (n + 7)), .null, .null, .int (0 : Int32), .int (0 : Int32)]) := hw67
  refine lv_aload_n hx hb dX1_init_57 rfl (lv_at hl 0 rfl) ?_
  refine tw_new (ci := 7) (T := TX7) F hH rfl iw_X7 tyX7 tyX7_ok (tw_gl kw_150 rfl) (tw_gl kw_55 rfl) (tw_gl kw_4 rfl) kd_X7 (Nat.le_of_ble_eq_true rfl) (Nat.le_of_ble_eq_true rfl) dX1_init_58 (fun H locs ad72 w69 ha73 hw70 hne71 hH => ?_)
  refine lv_dup hx hb dX1_init_61 rfl ?_
  refine lv_iconst (v := 2) hx hb dX1_init_62 (by decide) ?_
  refine lv_iconst (v := 3) hx hb dX1_init_63 (by decide) ?_
  refine tw_calln F hH (tw_runI (r := (n + 9)) (As := [.int (2 : Int32), .int (3 : Int32)]) (rest := [.ref (ad72 (n + 9)), .ref (ad n)]) F hH (c_X7_init_v5 l G (n + 9) ad72 w69 H.size hw70) (tw_gl kw_151 rfl) km_X7_init (tw_gl kw_57 rfl) rfl rfl rfl ⟨(Nat.le_of_ble_eq_true rfl), (Nat.le_of_ble_eq_true rfl)⟩ rfl hl.1 rfl (Nat.le_of_ble_eq_true rfl) dX1_init_64 ⟨(Nat.le_of_ble_eq_true rfl), (Nat.le_of_ble_eq_true rfl)⟩) (fun ad76 w74 H locs hp75 ha77 _ hH => ?_)
  obtain ⟨-, hw79, hw80, hfr81⟩ := hp75
  have hw82 : w74 n = .inr (1, [.int (0 : Int32), .int (0 : Int32), .int (0 : Int32), .int (0 : Int32), .int (0 : Int32), .int (0 : Int32), .ref (ad4 (n + 1)), .ref (ad21 (n + 3)), .ref (ad38 (n + 5)), .ref (ad55 (n + 7)), .null, .null, .int (0 : Int32), .int (0 : Int32)]) := (hfr81 n (by omega)).trans ((hne71 n (by omega)).trans (hw67))
  refine tw_putF (r := n) F hH kf_RX1_29 kp_X1_10 hin rfl ((((((((((ha77 n (by omega)).trans (ha73 n (by omega))).trans (ha60 n (by omega))).trans (ha56 n (by omega))).trans (ha43 n (by omega))).trans (ha39 n (by omega))).trans (ha26 n (by omega))).trans (ha22 n (by omega))).trans (ha9 n (by omega))).trans (ha5 n (by omega))) (by omega) hw82 (Nat.le_of_ble_eq_true rfl) rfl rfl dX1_init_67 (fun H locs w83 hw84 hne85 hH => ?_)
  have hw84 : w83 n = .inr (1, [.int (0 : Int32), .int (0 : Int32), .int (0 : Int32), .int (0 : Int32), .int (0 : Int32), .int (0 : Int32), .ref (ad4 (n + 1)), .ref (ad21 (n + 3)), .ref (ad38 (n + 5)), .ref (ad55 (n + 7)), .ref (ad72 (n + 9)), .null, .int (0 : Int32), .int (0 : Int32)]) := hw84
  refine lv_aload_n hx hb dX1_init_70 rfl (lv_at hl 0 rfl) ?_
  refine tw_new (ci := 8) (T := TX8) F hH rfl iw_X8 tyX8 tyX8_ok (tw_gl kw_152 rfl) (tw_gl kw_153 rfl) (tw_gl kw_8 rfl) kd_X8 (Nat.le_of_ble_eq_true rfl) (Nat.le_of_ble_eq_true rfl) dX1_init_71 (fun H locs ad89 w86 ha90 hw87 hne88 hH => ?_)
  refine lv_dup hx hb dX1_init_74 rfl ?_
  refine tw_calln F hH (tw_runI (r := (n + 11)) (As := []) (rest := [.ref (ad89 (n + 11)), .ref (ad n)]) F hH (c_X8_init l G (n + 11) ad89 w86 H.size hw87) (tw_gl kw_154 rfl) km_X8_init (tw_gl kw_155 rfl) rfl rfl rfl ⟨(Nat.le_of_ble_eq_true rfl), (Nat.le_of_ble_eq_true rfl)⟩ rfl hl.1 rfl (Nat.le_of_ble_eq_true rfl) dX1_init_75 ⟨(Nat.le_of_ble_eq_true rfl), (Nat.le_of_ble_eq_true rfl)⟩) (fun ad93 w91 H locs hp92 ha94 _ hH => ?_)
  obtain ⟨-, hw96, hw97, hw98, hw99, hw100, hw101, hfr102⟩ := hp92
  have hw103 : w91 n = .inr (1, [.int (0 : Int32), .int (0 : Int32), .int (0 : Int32), .int (0 : Int32), .int (0 : Int32), .int (0 : Int32), .ref (ad4 (n + 1)), .ref (ad21 (n + 3)), .ref (ad38 (n + 5)), .ref (ad55 (n + 7)), .ref (ad72 (n + 9)), .null, .int (0 : Int32), .int (0 : Int32)]) := (hfr102 n (by omega)).trans ((hne88 n (by omega)).trans (hw84))
  refine tw_put (r := n) F hH kf_RX1_35 kp_X1_11 ((((((((((((ha94 n (by omega)).trans (ha90 n (by omega))).trans (ha77 n (by omega))).trans (ha73 n (by omega))).trans (ha60 n (by omega))).trans (ha56 n (by omega))).trans (ha43 n (by omega))).trans (ha39 n (by omega))).trans (ha26 n (by omega))).trans (ha22 n (by omega))).trans (ha9 n (by omega))).trans (ha5 n (by omega))) (by omega) hw103 (Nat.le_of_ble_eq_true rfl) rfl rfl dX1_init_78 (fun H locs w104 hw105 hne106 hH => ?_)
  have hw105 : w104 n = .inr (1, [.int (0 : Int32), .int (0 : Int32), .int (0 : Int32), .int (0 : Int32), .int (0 : Int32), .int (0 : Int32), .ref (ad4 (n + 1)), .ref (ad21 (n + 3)), .ref (ad38 (n + 5)), .ref (ad55 (n + 7)), .ref (ad72 (n + 9)), .ref (ad89 (n + 11)), .int (0 : Int32), .int (0 : Int32)]) := hw105
  have hw107 : w104 (n + 1) = .inr (7, [.int (4 : Int32), .int (2 : Int32), .ref (ad8 (n + 2)), .int (0 : Int32)]) := (hne106 (n + 1) (by omega)).trans ((hfr102 (n + 1) (by omega)).trans ((hne88 (n + 1) (by omega)).trans ((hne85 (n + 1) (by omega)).trans ((hfr81 (n + 1) (by omega)).trans ((hne71 (n + 1) (by omega)).trans ((hne68 (n + 1) (by omega)).trans ((hfr64 (n + 1) (by omega)).trans ((hne54 (n + 1) (by omega)).trans ((hne51 (n + 1) (by omega)).trans ((hfr47 (n + 1) (by omega)).trans ((hne37 (n + 1) (by omega)).trans ((hne34 (n + 1) (by omega)).trans ((hfr30 (n + 1) (by omega)).trans ((hne20 (n + 1) (by omega)).trans ((hne17 (n + 1) (by omega)).trans (hw11))))))))))))))))
  have hw108 : w104 (n + 1) = .inr (7, [.int (4 : Int32), .int (2 : Int32), .ref (ad93 (n + 2)), .int (0 : Int32)]) := by rw [hw107]; rw [show ad8 (n + 2) = ad93 (n + 2) from ((((((((((ha94 (n + 2) (by omega)).trans (ha90 (n + 2) (by omega))).trans (ha77 (n + 2) (by omega))).trans (ha73 (n + 2) (by omega))).trans (ha60 (n + 2) (by omega))).trans (ha56 (n + 2) (by omega))).trans (ha43 (n + 2) (by omega))).trans (ha39 (n + 2) (by omega))).trans (ha26 (n + 2) (by omega))).trans (ha22 (n + 2) (by omega))).symm]
  have hw109 : w104 (n + 2) = .inl (G.2.1 0, 8, .inl (fun _ => 0)) := (hne106 (n + 2) (by omega)).trans ((hfr102 (n + 2) (by omega)).trans ((hne88 (n + 2) (by omega)).trans ((hne85 (n + 2) (by omega)).trans ((hfr81 (n + 2) (by omega)).trans ((hne71 (n + 2) (by omega)).trans ((hne68 (n + 2) (by omega)).trans ((hfr64 (n + 2) (by omega)).trans ((hne54 (n + 2) (by omega)).trans ((hne51 (n + 2) (by omega)).trans ((hfr47 (n + 2) (by omega)).trans ((hne37 (n + 2) (by omega)).trans ((hne34 (n + 2) (by omega)).trans ((hfr30 (n + 2) (by omega)).trans ((hne20 (n + 2) (by omega)).trans ((hne17 (n + 2) (by omega)).trans (hw12))))))))))))))))
  have hw110 : w104 n = .inr (1, [.int (0 : Int32), .int (0 : Int32), .int (0 : Int32), .int (0 : Int32), .int (0 : Int32), .int (0 : Int32), .ref (ad93 (n + 1)), .ref (ad93 (n + 3)), .ref (ad93 (n + 5)), .ref (ad93 (n + 7)), .ref (ad93 (n + 9)), .ref (ad93 (n + 11)), .int (0 : Int32), .int (0 : Int32)]) := by rw [hw105]; rw [show ad4 (n + 1) = ad93 (n + 1) from (((((((((((ha94 (n + 1) (by omega)).trans (ha90 (n + 1) (by omega))).trans (ha77 (n + 1) (by omega))).trans (ha73 (n + 1) (by omega))).trans (ha60 (n + 1) (by omega))).trans (ha56 (n + 1) (by omega))).trans (ha43 (n + 1) (by omega))).trans (ha39 (n + 1) (by omega))).trans (ha26 (n + 1) (by omega))).trans (ha22 (n + 1) (by omega))).trans (ha9 (n + 1) (by omega))).symm, show ad21 (n + 3) = ad93 (n + 3) from (((((((((ha94 (n + 3) (by omega)).trans (ha90 (n + 3) (by omega))).trans (ha77 (n + 3) (by omega))).trans (ha73 (n + 3) (by omega))).trans (ha60 (n + 3) (by omega))).trans (ha56 (n + 3) (by omega))).trans (ha43 (n + 3) (by omega))).trans (ha39 (n + 3) (by omega))).trans (ha26 (n + 3) (by omega))).symm, show ad38 (n + 5) = ad93 (n + 5) from (((((((ha94 (n + 5) (by omega)).trans (ha90 (n + 5) (by omega))).trans (ha77 (n + 5) (by omega))).trans (ha73 (n + 5) (by omega))).trans (ha60 (n + 5) (by omega))).trans (ha56 (n + 5) (by omega))).trans (ha43 (n + 5) (by omega))).symm, show ad55 (n + 7) = ad93 (n + 7) from (((((ha94 (n + 7) (by omega)).trans (ha90 (n + 7) (by omega))).trans (ha77 (n + 7) (by omega))).trans (ha73 (n + 7) (by omega))).trans (ha60 (n + 7) (by omega))).symm, show ad72 (n + 9) = ad93 (n + 9) from (((ha94 (n + 9) (by omega)).trans (ha90 (n + 9) (by omega))).trans (ha77 (n + 9) (by omega))).symm, show ad89 (n + 11) = ad93 (n + 11) from (ha94 (n + 11) (by omega)).symm]
  have hw111 : w104 (n + 3) = .inr (7, [.int (12 : Int32), .int (3 : Int32), .ref (ad25 (n + 4)), .int (0 : Int32)]) := (hne106 (n + 3) (by omega)).trans ((hfr102 (n + 3) (by omega)).trans ((hne88 (n + 3) (by omega)).trans ((hne85 (n + 3) (by omega)).trans ((hfr81 (n + 3) (by omega)).trans ((hne71 (n + 3) (by omega)).trans ((hne68 (n + 3) (by omega)).trans ((hfr64 (n + 3) (by omega)).trans ((hne54 (n + 3) (by omega)).trans ((hne51 (n + 3) (by omega)).trans ((hfr47 (n + 3) (by omega)).trans ((hne37 (n + 3) (by omega)).trans ((hne34 (n + 3) (by omega)).trans (hw28)))))))))))))
  have hw112 : w104 (n + 3) = .inr (7, [.int (12 : Int32), .int (3 : Int32), .ref (ad93 (n + 4)), .int (0 : Int32)]) := by rw [hw111]; rw [show ad25 (n + 4) = ad93 (n + 4) from ((((((((ha94 (n + 4) (by omega)).trans (ha90 (n + 4) (by omega))).trans (ha77 (n + 4) (by omega))).trans (ha73 (n + 4) (by omega))).trans (ha60 (n + 4) (by omega))).trans (ha56 (n + 4) (by omega))).trans (ha43 (n + 4) (by omega))).trans (ha39 (n + 4) (by omega))).symm]
  have hw113 : w104 (n + 4) = .inl (G.2.1 0, 36, .inl (fun _ => 0)) := (hne106 (n + 4) (by omega)).trans ((hfr102 (n + 4) (by omega)).trans ((hne88 (n + 4) (by omega)).trans ((hne85 (n + 4) (by omega)).trans ((hfr81 (n + 4) (by omega)).trans ((hne71 (n + 4) (by omega)).trans ((hne68 (n + 4) (by omega)).trans ((hfr64 (n + 4) (by omega)).trans ((hne54 (n + 4) (by omega)).trans ((hne51 (n + 4) (by omega)).trans ((hfr47 (n + 4) (by omega)).trans ((hne37 (n + 4) (by omega)).trans ((hne34 (n + 4) (by omega)).trans (hw29)))))))))))))
  have hw114 : w104 (n + 5) = .inr (7, [.int (5 : Int32), .int (3 : Int32), .ref (ad42 (n + 6)), .int (0 : Int32)]) := (hne106 (n + 5) (by omega)).trans ((hfr102 (n + 5) (by omega)).trans ((hne88 (n + 5) (by omega)).trans ((hne85 (n + 5) (by omega)).trans ((hfr81 (n + 5) (by omega)).trans ((hne71 (n + 5) (by omega)).trans ((hne68 (n + 5) (by omega)).trans ((hfr64 (n + 5) (by omega)).trans ((hne54 (n + 5) (by omega)).trans ((hne51 (n + 5) (by omega)).trans (hw45))))))))))
  have hw115 : w104 (n + 5) = .inr (7, [.int (5 : Int32), .int (3 : Int32), .ref (ad93 (n + 6)), .int (0 : Int32)]) := by rw [hw114]; rw [show ad42 (n + 6) = ad93 (n + 6) from ((((((ha94 (n + 6) (by omega)).trans (ha90 (n + 6) (by omega))).trans (ha77 (n + 6) (by omega))).trans (ha73 (n + 6) (by omega))).trans (ha60 (n + 6) (by omega))).trans (ha56 (n + 6) (by omega))).symm]
  have hw116 : w104 (n + 6) = .inl (G.2.1 0, 15, .inl (fun _ => 0)) := (hne106 (n + 6) (by omega)).trans ((hfr102 (n + 6) (by omega)).trans ((hne88 (n + 6) (by omega)).trans ((hne85 (n + 6) (by omega)).trans ((hfr81 (n + 6) (by omega)).trans ((hne71 (n + 6) (by omega)).trans ((hne68 (n + 6) (by omega)).trans ((hfr64 (n + 6) (by omega)).trans ((hne54 (n + 6) (by omega)).trans ((hne51 (n + 6) (by omega)).trans (hw46))))))))))
  have hw117 : w104 (n + 7) = .inr (7, [.int (4 : Int32), .int (2 : Int32), .ref (ad59 (n + 8)), .int (0 : Int32)]) := (hne106 (n + 7) (by omega)).trans ((hfr102 (n + 7) (by omega)).trans ((hne88 (n + 7) (by omega)).trans ((hne85 (n + 7) (by omega)).trans ((hfr81 (n + 7) (by omega)).trans ((hne71 (n + 7) (by omega)).trans ((hne68 (n + 7) (by omega)).trans (hw62)))))))
  have hw118 : w104 (n + 7) = .inr (7, [.int (4 : Int32), .int (2 : Int32), .ref (ad93 (n + 8)), .int (0 : Int32)]) := by rw [hw117]; rw [show ad59 (n + 8) = ad93 (n + 8) from ((((ha94 (n + 8) (by omega)).trans (ha90 (n + 8) (by omega))).trans (ha77 (n + 8) (by omega))).trans (ha73 (n + 8) (by omega))).symm]
  have hw119 : w104 (n + 8) = .inl (G.2.1 0, 8, .inl (fun _ => 0)) := (hne106 (n + 8) (by omega)).trans ((hfr102 (n + 8) (by omega)).trans ((hne88 (n + 8) (by omega)).trans ((hne85 (n + 8) (by omega)).trans ((hfr81 (n + 8) (by omega)).trans ((hne71 (n + 8) (by omega)).trans ((hne68 (n + 8) (by omega)).trans (hw63)))))))
  have hw120 : w104 (n + 9) = .inr (7, [.int (2 : Int32), .int (3 : Int32), .ref (ad76 (n + 10)), .int (0 : Int32)]) := (hne106 (n + 9) (by omega)).trans ((hfr102 (n + 9) (by omega)).trans ((hne88 (n + 9) (by omega)).trans ((hne85 (n + 9) (by omega)).trans (hw79))))
  have hw121 : w104 (n + 9) = .inr (7, [.int (2 : Int32), .int (3 : Int32), .ref (ad93 (n + 10)), .int (0 : Int32)]) := by rw [hw120]; rw [show ad76 (n + 10) = ad93 (n + 10) from ((ha94 (n + 10) (by omega)).trans (ha90 (n + 10) (by omega))).symm]
  have hw122 : w104 (n + 10) = .inl (G.2.1 0, 6, .inl (fun _ => 0)) := (hne106 (n + 10) (by omega)).trans ((hfr102 (n + 10) (by omega)).trans ((hne88 (n + 10) (by omega)).trans ((hne85 (n + 10) (by omega)).trans (hw80))))
  have hw123 : w104 (n + 11) = .inr (8, [.ref (ad93 (n + 12)), .int (0 : Int32), .ref (ad93 (n + 13)), .ref (ad93 (n + 14)), .ref (ad93 (n + 15)), .ref (ad93 (n + 16)), .int (0 : Int32), .int (0 : Int32)]) := (hne106 (n + 11) (by omega)).trans (hw97)
  have hw124 : w104 (n + 12) = .inl (G.2.1 0, 60, .inl (fun _ => 0)) := (hne106 (n + 12) (by omega)).trans (hw96)
  have hw125 : w104 (n + 13) = .inl (G.2.1 0, 21, .inl (fun _ => 0)) := (hne106 (n + 13) (by omega)).trans (hw98)
  have hw126 : w104 (n + 14) = .inl (G.2.1 0, 21, .inl (fun _ => 0)) := (hne106 (n + 14) (by omega)).trans (hw99)
  have hw127 : w104 (n + 15) = .inl (G.2.1 0, 21, .inl (fun _ => 0)) := (hne106 (n + 15) (by omega)).trans (hw100)
  have hw128 : w104 (n + 16) = .inl (G.2.1 0, 21, .inl (fun _ => 0)) := (hne106 (n + 16) (by omega)).trans (hw101)
  exact tw_nret F hH (fun k hk => ((ha94 k (by omega)).trans ((ha90 k (by omega)).trans ((ha77 k (by omega)).trans ((ha73 k (by omega)).trans ((ha60 k (by omega)).trans ((ha56 k (by omega)).trans ((ha43 k (by omega)).trans ((ha39 k (by omega)).trans ((ha26 k (by omega)).trans ((ha22 k (by omega)).trans ((ha9 k (by omega)).trans (ha5 k (by omega)))))))))))))) hret hlk (Nat.le_of_ble_eq_true rfl) (Nat.le_of_ble_eq_true rfl) dX1_init_81 (⟨trivial, hw108, hw109, hw110, hw112, hw113, hw115, hw116, hw118, hw119, hw121, hw122, hw123, hw124, hw125, hw126, hw127, hw128, fun k hk => ((hne106 k (by omega)).trans ((hfr102 k (by omega)).trans ((hne88 k (by omega)).trans ((hne85 k (by omega)).trans ((hfr81 k (by omega)).trans ((hne71 k (by omega)).trans ((hne68 k (by omega)).trans ((hfr64 k (by omega)).trans ((hne54 k (by omega)).trans ((hne51 k (by omega)).trans ((hfr47 k (by omega)).trans ((hne37 k (by omega)).trans ((hne34 k (by omega)).trans ((hfr30 k (by omega)).trans ((hne20 k (by omega)).trans ((hne17 k (by omega)).trans ((hfr13 k (by omega)).trans (hne3 k (by omega)))))))))))))))))))⟩)
end
