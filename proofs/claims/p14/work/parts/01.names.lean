-- ===== PART A: goes FIRST, ahead of the names: the tables' words, and 'selects' of the private methods out of them =====
/-- a private method of a class that the tables say can be made, by its rows of tables_1 -/
def lw_okq (q : MethodName × Nat) : Prop := (q.1.cls ≠ "java/lang/invoke/MethodHandle" ∧ q.1.cls ≠ "java/lang/invoke/VarHandle") ∧ Cond.instantiable q.1.cls q.2 ∈ tables_1 ∧ Cond.privateMethod q.1 ∈ tables_1 ∧ Cond.instanceMethod q.1 ∈ tables_1
theorem lw_p0 : lw_okq (⟨"SecondTry$LawReader", "readClause", "()Z"⟩, 2) := ⟨⟨by decide +kernel, by decide +kernel⟩, List.mem_of_getElem? (i := 252) (by decide +kernel), List.mem_of_getElem? (i := 521) (by decide +kernel), List.mem_of_getElem? (i := 522) (by decide +kernel)⟩
theorem lw_p1 : lw_okq (⟨"SecondTry$LawReader", "readSum", "(I)Z"⟩, 2) := ⟨⟨by decide +kernel, by decide +kernel⟩, List.mem_of_getElem? (i := 252) (by decide +kernel), List.mem_of_getElem? (i := 533) (by decide +kernel), List.mem_of_getElem? (i := 534) (by decide +kernel)⟩
theorem lw_p2 : lw_okq (⟨"SecondTry$LawReader", "readProduct", "(I)Z"⟩, 2) := ⟨⟨by decide +kernel, by decide +kernel⟩, List.mem_of_getElem? (i := 252) (by decide +kernel), List.mem_of_getElem? (i := 537) (by decide +kernel), List.mem_of_getElem? (i := 538) (by decide +kernel)⟩
theorem lw_p3 : lw_okq (⟨"SecondTry$LawReader", "readFactor", "(I)Z"⟩, 2) := ⟨⟨by decide +kernel, by decide +kernel⟩, List.mem_of_getElem? (i := 252) (by decide +kernel), List.mem_of_getElem? (i := 541) (by decide +kernel), List.mem_of_getElem? (i := 542) (by decide +kernel)⟩
theorem lw_p4 : lw_okq (⟨"SecondTry$LawReader", "opens", "(I)Z"⟩, 2) := ⟨⟨by decide +kernel, by decide +kernel⟩, List.mem_of_getElem? (i := 252) (by decide +kernel), List.mem_of_getElem? (i := 545) (by decide +kernel), List.mem_of_getElem? (i := 546) (by decide +kernel)⟩
theorem lw_p5 : lw_okq (⟨"SecondTry$LawReader", "readNumber", "()Z"⟩, 2) := ⟨⟨by decide +kernel, by decide +kernel⟩, List.mem_of_getElem? (i := 252) (by decide +kernel), List.mem_of_getElem? (i := 563) (by decide +kernel), List.mem_of_getElem? (i := 564) (by decide +kernel)⟩
theorem lw_p6 : lw_okq (⟨"SecondTry$LawReader", "readCondition", "(I)Z"⟩, 2) := ⟨⟨by decide +kernel, by decide +kernel⟩, List.mem_of_getElem? (i := 252) (by decide +kernel), List.mem_of_getElem? (i := 572) (by decide +kernel), List.mem_of_getElem? (i := 573) (by decide +kernel)⟩
theorem lw_p7 : lw_okq (⟨"SecondTry$LawReader", "readPart", "(I)Z"⟩, 2) := ⟨⟨by decide +kernel, by decide +kernel⟩, List.mem_of_getElem? (i := 252) (by decide +kernel), List.mem_of_getElem? (i := 576) (by decide +kernel), List.mem_of_getElem? (i := 577) (by decide +kernel)⟩
theorem lw_p8 : lw_okq (⟨"SecondTry$LawReader", "readPiece", "(I)Z"⟩, 2) := ⟨⟨by decide +kernel, by decide +kernel⟩, List.mem_of_getElem? (i := 252) (by decide +kernel), List.mem_of_getElem? (i := 580) (by decide +kernel), List.mem_of_getElem? (i := 581) (by decide +kernel)⟩
theorem lw_p9 : lw_okq (⟨"SecondTry$PlanReader", "readSteps", "(I)Z"⟩, 4) := ⟨⟨by decide +kernel, by decide +kernel⟩, List.mem_of_getElem? (i := 268) (by decide +kernel), List.mem_of_getElem? (i := 614) (by decide +kernel), List.mem_of_getElem? (i := 615) (by decide +kernel)⟩
theorem lw_p10 : lw_okq (⟨"SecondTry$PlanReader", "readStep", "(I)Z"⟩, 4) := ⟨⟨by decide +kernel, by decide +kernel⟩, List.mem_of_getElem? (i := 268) (by decide +kernel), List.mem_of_getElem? (i := 618) (by decide +kernel), List.mem_of_getElem? (i := 619) (by decide +kernel)⟩
theorem lw_p11 : lw_okq (⟨"SecondTry$PlanReader", "readTry", "()Z"⟩, 4) := ⟨⟨by decide +kernel, by decide +kernel⟩, List.mem_of_getElem? (i := 268) (by decide +kernel), List.mem_of_getElem? (i := 623) (by decide +kernel), List.mem_of_getElem? (i := 624) (by decide +kernel)⟩
theorem lw_p12 : lw_okq (⟨"SecondTry$PlanReader", "addStep", "(II)Z"⟩, 4) := ⟨⟨by decide +kernel, by decide +kernel⟩, List.mem_of_getElem? (i := 268) (by decide +kernel), List.mem_of_getElem? (i := 630) (by decide +kernel), List.mem_of_getElem? (i := 631) (by decide +kernel)⟩
theorem lw_p13 : lw_okq (⟨"SecondTry$PlanReader", "repeatSteps", "(II)Z"⟩, 4) := ⟨⟨by decide +kernel, by decide +kernel⟩, List.mem_of_getElem? (i := 268) (by decide +kernel), List.mem_of_getElem? (i := 635) (by decide +kernel), List.mem_of_getElem? (i := 636) (by decide +kernel)⟩
theorem lw_p14 : lw_okq (⟨"SecondTry$Judge", "isAlike", "(I)Z"⟩, 5) := ⟨⟨by decide +kernel, by decide +kernel⟩, List.mem_of_getElem? (i := 146) (by decide +kernel), List.mem_of_getElem? (i := 668) (by decide +kernel), List.mem_of_getElem? (i := 669) (by decide +kernel)⟩
theorem lw_p15 : lw_okq (⟨"SecondTry$Judge", "run", "(II)I"⟩, 5) := ⟨⟨by decide +kernel, by decide +kernel⟩, List.mem_of_getElem? (i := 146) (by decide +kernel), List.mem_of_getElem? (i := 678) (by decide +kernel), List.mem_of_getElem? (i := 679) (by decide +kernel)⟩
def lw_privs_1 : List (MethodName × Nat) := [(⟨"SecondTry$LawReader", "readClause", "()Z"⟩, 2), (⟨"SecondTry$LawReader", "readSum", "(I)Z"⟩, 2), (⟨"SecondTry$LawReader", "readProduct", "(I)Z"⟩, 2), (⟨"SecondTry$LawReader", "readFactor", "(I)Z"⟩, 2), (⟨"SecondTry$LawReader", "opens", "(I)Z"⟩, 2), (⟨"SecondTry$LawReader", "readNumber", "()Z"⟩, 2), (⟨"SecondTry$LawReader", "readCondition", "(I)Z"⟩, 2), (⟨"SecondTry$LawReader", "readPart", "(I)Z"⟩, 2), (⟨"SecondTry$LawReader", "readPiece", "(I)Z"⟩, 2), (⟨"SecondTry$PlanReader", "readSteps", "(I)Z"⟩, 4), (⟨"SecondTry$PlanReader", "readStep", "(I)Z"⟩, 4), (⟨"SecondTry$PlanReader", "readTry", "()Z"⟩, 4), (⟨"SecondTry$PlanReader", "addStep", "(II)Z"⟩, 4), (⟨"SecondTry$PlanReader", "repeatSteps", "(II)Z"⟩, 4), (⟨"SecondTry$Judge", "isAlike", "(I)Z"⟩, 5), (⟨"SecondTry$Judge", "run", "(II)I"⟩, 5)]
theorem lw_r1 : ∀ q ∈ lw_privs_1, lw_okq q := List.forall_mem_cons.mpr ⟨lw_p0, List.forall_mem_cons.mpr ⟨lw_p1, List.forall_mem_cons.mpr ⟨lw_p2, List.forall_mem_cons.mpr ⟨lw_p3, List.forall_mem_cons.mpr ⟨lw_p4, List.forall_mem_cons.mpr ⟨lw_p5, List.forall_mem_cons.mpr ⟨lw_p6, List.forall_mem_cons.mpr ⟨lw_p7, List.forall_mem_cons.mpr ⟨lw_p8, List.forall_mem_cons.mpr ⟨lw_p9, List.forall_mem_cons.mpr ⟨lw_p10, List.forall_mem_cons.mpr ⟨lw_p11, List.forall_mem_cons.mpr ⟨lw_p12, List.forall_mem_cons.mpr ⟨lw_p13, List.forall_mem_cons.mpr ⟨lw_p14, List.forall_mem_cons.mpr ⟨lw_p15, fun _ h => absurd h List.not_mem_nil⟩⟩⟩⟩⟩⟩⟩⟩⟩⟩⟩⟩⟩⟩⟩⟩
theorem lw_p16 : lw_okq (⟨"SecondTry$Judge", "reckon", "(III)I"⟩, 5) := ⟨⟨by decide +kernel, by decide +kernel⟩, List.mem_of_getElem? (i := 146) (by decide +kernel), List.mem_of_getElem? (i := 682) (by decide +kernel), List.mem_of_getElem? (i := 683) (by decide +kernel)⟩
theorem lw_p17 : lw_okq (⟨"SecondTry$Clerk", "forget", "(LSecondTry$Town;II)V"⟩, 10) := ⟨⟨by decide +kernel, by decide +kernel⟩, List.mem_of_getElem? (i := 212) (by decide +kernel), List.mem_of_getElem? (i := 689) (by decide +kernel), List.mem_of_getElem? (i := 690) (by decide +kernel)⟩
theorem lw_p18 : lw_okq (⟨"SecondTry", "canDeal", "(III)Z"⟩, 13) := ⟨⟨by decide +kernel, by decide +kernel⟩, List.mem_of_getElem? (i := 19) (by decide +kernel), List.mem_of_getElem? (i := 737) (by decide +kernel), List.mem_of_getElem? (i := 738) (by decide +kernel)⟩
theorem lw_p19 : lw_okq (⟨"SecondTry$Clerk", "doSteps", "(LSecondTry$Town;I)V"⟩, 10) := ⟨⟨by decide +kernel, by decide +kernel⟩, List.mem_of_getElem? (i := 212) (by decide +kernel), List.mem_of_getElem? (i := 760) (by decide +kernel), List.mem_of_getElem? (i := 761) (by decide +kernel)⟩
theorem lw_p20 : lw_okq (⟨"SecondTry$Clerk", "noteOutcome", "(IIII)V"⟩, 10) := ⟨⟨by decide +kernel, by decide +kernel⟩, List.mem_of_getElem? (i := 212) (by decide +kernel), List.mem_of_getElem? (i := 766) (by decide +kernel), List.mem_of_getElem? (i := 767) (by decide +kernel)⟩
theorem lw_p21 : lw_okq (⟨"SecondTry", "canChoose", "(III)Z"⟩, 13) := ⟨⟨by decide +kernel, by decide +kernel⟩, List.mem_of_getElem? (i := 19) (by decide +kernel), List.mem_of_getElem? (i := 807) (by decide +kernel), List.mem_of_getElem? (i := 808) (by decide +kernel)⟩
theorem lw_p22 : lw_okq (⟨"SecondTry$Search", "toPlaces", "(I)I"⟩, 14) := ⟨⟨by decide +kernel, by decide +kernel⟩, List.mem_of_getElem? (i := 290) (by decide +kernel), List.mem_of_getElem? (i := 819) (by decide +kernel), List.mem_of_getElem? (i := 820) (by decide +kernel)⟩
theorem lw_p23 : lw_okq (⟨"SecondTry$Search", "lackedPlaces", "(LSecondTry$Town;II)I"⟩, 14) := ⟨⟨by decide +kernel, by decide +kernel⟩, List.mem_of_getElem? (i := 290) (by decide +kernel), List.mem_of_getElem? (i := 823) (by decide +kernel), List.mem_of_getElem? (i := 824) (by decide +kernel)⟩
theorem lw_p24 : lw_okq (⟨"SecondTry$Search", "askVoids", "(LSecondTry$Town;II)V"⟩, 14) := ⟨⟨by decide +kernel, by decide +kernel⟩, List.mem_of_getElem? (i := 290) (by decide +kernel), List.mem_of_getElem? (i := 828) (by decide +kernel), List.mem_of_getElem? (i := 829) (by decide +kernel)⟩
theorem lw_p25 : lw_okq (⟨"SecondTry$Search", "bestWay", "(III)I"⟩, 14) := ⟨⟨by decide +kernel, by decide +kernel⟩, List.mem_of_getElem? (i := 290) (by decide +kernel), List.mem_of_getElem? (i := 841) (by decide +kernel), List.mem_of_getElem? (i := 842) (by decide +kernel)⟩
theorem lw_p26 : lw_okq (⟨"SecondTry$Search", "wouldCount", "(II)Z"⟩, 14) := ⟨⟨by decide +kernel, by decide +kernel⟩, List.mem_of_getElem? (i := 290) (by decide +kernel), List.mem_of_getElem? (i := 849) (by decide +kernel), List.mem_of_getElem? (i := 850) (by decide +kernel)⟩
theorem lw_p27 : lw_okq (⟨"SecondTry$Search", "leastPrice", "(LSecondTry$Town;II)I"⟩, 14) := ⟨⟨by decide +kernel, by decide +kernel⟩, List.mem_of_getElem? (i := 290) (by decide +kernel), List.mem_of_getElem? (i := 863) (by decide +kernel), List.mem_of_getElem? (i := 864) (by decide +kernel)⟩
theorem lw_p28 : lw_okq (⟨"SecondTry$Search", "tryGoes", "(IIIII)V"⟩, 14) := ⟨⟨by decide +kernel, by decide +kernel⟩, List.mem_of_getElem? (i := 290) (by decide +kernel), List.mem_of_getElem? (i := 869) (by decide +kernel), List.mem_of_getElem? (i := 870) (by decide +kernel)⟩
theorem lw_p29 : lw_okq (⟨"SecondTry$Parting", "goThroughSets", "(IIII)V"⟩, 13) := ⟨⟨by decide +kernel, by decide +kernel⟩, List.mem_of_getElem? (i := 341) (by decide +kernel), List.mem_of_getElem? (i := 910) (by decide +kernel), List.mem_of_getElem? (i := 911) (by decide +kernel)⟩
theorem lw_p30 : lw_okq (⟨"SecondTry$Parting", "hoursFor", "(II)I"⟩, 13) := ⟨⟨by decide +kernel, by decide +kernel⟩, List.mem_of_getElem? (i := 341) (by decide +kernel), List.mem_of_getElem? (i := 915) (by decide +kernel), List.mem_of_getElem? (i := 916) (by decide +kernel)⟩
theorem lw_p31 : lw_okq (⟨"SecondTry$Parting", "findBestRow", "()V"⟩, 13) := ⟨⟨by decide +kernel, by decide +kernel⟩, List.mem_of_getElem? (i := 341) (by decide +kernel), List.mem_of_getElem? (i := 925) (by decide +kernel), List.mem_of_getElem? (i := 926) (by decide +kernel)⟩
def lw_privs_2 : List (MethodName × Nat) := [(⟨"SecondTry$Judge", "reckon", "(III)I"⟩, 5), (⟨"SecondTry$Clerk", "forget", "(LSecondTry$Town;II)V"⟩, 10), (⟨"SecondTry", "canDeal", "(III)Z"⟩, 13), (⟨"SecondTry$Clerk", "doSteps", "(LSecondTry$Town;I)V"⟩, 10), (⟨"SecondTry$Clerk", "noteOutcome", "(IIII)V"⟩, 10), (⟨"SecondTry", "canChoose", "(III)Z"⟩, 13), (⟨"SecondTry$Search", "toPlaces", "(I)I"⟩, 14), (⟨"SecondTry$Search", "lackedPlaces", "(LSecondTry$Town;II)I"⟩, 14), (⟨"SecondTry$Search", "askVoids", "(LSecondTry$Town;II)V"⟩, 14), (⟨"SecondTry$Search", "bestWay", "(III)I"⟩, 14), (⟨"SecondTry$Search", "wouldCount", "(II)Z"⟩, 14), (⟨"SecondTry$Search", "leastPrice", "(LSecondTry$Town;II)I"⟩, 14), (⟨"SecondTry$Search", "tryGoes", "(IIIII)V"⟩, 14), (⟨"SecondTry$Parting", "goThroughSets", "(IIII)V"⟩, 13), (⟨"SecondTry$Parting", "hoursFor", "(II)I"⟩, 13), (⟨"SecondTry$Parting", "findBestRow", "()V"⟩, 13)]
theorem lw_r2 : ∀ q ∈ lw_privs_2, lw_okq q := List.forall_mem_cons.mpr ⟨lw_p16, List.forall_mem_cons.mpr ⟨lw_p17, List.forall_mem_cons.mpr ⟨lw_p18, List.forall_mem_cons.mpr ⟨lw_p19, List.forall_mem_cons.mpr ⟨lw_p20, List.forall_mem_cons.mpr ⟨lw_p21, List.forall_mem_cons.mpr ⟨lw_p22, List.forall_mem_cons.mpr ⟨lw_p23, List.forall_mem_cons.mpr ⟨lw_p24, List.forall_mem_cons.mpr ⟨lw_p25, List.forall_mem_cons.mpr ⟨lw_p26, List.forall_mem_cons.mpr ⟨lw_p27, List.forall_mem_cons.mpr ⟨lw_p28, List.forall_mem_cons.mpr ⟨lw_p29, List.forall_mem_cons.mpr ⟨lw_p30, List.forall_mem_cons.mpr ⟨lw_p31, fun _ h => absurd h List.not_mem_nil⟩⟩⟩⟩⟩⟩⟩⟩⟩⟩⟩⟩⟩⟩⟩⟩
theorem lw_p32 : lw_okq (⟨"SecondTry$Parting", "longestOf", "(I)I"⟩, 13) := ⟨⟨by decide +kernel, by decide +kernel⟩, List.mem_of_getElem? (i := 341) (by decide +kernel), List.mem_of_getElem? (i := 929) (by decide +kernel), List.mem_of_getElem? (i := 930) (by decide +kernel)⟩
theorem lw_p33 : lw_okq (⟨"SecondTry$Stranger", "fits", "(II)Z"⟩, 12) := ⟨⟨by decide +kernel, by decide +kernel⟩, List.mem_of_getElem? (i := 388) (by decide +kernel), List.mem_of_getElem? (i := 966) (by decide +kernel), List.mem_of_getElem? (i := 967) (by decide +kernel)⟩
theorem lw_p34 : lw_okq (⟨"SecondTry$Stranger", "old", "(I)I"⟩, 12) := ⟨⟨by decide +kernel, by decide +kernel⟩, List.mem_of_getElem? (i := 388) (by decide +kernel), List.mem_of_getElem? (i := 970) (by decide +kernel), List.mem_of_getElem? (i := 971) (by decide +kernel)⟩
theorem lw_p35 : lw_okq (⟨"SecondTry$Stranger", "greaterPart", "(I)I"⟩, 12) := ⟨⟨by decide +kernel, by decide +kernel⟩, List.mem_of_getElem? (i := 388) (by decide +kernel), List.mem_of_getElem? (i := 978) (by decide +kernel), List.mem_of_getElem? (i := 979) (by decide +kernel)⟩
theorem lw_p36 : lw_okq (⟨"SecondTry", "countOfKind", "(I)I"⟩, 13) := ⟨⟨by decide +kernel, by decide +kernel⟩, List.mem_of_getElem? (i := 19) (by decide +kernel), List.mem_of_getElem? (i := 1021) (by decide +kernel), List.mem_of_getElem? (i := 1022) (by decide +kernel)⟩
theorem lw_p37 : lw_okq (⟨"SecondTry", "countOfPerson", "(I)I"⟩, 13) := ⟨⟨by decide +kernel, by decide +kernel⟩, List.mem_of_getElem? (i := 19) (by decide +kernel), List.mem_of_getElem? (i := 1025) (by decide +kernel), List.mem_of_getElem? (i := 1026) (by decide +kernel)⟩
theorem lw_p38 : lw_okq (⟨"SecondTryModel", "laysWays", "()V"⟩, 68) := ⟨⟨by decide +kernel, by decide +kernel⟩, List.mem_of_getElem? (i := 1033) (by decide +kernel), List.mem_of_getElem? (i := 1040) (by decide +kernel), List.mem_of_getElem? (i := 1041) (by decide +kernel)⟩
theorem lw_p39 : lw_okq (⟨"SecondTryModel", "isKind", "(I)Z"⟩, 68) := ⟨⟨by decide +kernel, by decide +kernel⟩, List.mem_of_getElem? (i := 1033) (by decide +kernel), List.mem_of_getElem? (i := 1258) (by decide +kernel), List.mem_of_getElem? (i := 1259) (by decide +kernel)⟩
theorem lw_p40 : lw_okq (⟨"SecondTryModel", "types", "(I)V"⟩, 68) := ⟨⟨by decide +kernel, by decide +kernel⟩, List.mem_of_getElem? (i := 1033) (by decide +kernel), List.mem_of_getElem? (i := 1274) (by decide +kernel), List.mem_of_getElem? (i := 1275) (by decide +kernel)⟩
theorem lw_p41 : lw_okq (⟨"SecondTryModel", "readsClause", "()Z"⟩, 68) := ⟨⟨by decide +kernel, by decide +kernel⟩, List.mem_of_getElem? (i := 1033) (by decide +kernel), List.mem_of_getElem? (i := 1282) (by decide +kernel), List.mem_of_getElem? (i := 1283) (by decide +kernel)⟩
theorem lw_p42 : lw_okq (⟨"SecondTryModel", "here", "()I"⟩, 68) := ⟨⟨by decide +kernel, by decide +kernel⟩, List.mem_of_getElem? (i := 1033) (by decide +kernel), List.mem_of_getElem? (i := 1286) (by decide +kernel), List.mem_of_getElem? (i := 1287) (by decide +kernel)⟩
theorem lw_p43 : lw_okq (⟨"SecondTryModel", "wrongAt", "(II)Z"⟩, 68) := ⟨⟨by decide +kernel, by decide +kernel⟩, List.mem_of_getElem? (i := 1033) (by decide +kernel), List.mem_of_getElem? (i := 1293) (by decide +kernel), List.mem_of_getElem? (i := 1294) (by decide +kernel)⟩
theorem lw_p44 : lw_okq (⟨"SecondTryModel", "readsSum", "()Z"⟩, 68) := ⟨⟨by decide +kernel, by decide +kernel⟩, List.mem_of_getElem? (i := 1033) (by decide +kernel), List.mem_of_getElem? (i := 1297) (by decide +kernel), List.mem_of_getElem? (i := 1298) (by decide +kernel)⟩
theorem lw_p45 : lw_okq (⟨"SecondTryModel", "readsFactor", "()Z"⟩, 68) := ⟨⟨by decide +kernel, by decide +kernel⟩, List.mem_of_getElem? (i := 1033) (by decide +kernel), List.mem_of_getElem? (i := 1301) (by decide +kernel), List.mem_of_getElem? (i := 1302) (by decide +kernel)⟩
theorem lw_p46 : lw_okq (⟨"SecondTryModel", "opens", "(I)Z"⟩, 68) := ⟨⟨by decide +kernel, by decide +kernel⟩, List.mem_of_getElem? (i := 1033) (by decide +kernel), List.mem_of_getElem? (i := 1305) (by decide +kernel), List.mem_of_getElem? (i := 1306) (by decide +kernel)⟩
theorem lw_p47 : lw_okq (⟨"SecondTryModel", "isDigit", "()Z"⟩, 68) := ⟨⟨by decide +kernel, by decide +kernel⟩, List.mem_of_getElem? (i := 1033) (by decide +kernel), List.mem_of_getElem? (i := 1310) (by decide +kernel), List.mem_of_getElem? (i := 1311) (by decide +kernel)⟩
def lw_privs_3 : List (MethodName × Nat) := [(⟨"SecondTry$Parting", "longestOf", "(I)I"⟩, 13), (⟨"SecondTry$Stranger", "fits", "(II)Z"⟩, 12), (⟨"SecondTry$Stranger", "old", "(I)I"⟩, 12), (⟨"SecondTry$Stranger", "greaterPart", "(I)I"⟩, 12), (⟨"SecondTry", "countOfKind", "(I)I"⟩, 13), (⟨"SecondTry", "countOfPerson", "(I)I"⟩, 13), (⟨"SecondTryModel", "laysWays", "()V"⟩, 68), (⟨"SecondTryModel", "isKind", "(I)Z"⟩, 68), (⟨"SecondTryModel", "types", "(I)V"⟩, 68), (⟨"SecondTryModel", "readsClause", "()Z"⟩, 68), (⟨"SecondTryModel", "here", "()I"⟩, 68), (⟨"SecondTryModel", "wrongAt", "(II)Z"⟩, 68), (⟨"SecondTryModel", "readsSum", "()Z"⟩, 68), (⟨"SecondTryModel", "readsFactor", "()Z"⟩, 68), (⟨"SecondTryModel", "opens", "(I)Z"⟩, 68), (⟨"SecondTryModel", "isDigit", "()Z"⟩, 68)]
theorem lw_r3 : ∀ q ∈ lw_privs_3, lw_okq q := List.forall_mem_cons.mpr ⟨lw_p32, List.forall_mem_cons.mpr ⟨lw_p33, List.forall_mem_cons.mpr ⟨lw_p34, List.forall_mem_cons.mpr ⟨lw_p35, List.forall_mem_cons.mpr ⟨lw_p36, List.forall_mem_cons.mpr ⟨lw_p37, List.forall_mem_cons.mpr ⟨lw_p38, List.forall_mem_cons.mpr ⟨lw_p39, List.forall_mem_cons.mpr ⟨lw_p40, List.forall_mem_cons.mpr ⟨lw_p41, List.forall_mem_cons.mpr ⟨lw_p42, List.forall_mem_cons.mpr ⟨lw_p43, List.forall_mem_cons.mpr ⟨lw_p44, List.forall_mem_cons.mpr ⟨lw_p45, List.forall_mem_cons.mpr ⟨lw_p46, List.forall_mem_cons.mpr ⟨lw_p47, fun _ h => absurd h List.not_mem_nil⟩⟩⟩⟩⟩⟩⟩⟩⟩⟩⟩⟩⟩⟩⟩⟩
theorem lw_p48 : lw_okq (⟨"SecondTryModel", "readsNumber", "()Z"⟩, 68) := ⟨⟨by decide +kernel, by decide +kernel⟩, List.mem_of_getElem? (i := 1033) (by decide +kernel), List.mem_of_getElem? (i := 1314) (by decide +kernel), List.mem_of_getElem? (i := 1315) (by decide +kernel)⟩
theorem lw_p49 : lw_okq (⟨"SecondTryModel", "notes", "(II)V"⟩, 68) := ⟨⟨by decide +kernel, by decide +kernel⟩, List.mem_of_getElem? (i := 1033) (by decide +kernel), List.mem_of_getElem? (i := 1318) (by decide +kernel), List.mem_of_getElem? (i := 1319) (by decide +kernel)⟩
theorem lw_p50 : lw_okq (⟨"SecondTryModel", "closesSums", "(Z)V"⟩, 68) := ⟨⟨by decide +kernel, by decide +kernel⟩, List.mem_of_getElem? (i := 1033) (by decide +kernel), List.mem_of_getElem? (i := 1328) (by decide +kernel), List.mem_of_getElem? (i := 1329) (by decide +kernel)⟩
theorem lw_p51 : lw_okq (⟨"SecondTryModel", "waitTop", "()I"⟩, 68) := ⟨⟨by decide +kernel, by decide +kernel⟩, List.mem_of_getElem? (i := 1033) (by decide +kernel), List.mem_of_getElem? (i := 1332) (by decide +kernel), List.mem_of_getElem? (i := 1333) (by decide +kernel)⟩
theorem lw_p52 : lw_okq (⟨"SecondTryModel", "hasOpenSum", "(I)Z"⟩, 68) := ⟨⟨by decide +kernel, by decide +kernel⟩, List.mem_of_getElem? (i := 1033) (by decide +kernel), List.mem_of_getElem? (i := 1336) (by decide +kernel), List.mem_of_getElem? (i := 1337) (by decide +kernel)⟩
theorem lw_p53 : lw_okq (⟨"SecondTryModel", "readsCondition", "()Z"⟩, 68) := ⟨⟨by decide +kernel, by decide +kernel⟩, List.mem_of_getElem? (i := 1033) (by decide +kernel), List.mem_of_getElem? (i := 1340) (by decide +kernel), List.mem_of_getElem? (i := 1341) (by decide +kernel)⟩
theorem lw_p54 : lw_okq (⟨"SecondTryModel", "readsCompared", "()Z"⟩, 68) := ⟨⟨by decide +kernel, by decide +kernel⟩, List.mem_of_getElem? (i := 1033) (by decide +kernel), List.mem_of_getElem? (i := 1344) (by decide +kernel), List.mem_of_getElem? (i := 1345) (by decide +kernel)⟩
theorem lw_p55 : lw_okq (⟨"SecondTryModel", "endsPiece", "()V"⟩, 68) := ⟨⟨by decide +kernel, by decide +kernel⟩, List.mem_of_getElem? (i := 1033) (by decide +kernel), List.mem_of_getElem? (i := 1348) (by decide +kernel), List.mem_of_getElem? (i := 1349) (by decide +kernel)⟩
theorem lw_p56 : lw_okq (⟨"SecondTryModel", "lands", "(Z)V"⟩, 68) := ⟨⟨by decide +kernel, by decide +kernel⟩, List.mem_of_getElem? (i := 1033) (by decide +kernel), List.mem_of_getElem? (i := 1352) (by decide +kernel), List.mem_of_getElem? (i := 1353) (by decide +kernel)⟩
theorem lw_p57 : lw_okq (⟨"SecondTryModel", "jumps", "(I)V"⟩, 68) := ⟨⟨by decide +kernel, by decide +kernel⟩, List.mem_of_getElem? (i := 1033) (by decide +kernel), List.mem_of_getElem? (i := 1356) (by decide +kernel), List.mem_of_getElem? (i := 1357) (by decide +kernel)⟩
theorem lw_p58 : lw_okq (⟨"SecondTryModel", "takes", "(I)Z"⟩, 68) := ⟨⟨by decide +kernel, by decide +kernel⟩, List.mem_of_getElem? (i := 1033) (by decide +kernel), List.mem_of_getElem? (i := 1360) (by decide +kernel), List.mem_of_getElem? (i := 1361) (by decide +kernel)⟩
theorem lw_p59 : lw_okq (⟨"SecondTryModel", "isLike", "(II)Z"⟩, 68) := ⟨⟨by decide +kernel, by decide +kernel⟩, List.mem_of_getElem? (i := 1033) (by decide +kernel), List.mem_of_getElem? (i := 1368) (by decide +kernel), List.mem_of_getElem? (i := 1369) (by decide +kernel)⟩
theorem lw_p60 : lw_okq (⟨"SecondTryModel", "feelsKind", "(I)V"⟩, 68) := ⟨⟨by decide +kernel, by decide +kernel⟩, List.mem_of_getElem? (i := 1033) (by decide +kernel), List.mem_of_getElem? (i := 1372) (by decide +kernel), List.mem_of_getElem? (i := 1373) (by decide +kernel)⟩
theorem lw_p61 : lw_okq (⟨"SecondTryModel", "comesTo", "(II)I"⟩, 68) := ⟨⟨by decide +kernel, by decide +kernel⟩, List.mem_of_getElem? (i := 1033) (by decide +kernel), List.mem_of_getElem? (i := 1379) (by decide +kernel), List.mem_of_getElem? (i := 1380) (by decide +kernel)⟩
theorem lw_p62 : lw_okq (⟨"SecondTryModel", "isPerson", "(I)Z"⟩, 68) := ⟨⟨by decide +kernel, by decide +kernel⟩, List.mem_of_getElem? (i := 1033) (by decide +kernel), List.mem_of_getElem? (i := 1390) (by decide +kernel), List.mem_of_getElem? (i := 1391) (by decide +kernel)⟩
theorem lw_p63 : lw_okq (⟨"SecondTryModel", "triesNow", "(III)I"⟩, 68) := ⟨⟨by decide +kernel, by decide +kernel⟩, List.mem_of_getElem? (i := 1033) (by decide +kernel), List.mem_of_getElem? (i := 1394) (by decide +kernel), List.mem_of_getElem? (i := 1395) (by decide +kernel)⟩
def lw_privs_4 : List (MethodName × Nat) := [(⟨"SecondTryModel", "readsNumber", "()Z"⟩, 68), (⟨"SecondTryModel", "notes", "(II)V"⟩, 68), (⟨"SecondTryModel", "closesSums", "(Z)V"⟩, 68), (⟨"SecondTryModel", "waitTop", "()I"⟩, 68), (⟨"SecondTryModel", "hasOpenSum", "(I)Z"⟩, 68), (⟨"SecondTryModel", "readsCondition", "()Z"⟩, 68), (⟨"SecondTryModel", "readsCompared", "()Z"⟩, 68), (⟨"SecondTryModel", "endsPiece", "()V"⟩, 68), (⟨"SecondTryModel", "lands", "(Z)V"⟩, 68), (⟨"SecondTryModel", "jumps", "(I)V"⟩, 68), (⟨"SecondTryModel", "takes", "(I)Z"⟩, 68), (⟨"SecondTryModel", "isLike", "(II)Z"⟩, 68), (⟨"SecondTryModel", "feelsKind", "(I)V"⟩, 68), (⟨"SecondTryModel", "comesTo", "(II)I"⟩, 68), (⟨"SecondTryModel", "isPerson", "(I)Z"⟩, 68), (⟨"SecondTryModel", "triesNow", "(III)I"⟩, 68)]
theorem lw_r4 : ∀ q ∈ lw_privs_4, lw_okq q := List.forall_mem_cons.mpr ⟨lw_p48, List.forall_mem_cons.mpr ⟨lw_p49, List.forall_mem_cons.mpr ⟨lw_p50, List.forall_mem_cons.mpr ⟨lw_p51, List.forall_mem_cons.mpr ⟨lw_p52, List.forall_mem_cons.mpr ⟨lw_p53, List.forall_mem_cons.mpr ⟨lw_p54, List.forall_mem_cons.mpr ⟨lw_p55, List.forall_mem_cons.mpr ⟨lw_p56, List.forall_mem_cons.mpr ⟨lw_p57, List.forall_mem_cons.mpr ⟨lw_p58, List.forall_mem_cons.mpr ⟨lw_p59, List.forall_mem_cons.mpr ⟨lw_p60, List.forall_mem_cons.mpr ⟨lw_p61, List.forall_mem_cons.mpr ⟨lw_p62, List.forall_mem_cons.mpr ⟨lw_p63, fun _ h => absurd h List.not_mem_nil⟩⟩⟩⟩⟩⟩⟩⟩⟩⟩⟩⟩⟩⟩⟩⟩
theorem lw_p64 : lw_okq (⟨"SecondTryModel", "forgets", "(II)V"⟩, 68) := ⟨⟨by decide +kernel, by decide +kernel⟩, List.mem_of_getElem? (i := 1033) (by decide +kernel), List.mem_of_getElem? (i := 1398) (by decide +kernel), List.mem_of_getElem? (i := 1399) (by decide +kernel)⟩
theorem lw_p65 : lw_okq (⟨"SecondTryModel", "feels", "(III)V"⟩, 68) := ⟨⟨by decide +kernel, by decide +kernel⟩, List.mem_of_getElem? (i := 1033) (by decide +kernel), List.mem_of_getElem? (i := 1405) (by decide +kernel), List.mem_of_getElem? (i := 1406) (by decide +kernel)⟩
theorem lw_p66 : lw_okq (⟨"SecondTryModel", "allTries", "(I)I"⟩, 68) := ⟨⟨by decide +kernel, by decide +kernel⟩, List.mem_of_getElem? (i := 1033) (by decide +kernel), List.mem_of_getElem? (i := 1409) (by decide +kernel), List.mem_of_getElem? (i := 1410) (by decide +kernel)⟩
theorem lw_p67 : lw_okq (⟨"SecondTryModel", "byLaw", "(III)I"⟩, 68) := ⟨⟨by decide +kernel, by decide +kernel⟩, List.mem_of_getElem? (i := 1033) (by decide +kernel), List.mem_of_getElem? (i := 1413) (by decide +kernel), List.mem_of_getElem? (i := 1414) (by decide +kernel)⟩
theorem lw_p68 : lw_okq (⟨"SecondTryModel", "oldOnes", "(II)I"⟩, 68) := ⟨⟨by decide +kernel, by decide +kernel⟩, List.mem_of_getElem? (i := 1033) (by decide +kernel), List.mem_of_getElem? (i := 1417) (by decide +kernel), List.mem_of_getElem? (i := 1418) (by decide +kernel)⟩
theorem lw_p69 : lw_okq (⟨"SecondTryModel", "voidFor", "(III)I"⟩, 68) := ⟨⟨by decide +kernel, by decide +kernel⟩, List.mem_of_getElem? (i := 1033) (by decide +kernel), List.mem_of_getElem? (i := 1421) (by decide +kernel), List.mem_of_getElem? (i := 1422) (by decide +kernel)⟩
theorem lw_p70 : lw_okq (⟨"SecondTryModel", "hasNeeds", "(II)Z"⟩, 68) := ⟨⟨by decide +kernel, by decide +kernel⟩, List.mem_of_getElem? (i := 1033) (by decide +kernel), List.mem_of_getElem? (i := 1425) (by decide +kernel), List.mem_of_getElem? (i := 1426) (by decide +kernel)⟩
theorem lw_p71 : lw_okq (⟨"SecondTryModel", "costOf", "(III)I"⟩, 68) := ⟨⟨by decide +kernel, by decide +kernel⟩, List.mem_of_getElem? (i := 1033) (by decide +kernel), List.mem_of_getElem? (i := 1436) (by decide +kernel), List.mem_of_getElem? (i := 1437) (by decide +kernel)⟩
theorem lw_p72 : lw_okq (⟨"SecondTryModel", "readsStep", "()Z"⟩, 68) := ⟨⟨by decide +kernel, by decide +kernel⟩, List.mem_of_getElem? (i := 1033) (by decide +kernel), List.mem_of_getElem? (i := 1455) (by decide +kernel), List.mem_of_getElem? (i := 1456) (by decide +kernel)⟩
theorem lw_p73 : lw_okq (⟨"SecondTryModel", "endsRound", "()Z"⟩, 68) := ⟨⟨by decide +kernel, by decide +kernel⟩, List.mem_of_getElem? (i := 1033) (by decide +kernel), List.mem_of_getElem? (i := 1459) (by decide +kernel), List.mem_of_getElem? (i := 1460) (by decide +kernel)⟩
theorem lw_p74 : lw_okq (⟨"SecondTryModel", "daysGo", "(I)V"⟩, 68) := ⟨⟨by decide +kernel, by decide +kernel⟩, List.mem_of_getElem? (i := 1033) (by decide +kernel), List.mem_of_getElem? (i := 1467) (by decide +kernel), List.mem_of_getElem? (i := 1468) (by decide +kernel)⟩
theorem lw_p75 : lw_okq (⟨"SecondTryModel", "dayOf", "(I)V"⟩, 68) := ⟨⟨by decide +kernel, by decide +kernel⟩, List.mem_of_getElem? (i := 1033) (by decide +kernel), List.mem_of_getElem? (i := 1471) (by decide +kernel), List.mem_of_getElem? (i := 1472) (by decide +kernel)⟩
theorem lw_p76 : lw_okq (⟨"SecondTryModel", "notesTry", "(III)V"⟩, 68) := ⟨⟨by decide +kernel, by decide +kernel⟩, List.mem_of_getElem? (i := 1033) (by decide +kernel), List.mem_of_getElem? (i := 1475) (by decide +kernel), List.mem_of_getElem? (i := 1476) (by decide +kernel)⟩
theorem lw_p77 : lw_okq (⟨"SecondTryModel", "areSome", "(III)Z"⟩, 68) := ⟨⟨by decide +kernel, by decide +kernel⟩, List.mem_of_getElem? (i := 1033) (by decide +kernel), List.mem_of_getElem? (i := 1487) (by decide +kernel), List.mem_of_getElem? (i := 1488) (by decide +kernel)⟩
theorem lw_p78 : lw_okq (⟨"SecondTryModel", "laysOwn", "(II)V"⟩, 68) := ⟨⟨by decide +kernel, by decide +kernel⟩, List.mem_of_getElem? (i := 1033) (by decide +kernel), List.mem_of_getElem? (i := 1491) (by decide +kernel), List.mem_of_getElem? (i := 1492) (by decide +kernel)⟩
theorem lw_p79 : lw_okq (⟨"SecondTryModel", "statesAll", "()I"⟩, 68) := ⟨⟨by decide +kernel, by decide +kernel⟩, List.mem_of_getElem? (i := 1033) (by decide +kernel), List.mem_of_getElem? (i := 1495) (by decide +kernel), List.mem_of_getElem? (i := 1496) (by decide +kernel)⟩
def lw_privs_5 : List (MethodName × Nat) := [(⟨"SecondTryModel", "forgets", "(II)V"⟩, 68), (⟨"SecondTryModel", "feels", "(III)V"⟩, 68), (⟨"SecondTryModel", "allTries", "(I)I"⟩, 68), (⟨"SecondTryModel", "byLaw", "(III)I"⟩, 68), (⟨"SecondTryModel", "oldOnes", "(II)I"⟩, 68), (⟨"SecondTryModel", "voidFor", "(III)I"⟩, 68), (⟨"SecondTryModel", "hasNeeds", "(II)Z"⟩, 68), (⟨"SecondTryModel", "costOf", "(III)I"⟩, 68), (⟨"SecondTryModel", "readsStep", "()Z"⟩, 68), (⟨"SecondTryModel", "endsRound", "()Z"⟩, 68), (⟨"SecondTryModel", "daysGo", "(I)V"⟩, 68), (⟨"SecondTryModel", "dayOf", "(I)V"⟩, 68), (⟨"SecondTryModel", "notesTry", "(III)V"⟩, 68), (⟨"SecondTryModel", "areSome", "(III)Z"⟩, 68), (⟨"SecondTryModel", "laysOwn", "(II)V"⟩, 68), (⟨"SecondTryModel", "statesAll", "()I"⟩, 68)]
theorem lw_r5 : ∀ q ∈ lw_privs_5, lw_okq q := List.forall_mem_cons.mpr ⟨lw_p64, List.forall_mem_cons.mpr ⟨lw_p65, List.forall_mem_cons.mpr ⟨lw_p66, List.forall_mem_cons.mpr ⟨lw_p67, List.forall_mem_cons.mpr ⟨lw_p68, List.forall_mem_cons.mpr ⟨lw_p69, List.forall_mem_cons.mpr ⟨lw_p70, List.forall_mem_cons.mpr ⟨lw_p71, List.forall_mem_cons.mpr ⟨lw_p72, List.forall_mem_cons.mpr ⟨lw_p73, List.forall_mem_cons.mpr ⟨lw_p74, List.forall_mem_cons.mpr ⟨lw_p75, List.forall_mem_cons.mpr ⟨lw_p76, List.forall_mem_cons.mpr ⟨lw_p77, List.forall_mem_cons.mpr ⟨lw_p78, List.forall_mem_cons.mpr ⟨lw_p79, fun _ h => absurd h List.not_mem_nil⟩⟩⟩⟩⟩⟩⟩⟩⟩⟩⟩⟩⟩⟩⟩⟩
theorem lw_p80 : lw_okq (⟨"SecondTryModel", "placeOf", "(I)I"⟩, 68) := ⟨⟨by decide +kernel, by decide +kernel⟩, List.mem_of_getElem? (i := 1033) (by decide +kernel), List.mem_of_getElem? (i := 1499) (by decide +kernel), List.mem_of_getElem? (i := 1500) (by decide +kernel)⟩
theorem lw_p81 : lw_okq (⟨"SecondTryModel", "takesState", "(I)V"⟩, 68) := ⟨⟨by decide +kernel, by decide +kernel⟩, List.mem_of_getElem? (i := 1033) (by decide +kernel), List.mem_of_getElem? (i := 1504) (by decide +kernel), List.mem_of_getElem? (i := 1505) (by decide +kernel)⟩
theorem lw_p82 : lw_okq (⟨"SecondTryModel", "hoursNow", "()I"⟩, 68) := ⟨⟨by decide +kernel, by decide +kernel⟩, List.mem_of_getElem? (i := 1033) (by decide +kernel), List.mem_of_getElem? (i := 1508) (by decide +kernel), List.mem_of_getElem? (i := 1509) (by decide +kernel)⟩
theorem lw_p83 : lw_okq (⟨"SecondTryModel", "madeNow", "()I"⟩, 68) := ⟨⟨by decide +kernel, by decide +kernel⟩, List.mem_of_getElem? (i := 1033) (by decide +kernel), List.mem_of_getElem? (i := 1512) (by decide +kernel), List.mem_of_getElem? (i := 1513) (by decide +kernel)⟩
theorem lw_p84 : lw_okq (⟨"SecondTryModel", "spreads", "(I)V"⟩, 68) := ⟨⟨by decide +kernel, by decide +kernel⟩, List.mem_of_getElem? (i := 1033) (by decide +kernel), List.mem_of_getElem? (i := 1516) (by decide +kernel), List.mem_of_getElem? (i := 1517) (by decide +kernel)⟩
theorem lw_p85 : lw_okq (⟨"SecondTryModel", "goesNow", "()I"⟩, 68) := ⟨⟨by decide +kernel, by decide +kernel⟩, List.mem_of_getElem? (i := 1033) (by decide +kernel), List.mem_of_getElem? (i := 1520) (by decide +kernel), List.mem_of_getElem? (i := 1521) (by decide +kernel)⟩
theorem lw_p86 : lw_okq (⟨"SecondTryModel", "wouldCount", "(I)Z"⟩, 68) := ⟨⟨by decide +kernel, by decide +kernel⟩, List.mem_of_getElem? (i := 1033) (by decide +kernel), List.mem_of_getElem? (i := 1524) (by decide +kernel), List.mem_of_getElem? (i := 1525) (by decide +kernel)⟩
theorem lw_p87 : lw_okq (⟨"SecondTryModel", "areCounted", "(I)Z"⟩, 68) := ⟨⟨by decide +kernel, by decide +kernel⟩, List.mem_of_getElem? (i := 1033) (by decide +kernel), List.mem_of_getElem? (i := 1528) (by decide +kernel), List.mem_of_getElem? (i := 1529) (by decide +kernel)⟩
theorem lw_p88 : lw_okq (⟨"SecondTryModel", "wayWith", "(III)I"⟩, 68) := ⟨⟨by decide +kernel, by decide +kernel⟩, List.mem_of_getElem? (i := 1033) (by decide +kernel), List.mem_of_getElem? (i := 1532) (by decide +kernel), List.mem_of_getElem? (i := 1533) (by decide +kernel)⟩
theorem lw_p89 : lw_okq (⟨"SecondTryModel", "marks", "(II)V"⟩, 68) := ⟨⟨by decide +kernel, by decide +kernel⟩, List.mem_of_getElem? (i := 1033) (by decide +kernel), List.mem_of_getElem? (i := 1536) (by decide +kernel), List.mem_of_getElem? (i := 1537) (by decide +kernel)⟩
theorem lw_p90 : lw_okq (⟨"SecondTryModel", "stateNow", "()I"⟩, 68) := ⟨⟨by decide +kernel, by decide +kernel⟩, List.mem_of_getElem? (i := 1033) (by decide +kernel), List.mem_of_getElem? (i := 1540) (by decide +kernel), List.mem_of_getElem? (i := 1541) (by decide +kernel)⟩
theorem lw_p91 : lw_okq (⟨"SecondTryModel", "leastPrice", "(II)I"⟩, 68) := ⟨⟨by decide +kernel, by decide +kernel⟩, List.mem_of_getElem? (i := 1033) (by decide +kernel), List.mem_of_getElem? (i := 1548) (by decide +kernel), List.mem_of_getElem? (i := 1549) (by decide +kernel)⟩
theorem lw_p92 : lw_okq (⟨"SecondTryModel", "marksBought", "(I)V"⟩, 68) := ⟨⟨by decide +kernel, by decide +kernel⟩, List.mem_of_getElem? (i := 1033) (by decide +kernel), List.mem_of_getElem? (i := 1552) (by decide +kernel), List.mem_of_getElem? (i := 1553) (by decide +kernel)⟩
theorem lw_p93 : lw_okq (⟨"SecondTryModel", "coinsNow", "()I"⟩, 68) := ⟨⟨by decide +kernel, by decide +kernel⟩, List.mem_of_getElem? (i := 1033) (by decide +kernel), List.mem_of_getElem? (i := 1556) (by decide +kernel), List.mem_of_getElem? (i := 1557) (by decide +kernel)⟩
theorem lw_p94 : lw_okq (⟨"SecondTryModel", "finds", "(II)Z"⟩, 68) := ⟨⟨by decide +kernel, by decide +kernel⟩, List.mem_of_getElem? (i := 1033) (by decide +kernel), List.mem_of_getElem? (i := 1564) (by decide +kernel), List.mem_of_getElem? (i := 1565) (by decide +kernel)⟩
theorem lw_p95 : lw_okq (⟨"SecondTryModel", "takesJobs", "(I)Z"⟩, 68) := ⟨⟨by decide +kernel, by decide +kernel⟩, List.mem_of_getElem? (i := 1033) (by decide +kernel), List.mem_of_getElem? (i := 1572) (by decide +kernel), List.mem_of_getElem? (i := 1573) (by decide +kernel)⟩
def lw_privs_6 : List (MethodName × Nat) := [(⟨"SecondTryModel", "placeOf", "(I)I"⟩, 68), (⟨"SecondTryModel", "takesState", "(I)V"⟩, 68), (⟨"SecondTryModel", "hoursNow", "()I"⟩, 68), (⟨"SecondTryModel", "madeNow", "()I"⟩, 68), (⟨"SecondTryModel", "spreads", "(I)V"⟩, 68), (⟨"SecondTryModel", "goesNow", "()I"⟩, 68), (⟨"SecondTryModel", "wouldCount", "(I)Z"⟩, 68), (⟨"SecondTryModel", "areCounted", "(I)Z"⟩, 68), (⟨"SecondTryModel", "wayWith", "(III)I"⟩, 68), (⟨"SecondTryModel", "marks", "(II)V"⟩, 68), (⟨"SecondTryModel", "stateNow", "()I"⟩, 68), (⟨"SecondTryModel", "leastPrice", "(II)I"⟩, 68), (⟨"SecondTryModel", "marksBought", "(I)V"⟩, 68), (⟨"SecondTryModel", "coinsNow", "()I"⟩, 68), (⟨"SecondTryModel", "finds", "(II)Z"⟩, 68), (⟨"SecondTryModel", "takesJobs", "(I)Z"⟩, 68)]
theorem lw_r6 : ∀ q ∈ lw_privs_6, lw_okq q := List.forall_mem_cons.mpr ⟨lw_p80, List.forall_mem_cons.mpr ⟨lw_p81, List.forall_mem_cons.mpr ⟨lw_p82, List.forall_mem_cons.mpr ⟨lw_p83, List.forall_mem_cons.mpr ⟨lw_p84, List.forall_mem_cons.mpr ⟨lw_p85, List.forall_mem_cons.mpr ⟨lw_p86, List.forall_mem_cons.mpr ⟨lw_p87, List.forall_mem_cons.mpr ⟨lw_p88, List.forall_mem_cons.mpr ⟨lw_p89, List.forall_mem_cons.mpr ⟨lw_p90, List.forall_mem_cons.mpr ⟨lw_p91, List.forall_mem_cons.mpr ⟨lw_p92, List.forall_mem_cons.mpr ⟨lw_p93, List.forall_mem_cons.mpr ⟨lw_p94, List.forall_mem_cons.mpr ⟨lw_p95, fun _ h => absurd h List.not_mem_nil⟩⟩⟩⟩⟩⟩⟩⟩⟩⟩⟩⟩⟩⟩⟩⟩
theorem lw_p96 : lw_okq (⟨"SecondTryModel", "longestBy", "(I)I"⟩, 68) := ⟨⟨by decide +kernel, by decide +kernel⟩, List.mem_of_getElem? (i := 1033) (by decide +kernel), List.mem_of_getElem? (i := 1576) (by decide +kernel), List.mem_of_getElem? (i := 1577) (by decide +kernel)⟩
theorem lw_p97 : lw_okq (⟨"SecondTryModel", "hoursBy", "(II)I"⟩, 68) := ⟨⟨by decide +kernel, by decide +kernel⟩, List.mem_of_getElem? (i := 1033) (by decide +kernel), List.mem_of_getElem? (i := 1580) (by decide +kernel), List.mem_of_getElem? (i := 1581) (by decide +kernel)⟩
theorem lw_p98 : lw_okq (⟨"SecondTryModel", "whoDoes", "(II)I"⟩, 68) := ⟨⟨by decide +kernel, by decide +kernel⟩, List.mem_of_getElem? (i := 1033) (by decide +kernel), List.mem_of_getElem? (i := 1584) (by decide +kernel), List.mem_of_getElem? (i := 1585) (by decide +kernel)⟩
theorem lw_p99 : lw_okq (⟨"SecondTryModel", "jobNeeds", "(II)Z"⟩, 68) := ⟨⟨by decide +kernel, by decide +kernel⟩, List.mem_of_getElem? (i := 1033) (by decide +kernel), List.mem_of_getElem? (i := 1588) (by decide +kernel), List.mem_of_getElem? (i := 1589) (by decide +kernel)⟩
theorem lw_p100 : lw_okq (⟨"SecondTryModel", "jobCounts", "(II)Z"⟩, 68) := ⟨⟨by decide +kernel, by decide +kernel⟩, List.mem_of_getElem? (i := 1033) (by decide +kernel), List.mem_of_getElem? (i := 1592) (by decide +kernel), List.mem_of_getElem? (i := 1593) (by decide +kernel)⟩
theorem lw_p101 : lw_okq (⟨"SecondTryModel", "takesPast", "(II)Z"⟩, 68) := ⟨⟨by decide +kernel, by decide +kernel⟩, List.mem_of_getElem? (i := 1033) (by decide +kernel), List.mem_of_getElem? (i := 1610) (by decide +kernel), List.mem_of_getElem? (i := 1611) (by decide +kernel)⟩
theorem lw_p102 : lw_okq (⟨"SecondTryModel", "goesWith", "(III)Z"⟩, 68) := ⟨⟨by decide +kernel, by decide +kernel⟩, List.mem_of_getElem? (i := 1033) (by decide +kernel), List.mem_of_getElem? (i := 1614) (by decide +kernel), List.mem_of_getElem? (i := 1615) (by decide +kernel)⟩
theorem lw_p103 : lw_okq (⟨"SecondTryModel", "begins", "(I)V"⟩, 68) := ⟨⟨by decide +kernel, by decide +kernel⟩, List.mem_of_getElem? (i := 1033) (by decide +kernel), List.mem_of_getElem? (i := 1618) (by decide +kernel), List.mem_of_getElem? (i := 1619) (by decide +kernel)⟩
theorem lw_p104 : lw_okq (⟨"SecondTryModel", "pastCounts", "(II)Z"⟩, 68) := ⟨⟨by decide +kernel, by decide +kernel⟩, List.mem_of_getElem? (i := 1033) (by decide +kernel), List.mem_of_getElem? (i := 1622) (by decide +kernel), List.mem_of_getElem? (i := 1623) (by decide +kernel)⟩
theorem lw_p105 : lw_okq (⟨"SecondTryModel", "greaterBy", "(IIII)I"⟩, 68) := ⟨⟨by decide +kernel, by decide +kernel⟩, List.mem_of_getElem? (i := 1033) (by decide +kernel), List.mem_of_getElem? (i := 1626) (by decide +kernel), List.mem_of_getElem? (i := 1627) (by decide +kernel)⟩
theorem lw_p106 : lw_okq (⟨"SecondTryModel", "winningMove", "(IZZ)I"⟩, 68) := ⟨⟨by decide +kernel, by decide +kernel⟩, List.mem_of_getElem? (i := 1033) (by decide +kernel), List.mem_of_getElem? (i := 1637) (by decide +kernel), List.mem_of_getElem? (i := 1638) (by decide +kernel)⟩
theorem lw_p107 : lw_okq (⟨"SecondTryModel", "wins", "(IZZII)Z"⟩, 68) := ⟨⟨by decide +kernel, by decide +kernel⟩, List.mem_of_getElem? (i := 1033) (by decide +kernel), List.mem_of_getElem? (i := 1644) (by decide +kernel), List.mem_of_getElem? (i := 1645) (by decide +kernel)⟩
theorem lw_p108 : lw_okq (⟨"SecondTryModel", "tapeNumber", "(I)I"⟩, 68) := ⟨⟨by decide +kernel, by decide +kernel⟩, List.mem_of_getElem? (i := 1033) (by decide +kernel), List.mem_of_getElem? (i := 1667) (by decide +kernel), List.mem_of_getElem? (i := 1668) (by decide +kernel)⟩
theorem lw_p109 : lw_okq (⟨"SecondTryModel", "sumOf", "(II)I"⟩, 68) := ⟨⟨by decide +kernel, by decide +kernel⟩, List.mem_of_getElem? (i := 1033) (by decide +kernel), List.mem_of_getElem? (i := 1675) (by decide +kernel), List.mem_of_getElem? (i := 1676) (by decide +kernel)⟩
def lw_privs_7 : List (MethodName × Nat) := [(⟨"SecondTryModel", "longestBy", "(I)I"⟩, 68), (⟨"SecondTryModel", "hoursBy", "(II)I"⟩, 68), (⟨"SecondTryModel", "whoDoes", "(II)I"⟩, 68), (⟨"SecondTryModel", "jobNeeds", "(II)Z"⟩, 68), (⟨"SecondTryModel", "jobCounts", "(II)Z"⟩, 68), (⟨"SecondTryModel", "takesPast", "(II)Z"⟩, 68), (⟨"SecondTryModel", "goesWith", "(III)Z"⟩, 68), (⟨"SecondTryModel", "begins", "(I)V"⟩, 68), (⟨"SecondTryModel", "pastCounts", "(II)Z"⟩, 68), (⟨"SecondTryModel", "greaterBy", "(IIII)I"⟩, 68), (⟨"SecondTryModel", "winningMove", "(IZZ)I"⟩, 68), (⟨"SecondTryModel", "wins", "(IZZII)Z"⟩, 68), (⟨"SecondTryModel", "tapeNumber", "(I)I"⟩, 68), (⟨"SecondTryModel", "sumOf", "(II)I"⟩, 68)]
theorem lw_r7 : ∀ q ∈ lw_privs_7, lw_okq q := List.forall_mem_cons.mpr ⟨lw_p96, List.forall_mem_cons.mpr ⟨lw_p97, List.forall_mem_cons.mpr ⟨lw_p98, List.forall_mem_cons.mpr ⟨lw_p99, List.forall_mem_cons.mpr ⟨lw_p100, List.forall_mem_cons.mpr ⟨lw_p101, List.forall_mem_cons.mpr ⟨lw_p102, List.forall_mem_cons.mpr ⟨lw_p103, List.forall_mem_cons.mpr ⟨lw_p104, List.forall_mem_cons.mpr ⟨lw_p105, List.forall_mem_cons.mpr ⟨lw_p106, List.forall_mem_cons.mpr ⟨lw_p107, List.forall_mem_cons.mpr ⟨lw_p108, List.forall_mem_cons.mpr ⟨lw_p109, fun _ h => absurd h List.not_mem_nil⟩⟩⟩⟩⟩⟩⟩⟩⟩⟩⟩⟩⟩⟩
def lw_privs : List (MethodName × Nat) := lw_privs_1 ++ (lw_privs_2 ++ (lw_privs_3 ++ (lw_privs_4 ++ (lw_privs_5 ++ (lw_privs_6 ++ (lw_privs_7))))))
def lw_tbl : List Cond := k2_sels lw_privs ++ tables_1
theorem lw_privs_ok : ∀ q ∈ lw_privs, lw_okq q := by
  show ∀ q ∈ lw_privs_1 ++ (lw_privs_2 ++ (lw_privs_3 ++ (lw_privs_4 ++ (lw_privs_5 ++ (lw_privs_6 ++ (lw_privs_7)))))), lw_okq q
  exact List.forall_mem_append.mpr ⟨lw_r1, List.forall_mem_append.mpr ⟨lw_r2, List.forall_mem_append.mpr ⟨lw_r3, List.forall_mem_append.mpr ⟨lw_r4, List.forall_mem_append.mpr ⟨lw_r5, List.forall_mem_append.mpr ⟨lw_r6, lw_r7⟩⟩⟩⟩⟩⟩

def RJ6 : String := "java/lang/Integer"
def RJ7 : String := "java/util/Arrays"
def RJ9 : String := "java/lang/Math"
def RX0 : String := "SecondTry$Clerk"
def TX0 : u_T := fun k => match k with
  | 0 => ("SecondTry$Clerk", "kinds", "LSecondTry$Kinds;", true)
  | 1 => ("SecondTry$Clerk", "judge", "LSecondTry$Judge;", true)
  | 2 => ("SecondTry$Clerk", "foundOld", "I", false)
  | 3 => ("SecondTry$Clerk", "foundVoid", "I", false)
  | 4 => ("SecondTry$Clerk", "daysTries", "I", false)
  | 5 => ("SecondTry$Clerk", "daysCounted", "I", false)
  | 6 => ("SecondTry$Clerk", "daysHours", "I", false)
  | 7 => ("SecondTry$Clerk", "stallDay", "I", false)
  | 8 => ("SecondTry$Clerk", "stallPerson", "I", false)
  | _ => ("SecondTry$Clerk", "stallKind", "I", false)
def tyX0 : Nat → FieldType := fun k => match k with
  | 0 => .object "SecondTry$Kinds"
  | 1 => .object "SecondTry$Judge"
  | 2 => .int
  | 3 => .int
  | 4 => .int
  | 5 => .int
  | 6 => .int
  | 7 => .int
  | 8 => .int
  | _ => .int
abbrev wsX00 : List Cond := u_ws RX0 TX0 10
theorem nmX0 : ∀ a, a < 10 → ∀ b, b < 10 → a ≠ b → (TX0 a).2.1 ≠ (TX0 b).2.1 := by decide +kernel
theorem tyX0_ok : ∀ k, k < 10 → parseFieldDescriptor (TX0 k).2.2.1 = some (tyX0 k) := by decide +kernel
abbrev cX0_init : ByteArray := prog_2_method_1_code
def yX0_init : MethodName := ⟨RX0, "<init>", "(LSecondTry$Kinds;LSecondTry$Judge;)V"⟩
abbrev cX0_attempt : ByteArray := prog_2_method_2_code
def yX0_attempt : MethodName := ⟨RX0, "attempt", "(LSecondTry$Town;III)I"⟩
abbrev cX0_price : ByteArray := prog_2_method_3_code
def yX0_price : MethodName := ⟨RX0, "price", "(LSecondTry$Town;III)I"⟩
abbrev cX0_buyGo : ByteArray := prog_2_method_4_code
def yX0_buyGo : MethodName := ⟨RX0, "buyGo", "(LSecondTry$Town;III)I"⟩
abbrev cX0_goDays : ByteArray := prog_2_method_5_code
def yX0_goDays : MethodName := ⟨RX0, "goDays", "(LSecondTry$Town;I)V"⟩
abbrev cX0_cameOfDays : ByteArray := prog_2_method_6_code
def yX0_cameOfDays : MethodName := ⟨RX0, "cameOfDays", "(I)I"⟩
abbrev cX0_doSteps : ByteArray := prog_2_method_7_code
def yX0_doSteps : MethodName := ⟨RX0, "doSteps", "(LSecondTry$Town;I)V"⟩
abbrev cX0_noteOutcome : ByteArray := prog_2_method_8_code
def yX0_noteOutcome : MethodName := ⟨RX0, "noteOutcome", "(IIII)V"⟩
abbrev cX0_forget : ByteArray := prog_2_method_9_code
def yX0_forget : MethodName := ⟨RX0, "forget", "(LSecondTry$Town;II)V"⟩
abbrev cX0_tellAll : ByteArray := prog_2_method_10_code
def yX0_tellAll : MethodName := ⟨RX0, "tellAll", "(LSecondTry$Town;III)V"⟩
def RX1 : String := "SecondTry$Judge"
def TX1 : u_T := fun k => match k with
  | 0 => ("SecondTry$Judge", "kinds", "LSecondTry$Kinds;", true)
  | 1 => ("SecondTry$Judge", "told", "[I", true)
  | 2 => ("SecondTry$Judge", "stack", "[I", true)
  | 3 => ("SecondTry$Judge", "law", "LSecondTry$Law;", false)
  | _ => ("SecondTry$Judge", "isRefused", "Z", false)
def tyX1 : Nat → FieldType := fun k => match k with
  | 0 => .object "SecondTry$Kinds"
  | 1 => .array .int
  | 2 => .array .int
  | 3 => .object "SecondTry$Law"
  | _ => .boolean
abbrev wsX10 : List Cond := u_ws RX1 TX1 5
theorem nmX1 : ∀ a, a < 5 → ∀ b, b < 5 → a ≠ b → (TX1 a).2.1 ≠ (TX1 b).2.1 := by decide +kernel
theorem tyX1_ok : ∀ k, k < 5 → parseFieldDescriptor (TX1 k).2.2.1 = some (tyX1 k) := by decide +kernel
abbrev cX1_init : ByteArray := prog_3_method_1_code
def yX1_init : MethodName := ⟨RX1, "<init>", "(LSecondTry$Kinds;)V"⟩
abbrev cX1_findsAlike : ByteArray := prog_3_method_2_code
def yX1_findsAlike : MethodName := ⟨RX1, "findsAlike", "(III)Z"⟩
abbrev cX1_alikes : ByteArray := prog_3_method_3_code
def yX1_alikes : MethodName := ⟨RX1, "alikes", "(II)I"⟩
abbrev cX1_isLoophole : ByteArray := prog_3_method_4_code
def yX1_isLoophole : MethodName := ⟨RX1, "isLoophole", "(IIII)Z"⟩
abbrev cX1_tellDeed : ByteArray := prog_3_method_5_code
def yX1_tellDeed : MethodName := ⟨RX1, "tellDeed", "(IIII)V"⟩
abbrev cX1_tellTry : ByteArray := prog_3_method_6_code
def yX1_tellTry : MethodName := ⟨RX1, "tellTry", "(IIIII)V"⟩
abbrev cX1_voidTries : ByteArray := prog_3_method_7_code
def yX1_voidTries : MethodName := ⟨RX1, "voidTries", "()I"⟩
abbrev cX1_amount : ByteArray := prog_3_method_8_code
def yX1_amount : MethodName := ⟨RX1, "amount", "(III)I"⟩
abbrev cX1_isAlike : ByteArray := prog_3_method_9_code
def yX1_isAlike : MethodName := ⟨RX1, "isAlike", "(I)Z"⟩
abbrev cX1_run : ByteArray := prog_3_method_10_code
def yX1_run : MethodName := ⟨RX1, "run", "(II)I"⟩
abbrev cX1_reckon : ByteArray := prog_3_method_11_code
def yX1_reckon : MethodName := ⟨RX1, "reckon", "(III)I"⟩
def RX2 : String := "SecondTry$Kinds"
def TX2 : u_T := fun k => match k with
  | 0 => ("SecondTry$Kinds", "hours", "[I", true)
  | 1 => ("SecondTry$Kinds", "marks", "[I", true)
  | 2 => ("SecondTry$Kinds", "needs", "[I", true)
  | _ => ("SecondTry$Kinds", "told", "I", false)
def tyX2 : Nat → FieldType := fun k => match k with
  | 0 => .array .int
  | 1 => .array .int
  | 2 => .array .int
  | _ => .int
abbrev wsX20 : List Cond := u_ws RX2 TX2 4
theorem nmX2 : ∀ a, a < 4 → ∀ b, b < 4 → a ≠ b → (TX2 a).2.1 ≠ (TX2 b).2.1 := by decide +kernel
theorem tyX2_ok : ∀ k, k < 4 → parseFieldDescriptor (TX2 k).2.2.1 = some (tyX2 k) := by decide +kernel
abbrev cX2_init : ByteArray := prog_4_method_1_code
def yX2_init : MethodName := ⟨RX2, "<init>", "()V"⟩
abbrev cX2_knows : ByteArray := prog_4_method_2_code
def yX2_knows : MethodName := ⟨RX2, "knows", "(I)Z"⟩
abbrev cX2_knowsAll : ByteArray := prog_4_method_3_code
def yX2_knowsAll : MethodName := ⟨RX2, "knowsAll", "(I)Z"⟩
abbrev cX2_tell : ByteArray := prog_4_method_4_code
def yX2_tell : MethodName := ⟨RX2, "tell", "(IIII)Z"⟩
def RX3 : String := "SecondTry$Law"
def TX3 : u_T := fun k => match k with
  | 0 => ("SecondTry$Law", "ops", "[I", true)
  | 1 => ("SecondTry$Law", "args", "[I", true)
  | 2 => ("SecondTry$Law", "letters", "[I", true)
  | 3 => ("SecondTry$Law", "sumAt", "[I", true)
  | 4 => ("SecondTry$Law", "conditionAt", "[I", true)
  | 5 => ("SecondTry$Law", "endAt", "[I", true)
  | 6 => ("SecondTry$Law", "codes", "I", false)
  | _ => ("SecondTry$Law", "clauses", "I", false)
def tyX3 : Nat → FieldType := fun k => match k with
  | 0 => .array .int
  | 1 => .array .int
  | 2 => .array .int
  | 3 => .array .int
  | 4 => .array .int
  | 5 => .array .int
  | 6 => .int
  | _ => .int
abbrev wsX30 : List Cond := u_ws RX3 TX3 8
theorem nmX3 : ∀ a, a < 8 → ∀ b, b < 8 → a ≠ b → (TX3 a).2.1 ≠ (TX3 b).2.1 := by decide +kernel
theorem tyX3_ok : ∀ k, k < 8 → parseFieldDescriptor (TX3 k).2.2.1 = some (tyX3 k) := by decide +kernel
abbrev cX3_init : ByteArray := prog_5_method_1_code
def yX3_init : MethodName := ⟨RX3, "<init>", "()V"⟩
abbrev cX3_clear : ByteArray := prog_5_method_2_code
def yX3_clear : MethodName := ⟨RX3, "clear", "()V"⟩
abbrev cX3_add : ByteArray := prog_5_method_3_code
def yX3_add : MethodName := ⟨RX3, "add", "(II)I"⟩
abbrev cX3_skipToHere : ByteArray := prog_5_method_4_code
def yX3_skipToHere : MethodName := ⟨RX3, "skipToHere", "(I)V"⟩
abbrev cX3_addClause : ByteArray := prog_5_method_5_code
def yX3_addClause : MethodName := ⟨RX3, "addClause", "(III)V"⟩
def RX4 : String := "SecondTry$LawReader"
def TX4 : u_T := fun k => match k with
  | 0 => ("SecondTry$LawReader", "text", "LSecondTry$Tape;", true)
  | _ => ("SecondTry$LawReader", "law", "LSecondTry$Law;", false)
def tyX4 : Nat → FieldType := fun k => match k with
  | 0 => .object "SecondTry$Tape"
  | _ => .object "SecondTry$Law"
abbrev wsX40 : List Cond := u_ws RX4 TX4 2
theorem nmX4 : ∀ a, a < 2 → ∀ b, b < 2 → a ≠ b → (TX4 a).2.1 ≠ (TX4 b).2.1 := by decide +kernel
theorem tyX4_ok : ∀ k, k < 2 → parseFieldDescriptor (TX4 k).2.2.1 = some (tyX4 k) := by decide +kernel
abbrev cX4_init : ByteArray := prog_6_method_1_code
def yX4_init : MethodName := ⟨RX4, "<init>", "(LSecondTry$Tape;)V"⟩
abbrev cX4_read : ByteArray := prog_6_method_2_code
def yX4_read : MethodName := ⟨RX4, "read", "(I)I"⟩
abbrev cX4_readClause : ByteArray := prog_6_method_3_code
def yX4_readClause : MethodName := ⟨RX4, "readClause", "()Z"⟩
abbrev cX4_readCondition : ByteArray := prog_6_method_4_code
def yX4_readCondition : MethodName := ⟨RX4, "readCondition", "(I)Z"⟩
abbrev cX4_readPart : ByteArray := prog_6_method_5_code
def yX4_readPart : MethodName := ⟨RX4, "readPart", "(I)Z"⟩
abbrev cX4_readPiece : ByteArray := prog_6_method_6_code
def yX4_readPiece : MethodName := ⟨RX4, "readPiece", "(I)Z"⟩
abbrev cX4_readSum : ByteArray := prog_6_method_7_code
def yX4_readSum : MethodName := ⟨RX4, "readSum", "(I)Z"⟩
abbrev cX4_readProduct : ByteArray := prog_6_method_8_code
def yX4_readProduct : MethodName := ⟨RX4, "readProduct", "(I)Z"⟩
abbrev cX4_readFactor : ByteArray := prog_6_method_9_code
def yX4_readFactor : MethodName := ⟨RX4, "readFactor", "(I)Z"⟩
abbrev cX4_readNumber : ByteArray := prog_6_method_10_code
def yX4_readNumber : MethodName := ⟨RX4, "readNumber", "()Z"⟩
abbrev cX4_opens : ByteArray := prog_6_method_11_code
def yX4_opens : MethodName := ⟨RX4, "opens", "(I)Z"⟩
def RX5 : String := "SecondTry$Parting"
def TX5 : u_T := fun k => match k with
  | 0 => ("SecondTry$Parting", "kinds", "LSecondTry$Kinds;", true)
  | 1 => ("SecondTry$Parting", "judge", "LSecondTry$Judge;", true)
  | 2 => ("SecondTry$Parting", "clerk", "LSecondTry$Clerk;", true)
  | 3 => ("SecondTry$Parting", "row", "[I", true)
  | 4 => ("SecondTry$Parting", "workers", "[I", true)
  | 5 => ("SecondTry$Parting", "setHours", "[I", true)
  | 6 => ("SecondTry$Parting", "alikes", "[I", true)
  | 7 => ("SecondTry$Parting", "sets", "[I", true)
  | 8 => ("SecondTry$Parting", "trial", "LSecondTry$Town;", true)
  | 9 => ("SecondTry$Parting", "jobCount", "I", false)
  | 10 => ("SecondTry$Parting", "workerCount", "I", false)
  | 11 => ("SecondTry$Parting", "bestHours", "I", false)
  | _ => ("SecondTry$Parting", "bestRow", "I", false)
def tyX5 : Nat → FieldType := fun k => match k with
  | 0 => .object "SecondTry$Kinds"
  | 1 => .object "SecondTry$Judge"
  | 2 => .object "SecondTry$Clerk"
  | 3 => .array .int
  | 4 => .array .int
  | 5 => .array .int
  | 6 => .array .int
  | 7 => .array .int
  | 8 => .object "SecondTry$Town"
  | 9 => .int
  | 10 => .int
  | 11 => .int
  | _ => .int
abbrev wsX50 : List Cond := u_ws RX5 TX5 13
theorem nmX5 : ∀ a, a < 13 → ∀ b, b < 13 → a ≠ b → (TX5 a).2.1 ≠ (TX5 b).2.1 := by decide +kernel
theorem tyX5_ok : ∀ k, k < 13 → parseFieldDescriptor (TX5 k).2.2.1 = some (tyX5 k) := by decide +kernel
abbrev cX5_init : ByteArray := prog_7_method_1_code
def yX5_init : MethodName := ⟨RX5, "<init>", "(LSecondTry$Kinds;LSecondTry$Judge;LSecondTry$Clerk;LSecondTry$Town;)V"⟩
abbrev cX5_read : ByteArray := prog_7_method_2_code
def yX5_read : MethodName := ⟨RX5, "read", "(LSecondTry$Tape;I)Z"⟩
abbrev cX5_takeWorkers : ByteArray := prog_7_method_3_code
def yX5_takeWorkers : MethodName := ⟨RX5, "takeWorkers", "(I)Z"⟩
abbrev cX5_solve : ByteArray := prog_7_method_4_code
def yX5_solve : MethodName := ⟨RX5, "solve", "(LSecondTry$Town;)V"⟩
abbrev cX5_workerOf : ByteArray := prog_7_method_5_code
def yX5_workerOf : MethodName := ⟨RX5, "workerOf", "(I)I"⟩
abbrev cX5_goThroughSets : ByteArray := prog_7_method_6_code
def yX5_goThroughSets : MethodName := ⟨RX5, "goThroughSets", "(IIII)V"⟩
abbrev cX5_hoursFor : ByteArray := prog_7_method_7_code
def yX5_hoursFor : MethodName := ⟨RX5, "hoursFor", "(II)I"⟩
abbrev cX5_findBestRow : ByteArray := prog_7_method_8_code
def yX5_findBestRow : MethodName := ⟨RX5, "findBestRow", "()V"⟩
abbrev cX5_longestOf : ByteArray := prog_7_method_9_code
def yX5_longestOf : MethodName := ⟨RX5, "longestOf", "(I)I"⟩
def RX6 : String := "SecondTry$PlanReader"
def TX6 : u_T := fun k => match k with
  | 0 => ("SecondTry$PlanReader", "text", "LSecondTry$Tape;", true)
  | 1 => ("SecondTry$PlanReader", "stepKinds", "[I", true)
  | 2 => ("SecondTry$PlanReader", "stepWith", "[I", true)
  | _ => ("SecondTry$PlanReader", "steps", "I", false)
def tyX6 : Nat → FieldType := fun k => match k with
  | 0 => .object "SecondTry$Tape"
  | 1 => .array .int
  | 2 => .array .int
  | _ => .int
abbrev wsX60 : List Cond := u_ws RX6 TX6 4
theorem nmX6 : ∀ a, a < 4 → ∀ b, b < 4 → a ≠ b → (TX6 a).2.1 ≠ (TX6 b).2.1 := by decide +kernel
theorem tyX6_ok : ∀ k, k < 4 → parseFieldDescriptor (TX6 k).2.2.1 = some (tyX6 k) := by decide +kernel
abbrev cX6_init : ByteArray := prog_8_method_1_code
def yX6_init : MethodName := ⟨RX6, "<init>", "(LSecondTry$Tape;)V"⟩
abbrev cX6_read : ByteArray := prog_8_method_2_code
def yX6_read : MethodName := ⟨RX6, "read", "(I)I"⟩
abbrev cX6_readSteps : ByteArray := prog_8_method_3_code
def yX6_readSteps : MethodName := ⟨RX6, "readSteps", "(I)Z"⟩
abbrev cX6_readStep : ByteArray := prog_8_method_4_code
def yX6_readStep : MethodName := ⟨RX6, "readStep", "(I)Z"⟩
abbrev cX6_readTry : ByteArray := prog_8_method_5_code
def yX6_readTry : MethodName := ⟨RX6, "readTry", "()Z"⟩
abbrev cX6_repeatSteps : ByteArray := prog_8_method_6_code
def yX6_repeatSteps : MethodName := ⟨RX6, "repeatSteps", "(II)Z"⟩
abbrev cX6_addStep : ByteArray := prog_8_method_7_code
def yX6_addStep : MethodName := ⟨RX6, "addStep", "(II)Z"⟩
def RX7 : String := "SecondTry$Search"
def TX7 : u_T := fun k => match k with
  | 0 => ("SecondTry$Search", "kinds", "LSecondTry$Kinds;", true)
  | 1 => ("SecondTry$Search", "judge", "LSecondTry$Judge;", true)
  | 2 => ("SecondTry$Search", "clerk", "LSecondTry$Clerk;", true)
  | 3 => ("SecondTry$Search", "choice", "[I", true)
  | 4 => ("SecondTry$Search", "hasOld", "[I", true)
  | 5 => ("SecondTry$Search", "alikes", "[I", true)
  | 6 => ("SecondTry$Search", "lacks", "[I", true)
  | 7 => ("SecondTry$Search", "prices", "[I", true)
  | 8 => ("SecondTry$Search", "voids", "[I", true)
  | 9 => ("SecondTry$Search", "ways", "[I", true)
  | 10 => ("SecondTry$Search", "size", "I", false)
  | 11 => ("SecondTry$Search", "aim", "I", false)
  | 12 => ("SecondTry$Search", "bestCoins", "I", false)
  | _ => ("SecondTry$Search", "bestHours", "I", false)
def tyX7 : Nat → FieldType := fun k => match k with
  | 0 => .object "SecondTry$Kinds"
  | 1 => .object "SecondTry$Judge"
  | 2 => .object "SecondTry$Clerk"
  | 3 => .array .int
  | 4 => .array .int
  | 5 => .array .int
  | 6 => .array .int
  | 7 => .array .int
  | 8 => .array .int
  | 9 => .array .int
  | 10 => .int
  | 11 => .int
  | 12 => .int
  | _ => .int
abbrev wsX70 : List Cond := u_ws RX7 TX7 14
theorem nmX7 : ∀ a, a < 14 → ∀ b, b < 14 → a ≠ b → (TX7 a).2.1 ≠ (TX7 b).2.1 := by decide +kernel
theorem tyX7_ok : ∀ k, k < 14 → parseFieldDescriptor (TX7 k).2.2.1 = some (tyX7 k) := by decide +kernel
abbrev cX7_init : ByteArray := prog_9_method_1_code
def yX7_init : MethodName := ⟨RX7, "<init>", "(LSecondTry$Kinds;LSecondTry$Judge;LSecondTry$Clerk;)V"⟩
abbrev cX7_prepare : ByteArray := prog_9_method_2_code
def yX7_prepare : MethodName := ⟨RX7, "prepare", "(LSecondTry$Town;III)V"⟩
abbrev cX7_soonestWay : ByteArray := prog_9_method_3_code
def yX7_soonestWay : MethodName := ⟨RX7, "soonestWay", "(I)I"⟩
abbrev cX7_findCheapest : ByteArray := prog_9_method_4_code
def yX7_findCheapest : MethodName := ⟨RX7, "findCheapest", "(LSecondTry$Town;II)V"⟩
abbrev cX7_askVoids : ByteArray := prog_9_method_5_code
def yX7_askVoids : MethodName := ⟨RX7, "askVoids", "(LSecondTry$Town;II)V"⟩
abbrev cX7_toPlaces : ByteArray := prog_9_method_6_code
def yX7_toPlaces : MethodName := ⟨RX7, "toPlaces", "(I)I"⟩
abbrev cX7_lackedPlaces : ByteArray := prog_9_method_7_code
def yX7_lackedPlaces : MethodName := ⟨RX7, "lackedPlaces", "(LSecondTry$Town;II)I"⟩
abbrev cX7_leastPrice : ByteArray := prog_9_method_8_code
def yX7_leastPrice : MethodName := ⟨RX7, "leastPrice", "(LSecondTry$Town;II)I"⟩
abbrev cX7_tryGoes : ByteArray := prog_9_method_9_code
def yX7_tryGoes : MethodName := ⟨RX7, "tryGoes", "(IIIII)V"⟩
abbrev cX7_bestWay : ByteArray := prog_9_method_10_code
def yX7_bestWay : MethodName := ⟨RX7, "bestWay", "(III)I"⟩
abbrev cX7_extraAt : ByteArray := prog_9_method_11_code
def yX7_extraAt : MethodName := ⟨RX7, "extraAt", "(II)I"⟩
abbrev cX7_wouldCount : ByteArray := prog_9_method_12_code
def yX7_wouldCount : MethodName := ⟨RX7, "wouldCount", "(II)Z"⟩
def RX8 : String := "SecondTry$Stranger"
def TX8 : u_T := fun k => match k with
  | 0 => ("SecondTry$Stranger", "kinds", "LSecondTry$Kinds;", true)
  | 1 => ("SecondTry$Stranger", "judge", "LSecondTry$Judge;", true)
  | 2 => ("SecondTry$Stranger", "row", "[I", true)
  | 3 => ("SecondTry$Stranger", "alikes", "[I", true)
  | 4 => ("SecondTry$Stranger", "places", "[I", true)
  | 5 => ("SecondTry$Stranger", "outcomes", "[I", true)
  | 6 => ("SecondTry$Stranger", "now", "[I", true)
  | 7 => ("SecondTry$Stranger", "nextCounts", "[I", true)
  | 8 => ("SecondTry$Stranger", "size", "I", false)
  | 9 => ("SecondTry$Stranger", "triesTold", "I", false)
  | 10 => ("SecondTry$Stranger", "fitting", "I", false)
  | _ => ("SecondTry$Stranger", "first", "I", false)
def tyX8 : Nat → FieldType := fun k => match k with
  | 0 => .object "SecondTry$Kinds"
  | 1 => .object "SecondTry$Judge"
  | 2 => .array .int
  | 3 => .array .int
  | 4 => .array .int
  | 5 => .array .int
  | 6 => .array .int
  | 7 => .array .int
  | 8 => .int
  | 9 => .int
  | 10 => .int
  | _ => .int
abbrev wsX80 : List Cond := u_ws RX8 TX8 12
theorem nmX8 : ∀ a, a < 12 → ∀ b, b < 12 → a ≠ b → (TX8 a).2.1 ≠ (TX8 b).2.1 := by decide +kernel
theorem tyX8_ok : ∀ k, k < 12 → parseFieldDescriptor (TX8 k).2.2.1 = some (tyX8 k) := by decide +kernel
abbrev cX8_init : ByteArray := prog_10_method_1_code
def yX8_init : MethodName := ⟨RX8, "<init>", "(LSecondTry$Kinds;LSecondTry$Judge;)V"⟩
abbrev cX8_read : ByteArray := prog_10_method_2_code
def yX8_read : MethodName := ⟨RX8, "read", "(LSecondTry$Tape;II)Z"⟩
abbrev cX8_goThrough : ByteArray := prog_10_method_3_code
def yX8_goThrough : MethodName := ⟨RX8, "goThrough", "(II)V"⟩
abbrev cX8_tellingPlace : ByteArray := prog_10_method_4_code
def yX8_tellingPlace : MethodName := ⟨RX8, "tellingPlace", "()I"⟩
abbrev cX8_greaterPart : ByteArray := prog_10_method_5_code
def yX8_greaterPart : MethodName := ⟨RX8, "greaterPart", "(I)I"⟩
abbrev cX8_fits : ByteArray := prog_10_method_6_code
def yX8_fits : MethodName := ⟨RX8, "fits", "(II)Z"⟩
abbrev cX8_old : ByteArray := prog_10_method_7_code
def yX8_old : MethodName := ⟨RX8, "old", "(I)I"⟩
def RX9 : String := "SecondTry$Tape"
def TX9 : u_T := fun k => match k with
  | 0 => ("SecondTry$Tape", "bytes", "[I", true)
  | 1 => ("SecondTry$Tape", "size", "I", false)
  | 2 => ("SecondTry$Tape", "textSize", "I", false)
  | 3 => ("SecondTry$Tape", "place", "I", false)
  | _ => ("SecondTry$Tape", "fault", "I", false)
def tyX9 : Nat → FieldType := fun k => match k with
  | 0 => .array .int
  | 1 => .int
  | 2 => .int
  | 3 => .int
  | _ => .int
abbrev wsX90 : List Cond := u_ws RX9 TX9 5
theorem nmX9 : ∀ a, a < 5 → ∀ b, b < 5 → a ≠ b → (TX9 a).2.1 ≠ (TX9 b).2.1 := by decide +kernel
theorem tyX9_ok : ∀ k, k < 5 → parseFieldDescriptor (TX9 k).2.2.1 = some (tyX9 k) := by decide +kernel
abbrev cX9_init : ByteArray := prog_11_method_1_code
def yX9_init : MethodName := ⟨RX9, "<init>", "()V"⟩
abbrev cX9_put : ByteArray := prog_11_method_2_code
def yX9_put : MethodName := ⟨RX9, "put", "(I)V"⟩
abbrev cX9_at : ByteArray := prog_11_method_3_code
def yX9_at : MethodName := ⟨RX9, "at", "(I)I"⟩
abbrev cX9_word : ByteArray := prog_11_method_4_code
def yX9_word : MethodName := ⟨RX9, "word", "(I)I"⟩
abbrev cX9_clear : ByteArray := prog_11_method_5_code
def yX9_clear : MethodName := ⟨RX9, "clear", "()V"⟩
abbrev cX9_openText : ByteArray := prog_11_method_6_code
def yX9_openText : MethodName := ⟨RX9, "openText", "(I)V"⟩
abbrev cX9_sign : ByteArray := prog_11_method_7_code
def yX9_sign : MethodName := ⟨RX9, "sign", "()I"⟩
abbrev cX9_digit : ByteArray := prog_11_method_8_code
def yX9_digit : MethodName := ⟨RX9, "digit", "()I"⟩
abbrev cX9_takes : ByteArray := prog_11_method_9_code
def yX9_takes : MethodName := ⟨RX9, "takes", "(I)Z"⟩
abbrev cX9_mustTake : ByteArray := prog_11_method_10_code
def yX9_mustTake : MethodName := ⟨RX9, "mustTake", "(I)Z"⟩
abbrev cX9_mustEnd : ByteArray := prog_11_method_11_code
def yX9_mustEnd : MethodName := ⟨RX9, "mustEnd", "()Z"⟩
abbrev cX9_fails : ByteArray := prog_11_method_12_code
def yX9_fails : MethodName := ⟨RX9, "fails", "(II)Z"⟩
def RX10 : String := "SecondTry$Town"
def TX10 : u_T := fun k => match k with
  | 0 => ("SecondTry$Town", "coins", "[I", true)
  | 1 => ("SecondTry$Town", "tries", "[I", true)
  | 2 => ("SecondTry$Town", "last", "[I", true)
  | 3 => ("SecondTry$Town", "counted", "[I", true)
  | 4 => ("SecondTry$Town", "stepKinds", "[I", true)
  | 5 => ("SecondTry$Town", "stepWith", "[I", true)
  | 6 => ("SecondTry$Town", "steps", "[I", true)
  | 7 => ("SecondTry$Town", "done", "[I", true)
  | 8 => ("SecondTry$Town", "people", "I", false)
  | _ => ("SecondTry$Town", "day", "I", false)
def tyX10 : Nat → FieldType := fun k => match k with
  | 0 => .array .int
  | 1 => .array .int
  | 2 => .array .int
  | 3 => .array .int
  | 4 => .array .int
  | 5 => .array .int
  | 6 => .array .int
  | 7 => .array .int
  | 8 => .int
  | _ => .int
abbrev wsX100 : List Cond := u_ws RX10 TX10 10
theorem nmX10 : ∀ a, a < 10 → ∀ b, b < 10 → a ≠ b → (TX10 a).2.1 ≠ (TX10 b).2.1 := by decide +kernel
theorem tyX10_ok : ∀ k, k < 10 → parseFieldDescriptor (TX10 k).2.2.1 = some (tyX10 k) := by decide +kernel
abbrev cX10_init : ByteArray := prog_12_method_1_code
def yX10_init : MethodName := ⟨RX10, "<init>", "()V"⟩
abbrev cX10_copy : ByteArray := prog_12_method_2_code
def yX10_copy : MethodName := ⟨RX10, "copy", "(LSecondTry$Town;)V"⟩
abbrev cX10_knows : ByteArray := prog_12_method_3_code
def yX10_knows : MethodName := ⟨RX10, "knows", "(I)Z"⟩
abbrev cX10_knowsAll : ByteArray := prog_12_method_4_code
def yX10_knowsAll : MethodName := ⟨RX10, "knowsAll", "(I)Z"⟩
abbrev cX10_takePlan : ByteArray := prog_12_method_5_code
def yX10_takePlan : MethodName := ⟨RX10, "takePlan", "(ILSecondTry$PlanReader;)V"⟩
abbrev cX10_stepsLeft : ByteArray := prog_12_method_6_code
def yX10_stepsLeft : MethodName := ⟨RX10, "stepsLeft", "(I)I"⟩
abbrev cX10_sumOf : ByteArray := prog_12_method_7_code
def yX10_sumOf : MethodName := ⟨RX10, "sumOf", "([II)I"⟩
abbrev cX10_triesAmong : ByteArray := prog_12_method_8_code
def yX10_triesAmong : MethodName := ⟨RX10, "triesAmong", "(II)I"⟩
abbrev cX10_triesByAll : ByteArray := prog_12_method_9_code
def yX10_triesByAll : MethodName := ⟨RX10, "triesByAll", "(I)I"⟩
abbrev cX10_addTry : ByteArray := prog_12_method_10_code
def yX10_addTry : MethodName := ⟨RX10, "addTry", "(II)V"⟩
abbrev cX10_addCounted : ByteArray := prog_12_method_11_code
def yX10_addCounted : MethodName := ⟨RX10, "addCounted", "(II)V"⟩
abbrev cX10_hasCounted : ByteArray := prog_12_method_12_code
def yX10_hasCounted : MethodName := ⟨RX10, "hasCounted", "(II)Z"⟩
def RX11 : String := "SecondTry"
def TX11 : u_T := fun k => match k with
  | 0 => ("SecondTry", "tape", "LSecondTry$Tape;", true)
  | 1 => ("SecondTry", "kinds", "LSecondTry$Kinds;", true)
  | 2 => ("SecondTry", "town", "LSecondTry$Town;", true)
  | 3 => ("SecondTry", "keptTown", "LSecondTry$Town;", true)
  | 4 => ("SecondTry", "triedTown", "LSecondTry$Town;", true)
  | 5 => ("SecondTry", "judge", "LSecondTry$Judge;", true)
  | 6 => ("SecondTry", "clerk", "LSecondTry$Clerk;", true)
  | 7 => ("SecondTry", "lawReader", "LSecondTry$LawReader;", true)
  | 8 => ("SecondTry", "planReader", "LSecondTry$PlanReader;", true)
  | 9 => ("SecondTry", "search", "LSecondTry$Search;", true)
  | 10 => ("SecondTry", "parting", "LSecondTry$Parting;", true)
  | 11 => ("SecondTry", "stranger", "LSecondTry$Stranger;", true)
  | _ => ("SecondTry", "isKept", "Z", false)
def tyX11 : Nat → FieldType := fun k => match k with
  | 0 => .object "SecondTry$Tape"
  | 1 => .object "SecondTry$Kinds"
  | 2 => .object "SecondTry$Town"
  | 3 => .object "SecondTry$Town"
  | 4 => .object "SecondTry$Town"
  | 5 => .object "SecondTry$Judge"
  | 6 => .object "SecondTry$Clerk"
  | 7 => .object "SecondTry$LawReader"
  | 8 => .object "SecondTry$PlanReader"
  | 9 => .object "SecondTry$Search"
  | 10 => .object "SecondTry$Parting"
  | 11 => .object "SecondTry$Stranger"
  | _ => .boolean
abbrev wsX110 : List Cond := u_ws RX11 TX11 13
theorem nmX11 : ∀ a, a < 13 → ∀ b, b < 13 → a ≠ b → (TX11 a).2.1 ≠ (TX11 b).2.1 := by decide +kernel
theorem tyX11_ok : ∀ k, k < 13 → parseFieldDescriptor (TX11 k).2.2.1 = some (tyX11 k) := by decide +kernel
abbrev cX11_init : ByteArray := prog_1_method_1_code
def yX11_init : MethodName := ⟨RX11, "<init>", "()V"⟩
abbrev cX11_kind : ByteArray := prog_1_method_2_code
def yX11_kind : MethodName := ⟨RX11, "kind", "(IIII)Z"⟩
abbrev cX11_person : ByteArray := prog_1_method_3_code
def yX11_person : MethodName := ⟨RX11, "person", "(II)Z"⟩
abbrev cX11_feed : ByteArray := prog_1_method_4_code
def yX11_feed : MethodName := ⟨RX11, "feed", "(IIIII)I"⟩
abbrev cX11_law : ByteArray := prog_1_method_5_code
def yX11_law : MethodName := ⟨RX11, "law", "(I)I"⟩
abbrev cX11_plan : ByteArray := prog_1_method_6_code
def yX11_plan : MethodName := ⟨RX11, "plan", "(II)I"⟩
abbrev cX11_tries : ByteArray := prog_1_method_7_code
def yX11_tries : MethodName := ⟨RX11, "tries", "(III)I"⟩
abbrev cX11_buys : ByteArray := prog_1_method_8_code
def yX11_buys : MethodName := ⟨RX11, "buys", "(III)I"⟩
abbrev cX11_days : ByteArray := prog_1_method_9_code
def yX11_days : MethodName := ⟨RX11, "days", "(I)I"⟩
abbrev cX11_tried : ByteArray := prog_1_method_10_code
def yX11_tried : MethodName := ⟨RX11, "tried", "(II)I"⟩
abbrev cX11_has : ByteArray := prog_1_method_11_code
def yX11_has : MethodName := ⟨RX11, "has", "(III)I"⟩
abbrev cX11_alike : ByteArray := prog_1_method_12_code
def yX11_alike : MethodName := ⟨RX11, "alike", "(II)I"⟩
abbrev cX11_cost : ByteArray := prog_1_method_13_code
def yX11_cost : MethodName := ⟨RX11, "cost", "(III)I"⟩
abbrev cX11_soonest : ByteArray := prog_1_method_14_code
def yX11_soonest : MethodName := ⟨RX11, "soonest", "(IIIII)I"⟩
abbrev cX11_cheapest : ByteArray := prog_1_method_15_code
def yX11_cheapest : MethodName := ⟨RX11, "cheapest", "(IIIII)I"⟩
abbrev cX11_loophole : ByteArray := prog_1_method_16_code
def yX11_loophole : MethodName := ⟨RX11, "loophole", "(III)I"⟩
abbrev cX11_jobs : ByteArray := prog_1_method_17_code
def yX11_jobs : MethodName := ⟨RX11, "jobs", "(III)I"⟩
abbrev cX11_rivals : ByteArray := prog_1_method_18_code
def yX11_rivals : MethodName := ⟨RX11, "rivals", "(III)I"⟩
abbrev cX11_histories : ByteArray := prog_1_method_19_code
def yX11_histories : MethodName := ⟨RX11, "histories", "(IIII)I"⟩
abbrev cX11_game : ByteArray := prog_1_method_20_code
def yX11_game : MethodName := ⟨RX11, "game", "(IIIZZI)I"⟩
abbrev cX11_court : ByteArray := prog_1_method_21_code
def yX11_court : MethodName := ⟨RX11, "court", "(IIIIII)I"⟩
abbrev cX11_keep : ByteArray := prog_1_method_22_code
def yX11_keep : MethodName := ⟨RX11, "keep", "()I"⟩
abbrev cX11_undo : ByteArray := prog_1_method_23_code
def yX11_undo : MethodName := ⟨RX11, "undo", "()Z"⟩
abbrev cX11_check : ByteArray := prog_1_method_24_code
def yX11_check : MethodName := ⟨RX11, "check", "(II)I"⟩
abbrev cX11_count : ByteArray := prog_1_method_25_code
def yX11_count : MethodName := ⟨RX11, "count", "(I)I"⟩
abbrev cX11_countOfKind : ByteArray := prog_1_method_26_code
def yX11_countOfKind : MethodName := ⟨RX11, "countOfKind", "(I)I"⟩
abbrev cX11_countOfPerson : ByteArray := prog_1_method_27_code
def yX11_countOfPerson : MethodName := ⟨RX11, "countOfPerson", "(I)I"⟩
abbrev cX11_canDeal : ByteArray := prog_1_method_28_code
def yX11_canDeal : MethodName := ⟨RX11, "canDeal", "(III)Z"⟩
abbrev cX11_canChoose : ByteArray := prog_1_method_29_code
def yX11_canChoose : MethodName := ⟨RX11, "canChoose", "(III)Z"⟩
abbrev cX11_isSettled : ByteArray := prog_1_method_30_code
def yX11_isSettled : MethodName := ⟨RX11, "isSettled", "(III)Z"⟩
abbrev cX11_pence : ByteArray := prog_1_method_31_code
def yX11_pence : MethodName := ⟨RX11, "pence", "(IIII)I"⟩
abbrev cX11_isHeap : ByteArray := prog_1_method_32_code
def yX11_isHeap : MethodName := ⟨RX11, "isHeap", "(I)Z"⟩
abbrev cX11_bestMove : ByteArray := prog_1_method_33_code
def yX11_bestMove : MethodName := ⟨RX11, "bestMove", "(IZZ)I"⟩
abbrev cX11_nextOneWins : ByteArray := prog_1_method_34_code
def yX11_nextOneWins : MethodName := ⟨RX11, "nextOneWins", "(IZ)Z"⟩
def RX12 : String := "SecondTryModel"
def TX12 : u_T := fun k => match k with
  | 0 => ("SecondTryModel", "now", "[I", true)
  | 1 => ("SecondTryModel", "aside", "[I", true)
  | 2 => ("SecondTryModel", "kept", "[I", true)
  | 3 => ("SecondTryModel", "hoursOf", "[I", true)
  | 4 => ("SecondTryModel", "marksOf", "[I", true)
  | 5 => ("SecondTryModel", "needsOf", "[I", true)
  | 6 => ("SecondTryModel", "kinds0", "I", false)
  | 7 => ("SecondTryModel", "tape", "[B", true)
  | 8 => ("SecondTryModel", "taped", "I", false)
  | 9 => ("SecondTryModel", "place0", "I", false)
  | 10 => ("SecondTryModel", "length0", "I", false)
  | 11 => ("SecondTryModel", "fault", "I", false)
  | 12 => ("SecondTryModel", "number0", "I", false)
  | 13 => ("SecondTryModel", "open", "I", false)
  | 14 => ("SecondTryModel", "codeMany", "I", false)
  | 15 => ("SecondTryModel", "waiting", "I", false)
  | 16 => ("SecondTryModel", "saidMany", "I", false)
  | 17 => ("SecondTryModel", "clauses", "I", false)
  | 18 => ("SecondTryModel", "said", "[I", true)
  | 19 => ("SecondTryModel", "waitsAt", "[I", true)
  | 20 => ("SecondTryModel", "saidLetter", "[I", true)
  | 21 => ("SecondTryModel", "saidFrom", "[I", true)
  | 22 => ("SecondTryModel", "saidHalf", "[I", true)
  | 23 => ("SecondTryModel", "saidTo", "[I", true)
  | 24 => ("SecondTryModel", "codes", "[I", true)
  | 25 => ("SecondTryModel", "clauseOf", "[I", true)
  | 26 => ("SecondTryModel", "codeFrom", "[I", true)
  | 27 => ("SecondTryModel", "codeHalf", "[I", true)
  | 28 => ("SecondTryModel", "codeTo", "[I", true)
  | 29 => ("SecondTryModel", "stack", "[I", true)
  | 30 => ("SecondTryModel", "facts", "[I", true)
  | 31 => ("SecondTryModel", "newKind", "[I", true)
  | 32 => ("SecondTryModel", "newWith", "[I", true)
  | 33 => ("SecondTryModel", "roundFrom", "[I", true)
  | 34 => ("SecondTryModel", "roundAt", "[I", true)
  | 35 => ("SecondTryModel", "newMany", "I", false)
  | 36 => ("SecondTryModel", "rounds", "I", false)
  | 37 => ("SecondTryModel", "triesMade", "I", false)
  | 38 => ("SecondTryModel", "triesCounted", "I", false)
  | 39 => ("SecondTryModel", "hoursSpent", "I", false)
  | 40 => ("SecondTryModel", "stallDay", "I", false)
  | 41 => ("SecondTryModel", "stallPerson", "I", false)
  | 42 => ("SecondTryModel", "stallKind", "I", false)
  | 43 => ("SecondTryModel", "ownMany", "I", false)
  | 44 => ("SecondTryModel", "soonPerson", "I", false)
  | 45 => ("SecondTryModel", "wayMade", "[I", true)
  | 46 => ("SecondTryModel", "wayGoes", "[I", true)
  | 47 => ("SecondTryModel", "wayCounted", "[I", true)
  | 48 => ("SecondTryModel", "ownKind", "[I", true)
  | 49 => ("SecondTryModel", "oldBase", "[I", true)
  | 50 => ("SecondTryModel", "likeSet", "[I", true)
  | 51 => ("SecondTryModel", "wayNow", "[I", true)
  | 52 => ("SecondTryModel", "priceOf", "[I", true)
  | 53 => ("SecondTryModel", "canStand", "[Z", true)
  | 54 => ("SecondTryModel", "jobKind", "[I", true)
  | 55 => ("SecondTryModel", "jobPerson", "[I", true)
  | 56 => ("SecondTryModel", "likeAll", "[I", true)
  | 57 => ("SecondTryModel", "moreTries", "[I", true)
  | 58 => ("SecondTryModel", "moreCounted", "[I", true)
  | 59 => ("SecondTryModel", "jobMany", "I", false)
  | 60 => ("SecondTryModel", "workers", "I", false)
  | 61 => ("SecondTryModel", "pastMany", "I", false)
  | 62 => ("SecondTryModel", "pastKind", "[I", true)
  | 63 => ("SecondTryModel", "pastLike", "[I", true)
  | 64 => ("SecondTryModel", "pastTries", "[I", true)
  | 65 => ("SecondTryModel", "pastFits", "[Z", true)
  | 66 => ("SecondTryModel", "winsAt", "[Z", true)
  | _ => ("SecondTryModel", "isKept", "Z", false)
def tyX12 : Nat → FieldType := fun k => match k with
  | 0 => .array .int
  | 1 => .array .int
  | 2 => .array .int
  | 3 => .array .int
  | 4 => .array .int
  | 5 => .array .int
  | 6 => .int
  | 7 => .array .byte
  | 8 => .int
  | 9 => .int
  | 10 => .int
  | 11 => .int
  | 12 => .int
  | 13 => .int
  | 14 => .int
  | 15 => .int
  | 16 => .int
  | 17 => .int
  | 18 => .array .int
  | 19 => .array .int
  | 20 => .array .int
  | 21 => .array .int
  | 22 => .array .int
  | 23 => .array .int
  | 24 => .array .int
  | 25 => .array .int
  | 26 => .array .int
  | 27 => .array .int
  | 28 => .array .int
  | 29 => .array .int
  | 30 => .array .int
  | 31 => .array .int
  | 32 => .array .int
  | 33 => .array .int
  | 34 => .array .int
  | 35 => .int
  | 36 => .int
  | 37 => .int
  | 38 => .int
  | 39 => .int
  | 40 => .int
  | 41 => .int
  | 42 => .int
  | 43 => .int
  | 44 => .int
  | 45 => .array .int
  | 46 => .array .int
  | 47 => .array .int
  | 48 => .array .int
  | 49 => .array .int
  | 50 => .array .int
  | 51 => .array .int
  | 52 => .array .int
  | 53 => .array .boolean
  | 54 => .array .int
  | 55 => .array .int
  | 56 => .array .int
  | 57 => .array .int
  | 58 => .array .int
  | 59 => .int
  | 60 => .int
  | 61 => .int
  | 62 => .array .int
  | 63 => .array .int
  | 64 => .array .int
  | 65 => .array .boolean
  | 66 => .array .boolean
  | _ => .boolean
abbrev wsX120 : List Cond := u_ws RX12 TX12 68
theorem nmX12 : ∀ a, a < 68 → ∀ b, b < 68 → a ≠ b → (TX12 a).2.1 ≠ (TX12 b).2.1 := by decide +kernel
theorem tyX12_ok : ∀ k, k < 68 → parseFieldDescriptor (TX12 k).2.2.1 = some (tyX12 k) := by decide +kernel
abbrev cX12_init : ByteArray := prog_14_method_1_code
def yX12_init : MethodName := ⟨RX12, "<init>", "()V"⟩
abbrev cX12_in : ByteArray := prog_14_method_2_code
def yX12_in : MethodName := ⟨RX12, "in", "(III)Z"⟩
abbrev cX12_min : ByteArray := prog_14_method_3_code
def yX12_min : MethodName := ⟨RX12, "min", "(II)I"⟩
abbrev cX12_max : ByteArray := prog_14_method_4_code
def yX12_max : MethodName := ⟨RX12, "max", "(II)I"⟩
abbrev cX12_has0 : ByteArray := prog_14_method_5_code
def yX12_has0 : MethodName := ⟨RX12, "has0", "(II)Z"⟩
abbrev cX12_bits : ByteArray := prog_14_method_6_code
def yX12_bits : MethodName := ⟨RX12, "bits", "(I)I"⟩
abbrev cX12_copies : ByteArray := prog_14_method_7_code
def yX12_copies : MethodName := ⟨RX12, "copies", "([I[I)V"⟩
abbrev cX12_isKind : ByteArray := prog_14_method_8_code
def yX12_isKind : MethodName := ⟨RX12, "isKind", "(I)Z"⟩
abbrev cX12_isPerson : ByteArray := prog_14_method_9_code
def yX12_isPerson : MethodName := ⟨RX12, "isPerson", "(I)Z"⟩
abbrev cX12_at : ByteArray := prog_14_method_10_code
def yX12_at : MethodName := ⟨RX12, "at", "(II)I"⟩
abbrev cX12_kind : ByteArray := prog_14_method_11_code
def yX12_kind : MethodName := ⟨RX12, "kind", "(IIII)Z"⟩
abbrev cX12_person : ByteArray := prog_14_method_12_code
def yX12_person : MethodName := ⟨RX12, "person", "(II)Z"⟩
abbrev cX12_types : ByteArray := prog_14_method_13_code
def yX12_types : MethodName := ⟨RX12, "types", "(I)V"⟩
abbrev cX12_feed : ByteArray := prog_14_method_14_code
def yX12_feed : MethodName := ⟨RX12, "feed", "(IIIII)I"⟩
abbrev cX12_here : ByteArray := prog_14_method_15_code
def yX12_here : MethodName := ⟨RX12, "here", "()I"⟩
abbrev cX12_isDigit : ByteArray := prog_14_method_16_code
def yX12_isDigit : MethodName := ⟨RX12, "isDigit", "()Z"⟩
abbrev cX12_wrongAt : ByteArray := prog_14_method_17_code
def yX12_wrongAt : MethodName := ⟨RX12, "wrongAt", "(II)Z"⟩
abbrev cX12_takes : ByteArray := prog_14_method_18_code
def yX12_takes : MethodName := ⟨RX12, "takes", "(I)Z"⟩
abbrev cX12_readsNumber : ByteArray := prog_14_method_19_code
def yX12_readsNumber : MethodName := ⟨RX12, "readsNumber", "()Z"⟩
abbrev cX12_notes : ByteArray := prog_14_method_20_code
def yX12_notes : MethodName := ⟨RX12, "notes", "(II)V"⟩
abbrev cX12_opens : ByteArray := prog_14_method_21_code
def yX12_opens : MethodName := ⟨RX12, "opens", "(I)Z"⟩
abbrev cX12_waitTop : ByteArray := prog_14_method_22_code
def yX12_waitTop : MethodName := ⟨RX12, "waitTop", "()I"⟩
abbrev cX12_factOf : ByteArray := prog_14_method_23_code
def yX12_factOf : MethodName := ⟨RX12, "factOf", "(I)I"⟩
abbrev cX12_sumSign : ByteArray := prog_14_method_24_code
def yX12_sumSign : MethodName := ⟨RX12, "sumSign", "(I)I"⟩
abbrev cX12_closesSums : ByteArray := prog_14_method_25_code
def yX12_closesSums : MethodName := ⟨RX12, "closesSums", "(Z)V"⟩
abbrev cX12_readsFactor : ByteArray := prog_14_method_26_code
def yX12_readsFactor : MethodName := ⟨RX12, "readsFactor", "()Z"⟩
abbrev cX12_hasOpenSum : ByteArray := prog_14_method_27_code
def yX12_hasOpenSum : MethodName := ⟨RX12, "hasOpenSum", "(I)Z"⟩
abbrev cX12_readsSum : ByteArray := prog_14_method_28_code
def yX12_readsSum : MethodName := ⟨RX12, "readsSum", "()Z"⟩
abbrev cX12_endsPiece : ByteArray := prog_14_method_29_code
def yX12_endsPiece : MethodName := ⟨RX12, "endsPiece", "()V"⟩
abbrev cX12_lands : ByteArray := prog_14_method_30_code
def yX12_lands : MethodName := ⟨RX12, "lands", "(Z)V"⟩
abbrev cX12_jumps : ByteArray := prog_14_method_31_code
def yX12_jumps : MethodName := ⟨RX12, "jumps", "(I)V"⟩
abbrev cX12_readsCompared : ByteArray := prog_14_method_32_code
def yX12_readsCompared : MethodName := ⟨RX12, "readsCompared", "()Z"⟩
abbrev cX12_readsCondition : ByteArray := prog_14_method_33_code
def yX12_readsCondition : MethodName := ⟨RX12, "readsCondition", "()Z"⟩
abbrev cX12_isClause : ByteArray := prog_14_method_34_code
def yX12_isClause : MethodName := ⟨RX12, "isClause", "(I)Z"⟩
abbrev cX12_readsClause : ByteArray := prog_14_method_35_code
def yX12_readsClause : MethodName := ⟨RX12, "readsClause", "()Z"⟩
abbrev cX12_law : ByteArray := prog_14_method_36_code
def yX12_law : MethodName := ⟨RX12, "law", "(I)I"⟩
abbrev cX12_reckon : ByteArray := prog_14_method_37_code
def yX12_reckon : MethodName := ⟨RX12, "reckon", "(III)I"⟩
abbrev cX12_comesTo : ByteArray := prog_14_method_38_code
def yX12_comesTo : MethodName := ⟨RX12, "comesTo", "(II)I"⟩
abbrev cX12_byLaw : ByteArray := prog_14_method_39_code
def yX12_byLaw : MethodName := ⟨RX12, "byLaw", "(III)I"⟩
abbrev cX12_feelsKind : ByteArray := prog_14_method_40_code
def yX12_feelsKind : MethodName := ⟨RX12, "feelsKind", "(I)V"⟩
abbrev cX12_isLike : ByteArray := prog_14_method_41_code
def yX12_isLike : MethodName := ⟨RX12, "isLike", "(II)Z"⟩
abbrev cX12_alike : ByteArray := prog_14_method_42_code
def yX12_alike : MethodName := ⟨RX12, "alike", "(II)I"⟩
abbrev cX12_allTries : ByteArray := prog_14_method_43_code
def yX12_allTries : MethodName := ⟨RX12, "allTries", "(I)I"⟩
abbrev cX12_feels : ByteArray := prog_14_method_44_code
def yX12_feels : MethodName := ⟨RX12, "feels", "(III)V"⟩
abbrev cX12_forgets : ByteArray := prog_14_method_45_code
def yX12_forgets : MethodName := ⟨RX12, "forgets", "(II)V"⟩
abbrev cX12_oldOnes : ByteArray := prog_14_method_46_code
def yX12_oldOnes : MethodName := ⟨RX12, "oldOnes", "(II)I"⟩
abbrev cX12_voidFor : ByteArray := prog_14_method_47_code
def yX12_voidFor : MethodName := ⟨RX12, "voidFor", "(III)I"⟩
abbrev cX12_hasNeeds : ByteArray := prog_14_method_48_code
def yX12_hasNeeds : MethodName := ⟨RX12, "hasNeeds", "(II)Z"⟩
abbrev cX12_triesNow : ByteArray := prog_14_method_49_code
def yX12_triesNow : MethodName := ⟨RX12, "triesNow", "(III)I"⟩
abbrev cX12_tries : ByteArray := prog_14_method_50_code
def yX12_tries : MethodName := ⟨RX12, "tries", "(III)I"⟩
abbrev cX12_costOf : ByteArray := prog_14_method_51_code
def yX12_costOf : MethodName := ⟨RX12, "costOf", "(III)I"⟩
abbrev cX12_cost : ByteArray := prog_14_method_52_code
def yX12_cost : MethodName := ⟨RX12, "cost", "(III)I"⟩
abbrev cX12_buys : ByteArray := prog_14_method_53_code
def yX12_buys : MethodName := ⟨RX12, "buys", "(III)I"⟩
abbrev cX12_has : ByteArray := prog_14_method_54_code
def yX12_has : MethodName := ⟨RX12, "has", "(III)I"⟩
abbrev cX12_readsStep : ByteArray := prog_14_method_55_code
def yX12_readsStep : MethodName := ⟨RX12, "readsStep", "()Z"⟩
abbrev cX12_endsRound : ByteArray := prog_14_method_56_code
def yX12_endsRound : MethodName := ⟨RX12, "endsRound", "()Z"⟩
abbrev cX12_plan : ByteArray := prog_14_method_57_code
def yX12_plan : MethodName := ⟨RX12, "plan", "(II)I"⟩
abbrev cX12_notesTry : ByteArray := prog_14_method_58_code
def yX12_notesTry : MethodName := ⟨RX12, "notesTry", "(III)V"⟩
abbrev cX12_dayOf : ByteArray := prog_14_method_59_code
def yX12_dayOf : MethodName := ⟨RX12, "dayOf", "(I)V"⟩
abbrev cX12_daysGo : ByteArray := prog_14_method_60_code
def yX12_daysGo : MethodName := ⟨RX12, "daysGo", "(I)V"⟩
abbrev cX12_days : ByteArray := prog_14_method_61_code
def yX12_days : MethodName := ⟨RX12, "days", "(I)I"⟩
abbrev cX12_tried : ByteArray := prog_14_method_62_code
def yX12_tried : MethodName := ⟨RX12, "tried", "(II)I"⟩
abbrev cX12_laysWays : ByteArray := prog_14_method_63_code
def yX12_laysWays : MethodName := ⟨RX12, "laysWays", "()V"⟩
abbrev cX12_wayWith : ByteArray := prog_14_method_64_code
def yX12_wayWith : MethodName := ⟨RX12, "wayWith", "(III)I"⟩
abbrev cX12_laysOwn : ByteArray := prog_14_method_65_code
def yX12_laysOwn : MethodName := ⟨RX12, "laysOwn", "(II)V"⟩
abbrev cX12_takesState : ByteArray := prog_14_method_66_code
def yX12_takesState : MethodName := ⟨RX12, "takesState", "(I)V"⟩
abbrev cX12_stateNow : ByteArray := prog_14_method_67_code
def yX12_stateNow : MethodName := ⟨RX12, "stateNow", "()I"⟩
abbrev cX12_areCounted : ByteArray := prog_14_method_68_code
def yX12_areCounted : MethodName := ⟨RX12, "areCounted", "(I)Z"⟩
abbrev cX12_wouldCount : ByteArray := prog_14_method_69_code
def yX12_wouldCount : MethodName := ⟨RX12, "wouldCount", "(I)Z"⟩
abbrev cX12_goesNow : ByteArray := prog_14_method_70_code
def yX12_goesNow : MethodName := ⟨RX12, "goesNow", "()I"⟩
abbrev cX12_hoursNow : ByteArray := prog_14_method_71_code
def yX12_hoursNow : MethodName := ⟨RX12, "hoursNow", "()I"⟩
abbrev cX12_madeNow : ByteArray := prog_14_method_72_code
def yX12_madeNow : MethodName := ⟨RX12, "madeNow", "()I"⟩
abbrev cX12_statesAll : ByteArray := prog_14_method_73_code
def yX12_statesAll : MethodName := ⟨RX12, "statesAll", "()I"⟩
abbrev cX12_marks : ByteArray := prog_14_method_74_code
def yX12_marks : MethodName := ⟨RX12, "marks", "(II)V"⟩
abbrev cX12_spreads : ByteArray := prog_14_method_75_code
def yX12_spreads : MethodName := ⟨RX12, "spreads", "(I)V"⟩
abbrev cX12_placeOf : ByteArray := prog_14_method_76_code
def yX12_placeOf : MethodName := ⟨RX12, "placeOf", "(I)I"⟩
abbrev cX12_areSome : ByteArray := prog_14_method_77_code
def yX12_areSome : MethodName := ⟨RX12, "areSome", "(III)Z"⟩
abbrev cX12_soonest : ByteArray := prog_14_method_78_code
def yX12_soonest : MethodName := ⟨RX12, "soonest", "(IIIII)I"⟩
abbrev cX12_leastPrice : ByteArray := prog_14_method_79_code
def yX12_leastPrice : MethodName := ⟨RX12, "leastPrice", "(II)I"⟩
abbrev cX12_marksBought : ByteArray := prog_14_method_80_code
def yX12_marksBought : MethodName := ⟨RX12, "marksBought", "(I)V"⟩
abbrev cX12_coinsNow : ByteArray := prog_14_method_81_code
def yX12_coinsNow : MethodName := ⟨RX12, "coinsNow", "()I"⟩
abbrev cX12_cheapest : ByteArray := prog_14_method_82_code
def yX12_cheapest : MethodName := ⟨RX12, "cheapest", "(IIIII)I"⟩
abbrev cX12_finds : ByteArray := prog_14_method_83_code
def yX12_finds : MethodName := ⟨RX12, "finds", "(II)Z"⟩
abbrev cX12_loophole : ByteArray := prog_14_method_84_code
def yX12_loophole : MethodName := ⟨RX12, "loophole", "(III)I"⟩
abbrev cX12_jobCounts : ByteArray := prog_14_method_85_code
def yX12_jobCounts : MethodName := ⟨RX12, "jobCounts", "(II)Z"⟩
abbrev cX12_jobNeeds : ByteArray := prog_14_method_86_code
def yX12_jobNeeds : MethodName := ⟨RX12, "jobNeeds", "(II)Z"⟩
abbrev cX12_hoursBy : ByteArray := prog_14_method_87_code
def yX12_hoursBy : MethodName := ⟨RX12, "hoursBy", "(II)I"⟩
abbrev cX12_whoDoes : ByteArray := prog_14_method_88_code
def yX12_whoDoes : MethodName := ⟨RX12, "whoDoes", "(II)I"⟩
abbrev cX12_longestBy : ByteArray := prog_14_method_89_code
def yX12_longestBy : MethodName := ⟨RX12, "longestBy", "(I)I"⟩
abbrev cX12_takesJobs : ByteArray := prog_14_method_90_code
def yX12_takesJobs : MethodName := ⟨RX12, "takesJobs", "(I)Z"⟩
abbrev cX12_jobs : ByteArray := prog_14_method_91_code
def yX12_jobs : MethodName := ⟨RX12, "jobs", "(III)I"⟩
abbrev cX12_gainOf : ByteArray := prog_14_method_92_code
def yX12_gainOf : MethodName := ⟨RX12, "gainOf", "(IIII)I"⟩
abbrev cX12_rivals : ByteArray := prog_14_method_93_code
def yX12_rivals : MethodName := ⟨RX12, "rivals", "(III)I"⟩
abbrev cX12_takesPast : ByteArray := prog_14_method_94_code
def yX12_takesPast : MethodName := ⟨RX12, "takesPast", "(II)Z"⟩
abbrev cX12_begins : ByteArray := prog_14_method_95_code
def yX12_begins : MethodName := ⟨RX12, "begins", "(I)V"⟩
abbrev cX12_pastCounts : ByteArray := prog_14_method_96_code
def yX12_pastCounts : MethodName := ⟨RX12, "pastCounts", "(II)Z"⟩
abbrev cX12_goesWith : ByteArray := prog_14_method_97_code
def yX12_goesWith : MethodName := ⟨RX12, "goesWith", "(III)Z"⟩
abbrev cX12_greaterBy : ByteArray := prog_14_method_98_code
def yX12_greaterBy : MethodName := ⟨RX12, "greaterBy", "(IIII)I"⟩
abbrev cX12_histories : ByteArray := prog_14_method_99_code
def yX12_histories : MethodName := ⟨RX12, "histories", "(IIII)I"⟩
abbrev cX12_heapIn : ByteArray := prog_14_method_100_code
def yX12_heapIn : MethodName := ⟨RX12, "heapIn", "(II)I"⟩
abbrev cX12_heapUnit : ByteArray := prog_14_method_101_code
def yX12_heapUnit : MethodName := ⟨RX12, "heapUnit", "(I)I"⟩
abbrev cX12_gameState : ByteArray := prog_14_method_102_code
def yX12_gameState : MethodName := ⟨RX12, "gameState", "(IZZ)I"⟩
abbrev cX12_wins : ByteArray := prog_14_method_103_code
def yX12_wins : MethodName := ⟨RX12, "wins", "(IZZII)Z"⟩
abbrev cX12_winningMove : ByteArray := prog_14_method_104_code
def yX12_winningMove : MethodName := ⟨RX12, "winningMove", "(IZZ)I"⟩
abbrev cX12_game : ByteArray := prog_14_method_105_code
def yX12_game : MethodName := ⟨RX12, "game", "(IIIZZI)I"⟩
abbrev cX12_court : ByteArray := prog_14_method_106_code
def yX12_court : MethodName := ⟨RX12, "court", "(IIIIII)I"⟩
abbrev cX12_keep : ByteArray := prog_14_method_107_code
def yX12_keep : MethodName := ⟨RX12, "keep", "()I"⟩
abbrev cX12_undo : ByteArray := prog_14_method_108_code
def yX12_undo : MethodName := ⟨RX12, "undo", "()Z"⟩
abbrev cX12_tapeNumber : ByteArray := prog_14_method_109_code
def yX12_tapeNumber : MethodName := ⟨RX12, "tapeNumber", "(I)I"⟩
abbrev cX12_check : ByteArray := prog_14_method_110_code
def yX12_check : MethodName := ⟨RX12, "check", "(II)I"⟩
abbrev cX12_sumOf : ByteArray := prog_14_method_111_code
def yX12_sumOf : MethodName := ⟨RX12, "sumOf", "(II)I"⟩
abbrev cX12_count : ByteArray := prog_14_method_112_code
def yX12_count : MethodName := ⟨RX12, "count", "(I)I"⟩
abbrev cJ6_bitCount_0f7a4 : ByteArray := prog_15_method_49_code
def yJ6_bitCount_0f7a4 : MethodName := ⟨RJ6, "bitCount", "(I)I"⟩
abbrev cJ9_max_7cf53 : ByteArray := prog_16_method_65_code
def yJ9_max_7cf53 : MethodName := ⟨RJ9, "max", "(II)I"⟩
abbrev cJ9_min_7cf53 : ByteArray := prog_16_method_69_code
def yJ9_min_7cf53 : MethodName := ⟨RJ9, "min", "(II)I"⟩
abbrev cJ7_fill_53178 : ByteArray := prog_18_method_103_code
def yJ7_fill_53178 : MethodName := ⟨RJ7, "fill", "([II)V"⟩
def RL : String := "SecondTryLaw"
abbrev cL_law : ByteArray := code
def yL_law : MethodName := ⟨RL, "law", "([I)Z"⟩
abbrev qMY : Type := MethodName × ByteArray × Nat × Option FieldType
abbrev zX0_init : qMY := (yX0_init, cX0_init, 3, none)
abbrev zJ7_fill_53178 : qMY := (yJ7_fill_53178, cJ7_fill_53178, 4, none)
abbrev zX1_tellDeed : qMY := (yX1_tellDeed, cX1_tellDeed, 5, none)
abbrev zX2_knows : qMY := (yX2_knows, cX2_knows, 2, (some .boolean))
abbrev zJ6_bitCount_0f7a4 : qMY := (yJ6_bitCount_0f7a4, cJ6_bitCount_0f7a4, 1, (some .int))
abbrev zX1_reckon : qMY := (yX1_reckon, cX1_reckon, 4, (some .int))
abbrev zX1_run : qMY := (yX1_run, cX1_run, 8, (some .int))
abbrev zX1_isAlike : qMY := (yX1_isAlike, cX1_isAlike, 3, (some .boolean))
abbrev zX1_alikes : qMY := (yX1_alikes, cX1_alikes, 5, (some .int))
abbrev zX10_triesByAll : qMY := (yX10_triesByAll, cX10_triesByAll, 4, (some .int))
abbrev zX1_tellTry : qMY := (yX1_tellTry, cX1_tellTry, 6, none)
abbrev zX0_tellAll : qMY := (yX0_tellAll, cX0_tellAll, 6, none)
abbrev zX1_amount : qMY := (yX1_amount, cX1_amount, 6, (some .int))
abbrev zX0_forget : qMY := (yX0_forget, cX0_forget, 7, none)
abbrev zX10_triesAmong : qMY := (yX10_triesAmong, cX10_triesAmong, 5, (some .int))
abbrev zX1_voidTries : qMY := (yX1_voidTries, cX1_voidTries, 1, (some .int))
abbrev zX10_addTry : qMY := (yX10_addTry, cX10_addTry, 4, none)
abbrev zX10_hasCounted : qMY := (yX10_hasCounted, cX10_hasCounted, 4, (some .boolean))
abbrev zX10_addCounted : qMY := (yX10_addCounted, cX10_addCounted, 4, none)
abbrev zX0_attempt : qMY := (yX0_attempt, cX0_attempt, 6, (some .int))
abbrev zX0_price : qMY := (yX0_price, cX0_price, 5, (some .int))
abbrev zX0_buyGo : qMY := (yX0_buyGo, cX0_buyGo, 6, (some .int))
abbrev zX10_knows : qMY := (yX10_knows, cX10_knows, 2, (some .boolean))
abbrev zX0_noteOutcome : qMY := (yX0_noteOutcome, cX0_noteOutcome, 5, none)
abbrev zX0_doSteps : qMY := (yX0_doSteps, cX0_doSteps, 7, none)
abbrev zX0_goDays : qMY := (yX0_goDays, cX0_goDays, 5, none)
abbrev zX0_cameOfDays : qMY := (yX0_cameOfDays, cX0_cameOfDays, 2, (some .int))
abbrev zX3_init : qMY := (yX3_init, cX3_init, 1, none)
abbrev zX1_init : qMY := (yX1_init, cX1_init, 2, none)
abbrev zX1_findsAlike : qMY := (yX1_findsAlike, cX1_findsAlike, 4, (some .boolean))
abbrev zX1_isLoophole : qMY := (yX1_isLoophole, cX1_isLoophole, 7, (some .boolean))
abbrev zX2_init : qMY := (yX2_init, cX2_init, 1, none)
abbrev zX2_knowsAll : qMY := (yX2_knowsAll, cX2_knowsAll, 2, (some .boolean))
abbrev zX2_tell : qMY := (yX2_tell, cX2_tell, 5, (some .boolean))
abbrev zX3_clear : qMY := (yX3_clear, cX3_clear, 1, none)
abbrev zX3_add : qMY := (yX3_add, cX3_add, 3, (some .int))
abbrev zX3_skipToHere : qMY := (yX3_skipToHere, cX3_skipToHere, 2, none)
abbrev zX3_addClause : qMY := (yX3_addClause, cX3_addClause, 4, none)
abbrev zX4_init : qMY := (yX4_init, cX4_init, 2, none)
abbrev zX9_openText : qMY := (yX9_openText, cX9_openText, 2, none)
abbrev zX9_sign : qMY := (yX9_sign, cX9_sign, 1, (some .int))
abbrev zX9_fails : qMY := (yX9_fails, cX9_fails, 3, (some .boolean))
abbrev zX4_opens : qMY := (yX4_opens, cX4_opens, 2, (some .boolean))
abbrev zX9_takes : qMY := (yX9_takes, cX9_takes, 2, (some .boolean))
abbrev zX9_mustTake : qMY := (yX9_mustTake, cX9_mustTake, 2, (some .boolean))
abbrev zX9_digit : qMY := (yX9_digit, cX9_digit, 2, (some .int))
abbrev zX4_readNumber : qMY := (yX4_readNumber, cX4_readNumber, 3, (some .boolean))
abbrev zX4_readProduct : qMY := (yX4_readProduct, cX4_readProduct, 5, (some .boolean))
abbrev zX4_readSum : qMY := (yX4_readSum, cX4_readSum, 5, (some .boolean))
abbrev zX4_readFactor : qMY := (yX4_readFactor, cX4_readFactor, 4, (some .boolean))
abbrev zX4_readPart : qMY := (yX4_readPart, cX4_readPart, 4, (some .boolean))
abbrev zX4_readPiece : qMY := (yX4_readPiece, cX4_readPiece, 4, (some .boolean))
abbrev zX4_readCondition : qMY := (yX4_readCondition, cX4_readCondition, 4, (some .boolean))
abbrev zX4_readClause : qMY := (yX4_readClause, cX4_readClause, 4, (some .boolean))
abbrev zX9_mustEnd : qMY := (yX9_mustEnd, cX9_mustEnd, 1, (some .boolean))
abbrev zX4_read : qMY := (yX4_read, cX4_read, 3, (some .int))
abbrev zX5_init : qMY := (yX5_init, cX5_init, 5, none)
abbrev zX9_at : qMY := (yX9_at, cX9_at, 2, (some .int))
abbrev zX5_read : qMY := (yX5_read, cX5_read, 5, (some .boolean))
abbrev zX5_takeWorkers : qMY := (yX5_takeWorkers, cX5_takeWorkers, 3, (some .boolean))
abbrev zX10_copy : qMY := (yX10_copy, cX10_copy, 2, none)
abbrev zX5_hoursFor : qMY := (yX5_hoursFor, cX5_hoursFor, 6, (some .int))
abbrev zX5_goThroughSets : qMY := (yX5_goThroughSets, cX5_goThroughSets, 9, none)
abbrev zX5_longestOf : qMY := (yX5_longestOf, cX5_longestOf, 5, (some .int))
abbrev zX5_findBestRow : qMY := (yX5_findBestRow, cX5_findBestRow, 4, none)
abbrev zX5_solve : qMY := (yX5_solve, cX5_solve, 3, none)
abbrev zX5_workerOf : qMY := (yX5_workerOf, cX5_workerOf, 4, (some .int))
abbrev zX6_init : qMY := (yX6_init, cX6_init, 2, none)
abbrev zX6_addStep : qMY := (yX6_addStep, cX6_addStep, 3, (some .boolean))
abbrev zX6_readTry : qMY := (yX6_readTry, cX6_readTry, 4, (some .boolean))
abbrev zX6_repeatSteps : qMY := (yX6_repeatSteps, cX6_repeatSteps, 6, (some .boolean))
abbrev zX6_readSteps : qMY := (yX6_readSteps, cX6_readSteps, 4, (some .boolean))
abbrev zX6_readStep : qMY := (yX6_readStep, cX6_readStep, 5, (some .boolean))
abbrev zX6_read : qMY := (yX6_read, cX6_read, 2, (some .int))
abbrev zX7_init : qMY := (yX7_init, cX7_init, 4, none)
abbrev zX7_toPlaces : qMY := (yX7_toPlaces, cX7_toPlaces, 4, (some .int))
abbrev zX7_lackedPlaces : qMY := (yX7_lackedPlaces, cX7_lackedPlaces, 7, (some .int))
abbrev zX7_askVoids : qMY := (yX7_askVoids, cX7_askVoids, 8, none)
abbrev zX7_prepare : qMY := (yX7_prepare, cX7_prepare, 7, none)
abbrev zX7_extraAt : qMY := (yX7_extraAt, cX7_extraAt, 2, (some .int))
abbrev zX7_wouldCount : qMY := (yX7_wouldCount, cX7_wouldCount, 5, (some .boolean))
abbrev zX7_bestWay : qMY := (yX7_bestWay, cX7_bestWay, 11, (some .int))
abbrev zX7_soonestWay : qMY := (yX7_soonestWay, cX7_soonestWay, 2, (some .int))
abbrev zX7_leastPrice : qMY := (yX7_leastPrice, cX7_leastPrice, 6, (some .int))
abbrev zX7_tryGoes : qMY := (yX7_tryGoes, cX7_tryGoes, 8, none)
abbrev zX7_findCheapest : qMY := (yX7_findCheapest, cX7_findCheapest, 5, none)
abbrev zX8_init : qMY := (yX8_init, cX8_init, 3, none)
abbrev zX8_read : qMY := (yX8_read, cX8_read, 6, (some .boolean))
abbrev zX8_old : qMY := (yX8_old, cX8_old, 4, (some .int))
abbrev zX8_fits : qMY := (yX8_fits, cX8_fits, 4, (some .boolean))
abbrev zX8_goThrough : qMY := (yX8_goThrough, cX8_goThrough, 5, none)
abbrev zX8_greaterPart : qMY := (yX8_greaterPart, cX8_greaterPart, 2, (some .int))
abbrev zX8_tellingPlace : qMY := (yX8_tellingPlace, cX8_tellingPlace, 3, (some .int))
abbrev zX9_init : qMY := (yX9_init, cX9_init, 1, none)
abbrev zX9_put : qMY := (yX9_put, cX9_put, 3, none)
abbrev zX9_word : qMY := (yX9_word, cX9_word, 2, (some .int))
abbrev zX9_clear : qMY := (yX9_clear, cX9_clear, 1, none)
abbrev zX10_init : qMY := (yX10_init, cX10_init, 1, none)
abbrev zX10_knowsAll : qMY := (yX10_knowsAll, cX10_knowsAll, 2, (some .boolean))
abbrev zX10_takePlan : qMY := (yX10_takePlan, cX10_takePlan, 3, none)
abbrev zX10_stepsLeft : qMY := (yX10_stepsLeft, cX10_stepsLeft, 2, (some .int))
abbrev zX10_sumOf : qMY := (yX10_sumOf, cX10_sumOf, 5, (some .int))
abbrev zX11_init : qMY := (yX11_init, cX11_init, 1, none)
abbrev zX11_kind : qMY := (yX11_kind, cX11_kind, 5, (some .boolean))
abbrev zX11_person : qMY := (yX11_person, cX11_person, 3, (some .boolean))
abbrev zX11_feed : qMY := (yX11_feed, cX11_feed, 6, (some .int))
abbrev zX11_law : qMY := (yX11_law, cX11_law, 4, (some .int))
abbrev zX11_plan : qMY := (yX11_plan, cX11_plan, 4, (some .int))
abbrev zX11_tries : qMY := (yX11_tries, cX11_tries, 4, (some .int))
abbrev zX11_canDeal : qMY := (yX11_canDeal, cX11_canDeal, 4, (some .boolean))
abbrev zX11_buys : qMY := (yX11_buys, cX11_buys, 4, (some .int))
abbrev zX11_days : qMY := (yX11_days, cX11_days, 2, (some .int))
abbrev zX11_tried : qMY := (yX11_tried, cX11_tried, 4, (some .int))
abbrev zX11_has : qMY := (yX11_has, cX11_has, 6, (some .int))
abbrev zX11_alike : qMY := (yX11_alike, cX11_alike, 3, (some .int))
abbrev zX11_cost : qMY := (yX11_cost, cX11_cost, 4, (some .int))
abbrev zX11_canChoose : qMY := (yX11_canChoose, cX11_canChoose, 5, (some .boolean))
abbrev zX11_soonest : qMY := (yX11_soonest, cX11_soonest, 7, (some .int))
abbrev zX11_cheapest : qMY := (yX11_cheapest, cX11_cheapest, 6, (some .int))
abbrev zX11_loophole : qMY := (yX11_loophole, cX11_loophole, 7, (some .int))
abbrev zX11_jobs : qMY := (yX11_jobs, cX11_jobs, 6, (some .int))
abbrev zX11_pence : qMY := (yX11_pence, cX11_pence, 4, (some .int))
abbrev zX11_isSettled : qMY := (yX11_isSettled, cX11_isSettled, 5, (some .boolean))
abbrev zX11_rivals : qMY := (yX11_rivals, cX11_rivals, 7, (some .int))
abbrev zX11_histories : qMY := (yX11_histories, cX11_histories, 6, (some .int))
abbrev zX11_isHeap : qMY := (yX11_isHeap, cX11_isHeap, 1, (some .boolean))
abbrev zX11_nextOneWins : qMY := (yX11_nextOneWins, cX11_nextOneWins, 3, (some .boolean))
abbrev zX11_bestMove : qMY := (yX11_bestMove, cX11_bestMove, 7, (some .int))
abbrev zX11_game : qMY := (yX11_game, cX11_game, 8, (some .int))
abbrev zX11_court : qMY := (yX11_court, cX11_court, 11, (some .int))
abbrev zX11_keep : qMY := (yX11_keep, cX11_keep, 1, (some .int))
abbrev zX11_undo : qMY := (yX11_undo, cX11_undo, 1, (some .boolean))
abbrev zX11_check : qMY := (yX11_check, cX11_check, 5, (some .int))
abbrev zX11_countOfKind : qMY := (yX11_countOfKind, cX11_countOfKind, 2, (some .int))
abbrev zX11_countOfPerson : qMY := (yX11_countOfPerson, cX11_countOfPerson, 2, (some .int))
abbrev zX11_count : qMY := (yX11_count, cX11_count, 2, (some .int))
abbrev zX12_laysWays : qMY := (yX12_laysWays, cX12_laysWays, 5, none)
abbrev zX12_init : qMY := (yX12_init, cX12_init, 2, none)
abbrev zX12_in : qMY := (yX12_in, cX12_in, 3, (some .boolean))
abbrev zX12_min : qMY := (yX12_min, cX12_min, 2, (some .int))
abbrev zX12_max : qMY := (yX12_max, cX12_max, 2, (some .int))
abbrev zX12_has0 : qMY := (yX12_has0, cX12_has0, 2, (some .boolean))
abbrev zX12_bits : qMY := (yX12_bits, cX12_bits, 3, (some .int))
abbrev zX12_copies : qMY := (yX12_copies, cX12_copies, 3, none)
abbrev zX12_isKind : qMY := (yX12_isKind, cX12_isKind, 2, (some .boolean))
abbrev zX12_isPerson : qMY := (yX12_isPerson, cX12_isPerson, 2, (some .boolean))
abbrev zX12_at : qMY := (yX12_at, cX12_at, 2, (some .int))
abbrev zX12_kind : qMY := (yX12_kind, cX12_kind, 5, (some .boolean))
abbrev zX12_person : qMY := (yX12_person, cX12_person, 3, (some .boolean))
abbrev zX12_types : qMY := (yX12_types, cX12_types, 3, none)
abbrev zX12_feed : qMY := (yX12_feed, cX12_feed, 6, (some .int))
abbrev zX12_here : qMY := (yX12_here, cX12_here, 1, (some .int))
abbrev zX12_isDigit : qMY := (yX12_isDigit, cX12_isDigit, 1, (some .boolean))
abbrev zX12_wrongAt : qMY := (yX12_wrongAt, cX12_wrongAt, 3, (some .boolean))
abbrev zX12_takes : qMY := (yX12_takes, cX12_takes, 2, (some .boolean))
abbrev zX12_readsNumber : qMY := (yX12_readsNumber, cX12_readsNumber, 2, (some .boolean))
abbrev zX12_notes : qMY := (yX12_notes, cX12_notes, 3, none)
abbrev zX12_opens : qMY := (yX12_opens, cX12_opens, 2, (some .boolean))
abbrev zX12_waitTop : qMY := (yX12_waitTop, cX12_waitTop, 1, (some .int))
abbrev zX12_factOf : qMY := (yX12_factOf, cX12_factOf, 1, (some .int))
abbrev zX12_sumSign : qMY := (yX12_sumSign, cX12_sumSign, 1, (some .int))
abbrev zX12_closesSums : qMY := (yX12_closesSums, cX12_closesSums, 2, none)
abbrev zX12_readsFactor : qMY := (yX12_readsFactor, cX12_readsFactor, 2, (some .boolean))
abbrev zX12_hasOpenSum : qMY := (yX12_hasOpenSum, cX12_hasOpenSum, 3, (some .boolean))
abbrev zX12_readsSum : qMY := (yX12_readsSum, cX12_readsSum, 3, (some .boolean))
abbrev zX12_endsPiece : qMY := (yX12_endsPiece, cX12_endsPiece, 1, none)
abbrev zX12_lands : qMY := (yX12_lands, cX12_lands, 3, none)
abbrev zX12_jumps : qMY := (yX12_jumps, cX12_jumps, 2, none)
abbrev zX12_readsCompared : qMY := (yX12_readsCompared, cX12_readsCompared, 2, (some .boolean))
abbrev zX12_readsCondition : qMY := (yX12_readsCondition, cX12_readsCondition, 1, (some .boolean))
abbrev zX12_isClause : qMY := (yX12_isClause, cX12_isClause, 1, (some .boolean))
abbrev zX12_readsClause : qMY := (yX12_readsClause, cX12_readsClause, 2, (some .boolean))
abbrev zX12_law : qMY := (yX12_law, cX12_law, 4, (some .int))
abbrev zX12_reckon : qMY := (yX12_reckon, cX12_reckon, 3, (some .int))
abbrev zX12_comesTo : qMY := (yX12_comesTo, cX12_comesTo, 8, (some .int))
abbrev zX12_byLaw : qMY := (yX12_byLaw, cX12_byLaw, 7, (some .int))
abbrev zX12_feelsKind : qMY := (yX12_feelsKind, cX12_feelsKind, 3, none)
abbrev zX12_isLike : qMY := (yX12_isLike, cX12_isLike, 4, (some .boolean))
abbrev zX12_alike : qMY := (yX12_alike, cX12_alike, 3, (some .int))
abbrev zX12_allTries : qMY := (yX12_allTries, cX12_allTries, 4, (some .int))
abbrev zX12_feels : qMY := (yX12_feels, cX12_feels, 4, none)
abbrev zX12_forgets : qMY := (yX12_forgets, cX12_forgets, 6, none)
abbrev zX12_oldOnes : qMY := (yX12_oldOnes, cX12_oldOnes, 5, (some .int))
abbrev zX12_voidFor : qMY := (yX12_voidFor, cX12_voidFor, 4, (some .int))
abbrev zX12_hasNeeds : qMY := (yX12_hasNeeds, cX12_hasNeeds, 4, (some .boolean))
abbrev zX12_triesNow : qMY := (yX12_triesNow, cX12_triesNow, 7, (some .int))
abbrev zX12_tries : qMY := (yX12_tries, cX12_tries, 4, (some .int))
abbrev zX12_costOf : qMY := (yX12_costOf, cX12_costOf, 4, (some .int))
abbrev zX12_cost : qMY := (yX12_cost, cX12_cost, 4, (some .int))
abbrev zX12_buys : qMY := (yX12_buys, cX12_buys, 7, (some .int))
abbrev zX12_has : qMY := (yX12_has, cX12_has, 8, (some .int))
abbrev zX12_endsRound : qMY := (yX12_endsRound, cX12_endsRound, 5, (some .boolean))
abbrev zX12_readsStep : qMY := (yX12_readsStep, cX12_readsStep, 3, (some .boolean))
abbrev zX12_plan : qMY := (yX12_plan, cX12_plan, 5, (some .int))
abbrev zX12_notesTry : qMY := (yX12_notesTry, cX12_notesTry, 4, none)
abbrev zX12_dayOf : qMY := (yX12_dayOf, cX12_dayOf, 7, none)
abbrev zX12_daysGo : qMY := (yX12_daysGo, cX12_daysGo, 4, none)
abbrev zX12_days : qMY := (yX12_days, cX12_days, 2, (some .int))
abbrev zX12_tried : qMY := (yX12_tried, cX12_tried, 4, (some .int))
abbrev zX12_wayWith : qMY := (yX12_wayWith, cX12_wayWith, 5, (some .int))
abbrev zX12_laysOwn : qMY := (yX12_laysOwn, cX12_laysOwn, 5, none)
abbrev zX12_takesState : qMY := (yX12_takesState, cX12_takesState, 4, none)
abbrev zX12_stateNow : qMY := (yX12_stateNow, cX12_stateNow, 3, (some .int))
abbrev zX12_areCounted : qMY := (yX12_areCounted, cX12_areCounted, 5, (some .boolean))
abbrev zX12_wouldCount : qMY := (yX12_wouldCount, cX12_wouldCount, 5, (some .boolean))
abbrev zX12_goesNow : qMY := (yX12_goesNow, cX12_goesNow, 3, (some .int))
abbrev zX12_hoursNow : qMY := (yX12_hoursNow, cX12_hoursNow, 3, (some .int))
abbrev zX12_madeNow : qMY := (yX12_madeNow, cX12_madeNow, 3, (some .int))
abbrev zX12_statesAll : qMY := (yX12_statesAll, cX12_statesAll, 3, (some .int))
abbrev zX12_marks : qMY := (yX12_marks, cX12_marks, 4, none)
abbrev zX12_spreads : qMY := (yX12_spreads, cX12_spreads, 6, none)
abbrev zX12_placeOf : qMY := (yX12_placeOf, cX12_placeOf, 3, (some .int))
abbrev zX12_areSome : qMY := (yX12_areSome, cX12_areSome, 4, (some .boolean))
abbrev zX12_soonest : qMY := (yX12_soonest, cX12_soonest, 10, (some .int))
abbrev zX12_leastPrice : qMY := (yX12_leastPrice, cX12_leastPrice, 5, (some .int))
abbrev zX12_marksBought : qMY := (yX12_marksBought, cX12_marksBought, 5, none)
abbrev zX12_coinsNow : qMY := (yX12_coinsNow, cX12_coinsNow, 3, (some .int))
abbrev zX12_cheapest : qMY := (yX12_cheapest, cX12_cheapest, 10, (some .int))
abbrev zX12_finds : qMY := (yX12_finds, cX12_finds, 4, (some .boolean))
abbrev zX12_loophole : qMY := (yX12_loophole, cX12_loophole, 7, (some .int))
abbrev zX12_jobCounts : qMY := (yX12_jobCounts, cX12_jobCounts, 5, (some .boolean))
abbrev zX12_jobNeeds : qMY := (yX12_jobNeeds, cX12_jobNeeds, 4, (some .boolean))
abbrev zX12_whoDoes : qMY := (yX12_whoDoes, cX12_whoDoes, 5, (some .int))
abbrev zX12_hoursBy : qMY := (yX12_hoursBy, cX12_hoursBy, 8, (some .int))
abbrev zX12_longestBy : qMY := (yX12_longestBy, cX12_longestBy, 4, (some .int))
abbrev zX12_takesJobs : qMY := (yX12_takesJobs, cX12_takesJobs, 3, (some .boolean))
abbrev zX12_jobs : qMY := (yX12_jobs, cX12_jobs, 9, (some .int))
abbrev zX12_gainOf : qMY := (yX12_gainOf, cX12_gainOf, 6, (some .int))
abbrev zX12_rivals : qMY := (yX12_rivals, cX12_rivals, 7, (some .int))
abbrev zX12_takesPast : qMY := (yX12_takesPast, cX12_takesPast, 5, (some .boolean))
abbrev zX12_begins : qMY := (yX12_begins, cX12_begins, 4, none)
abbrev zX12_pastCounts : qMY := (yX12_pastCounts, cX12_pastCounts, 5, (some .boolean))
abbrev zX12_goesWith : qMY := (yX12_goesWith, cX12_goesWith, 6, (some .boolean))
abbrev zX12_greaterBy : qMY := (yX12_greaterBy, cX12_greaterBy, 8, (some .int))
abbrev zX12_histories : qMY := (yX12_histories, cX12_histories, 10, (some .int))
abbrev zX12_heapIn : qMY := (yX12_heapIn, cX12_heapIn, 2, (some .int))
abbrev zX12_heapUnit : qMY := (yX12_heapUnit, cX12_heapUnit, 1, (some .int))
abbrev zX12_gameState : qMY := (yX12_gameState, cX12_gameState, 3, (some .int))
abbrev zX12_wins : qMY := (yX12_wins, cX12_wins, 6, (some .boolean))
abbrev zX12_winningMove : qMY := (yX12_winningMove, cX12_winningMove, 6, (some .int))
abbrev zX12_game : qMY := (yX12_game, cX12_game, 9, (some .int))
abbrev zX12_court : qMY := (yX12_court, cX12_court, 12, (some .int))
abbrev zX12_keep : qMY := (yX12_keep, cX12_keep, 1, (some .int))
abbrev zX12_undo : qMY := (yX12_undo, cX12_undo, 1, (some .boolean))
abbrev zX12_tapeNumber : qMY := (yX12_tapeNumber, cX12_tapeNumber, 4, (some .int))
abbrev zX12_check : qMY := (yX12_check, cX12_check, 4, (some .int))
abbrev zX12_sumOf : qMY := (yX12_sumOf, cX12_sumOf, 5, (some .int))
abbrev zX12_count : qMY := (yX12_count, cX12_count, 2, (some .int))
abbrev zJ9_max_7cf53 : qMY := (yJ9_max_7cf53, cJ9_max_7cf53, 2, (some .int))
abbrev zJ9_min_7cf53 : qMY := (yJ9_min_7cf53, cJ9_min_7cf53, 2, (some .int))
abbrev zL_law : qMY := (yL_law, cL_law, 4, (some .boolean))
abbrev q_cls : List vw_C := [(RX0, TX0, 10), (RX1, TX1, 5), (RX2, TX2, 4), (RX3, TX3, 8), (RX4, TX4, 2), (RX5, TX5, 13), (RX6, TX6, 4), (RX7, TX7, 14), (RX8, TX8, 12), (RX9, TX9, 5), (RX10, TX10, 10), (RX11, TX11, 13), (RX12, TX12, 68)]
