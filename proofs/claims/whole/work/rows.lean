section
-- ===== PART A: goes FIRST, ahead of the names: the tables' words, and 'selects' of the private methods out of them =====
/-- a private method of a class that the tables say can be made, by its rows of tables_1 -/
def lw_okq (q : MethodName × Nat) : Prop := (q.1.cls ≠ "java/lang/invoke/MethodHandle" ∧ q.1.cls ≠ "java/lang/invoke/VarHandle") ∧ Cond.instantiable q.1.cls q.2 ∈ tables_1 ∧ Cond.privateMethod q.1 ∈ tables_1 ∧ Cond.instanceMethod q.1 ∈ tables_1
theorem lw_p0 : lw_okq (⟨"SecondTry$LawReader", "readClause", "()Z"⟩, 2) := ⟨⟨by decide +kernel, by decide +kernel⟩, List.mem_of_getElem? (i := 252) (by decide +kernel), List.mem_of_getElem? (i := 521) (by decide +kernel), List.mem_of_getElem? (i := 522) (by decide +kernel)⟩
theorem lw_p1 : lw_okq (⟨"SecondTry$LawReader", "readSum", "(I)Z"⟩, 2) := ⟨⟨by decide +kernel, by decide +kernel⟩, List.mem_of_getElem? (i := 252) (by decide +kernel), List.mem_of_getElem? (i := 533) (by decide +kernel), List.mem_of_getElem? (i := 534) (by decide +kernel)⟩
theorem lw_p2 : lw_okq (⟨"SecondTry$LawReader", "readProduct", "(I)Z"⟩, 2) := ⟨⟨by decide +kernel, by decide +kernel⟩, List.mem_of_getElem? (i := 252) (by decide +kernel), List.mem_of_getElem? (i := 537) (by decide +kernel), List.mem_of_getElem? (i := 538) (by decide +kernel)⟩
theorem lw_p3 : lw_okq (⟨"SecondTry$LawReader", "readFactor", "(I)Z"⟩, 2) := ⟨⟨by decide +kernel, by decide +kernel⟩, List.mem_of_getElem? (i := 252) (by decide +kernel), List.mem_of_getElem? (i := 541) (by decide +kernel), List.mem_of_getElem? (i := 542) (by decide +kernel)⟩
theorem lw_p4 : lw_okq (⟨"SecondTry$LawReader", "opens", "(I)Z"⟩, 2) := ⟨⟨by decide +kernel, by decide +kernel⟩, List.mem_of_getElem? (i := 252) (by decide +kernel), List.mem_of_getElem? (i := 545) (by decide +kernel), List.mem_of_getElem? (i := 546) (by decide +kernel)⟩
theorem lw_p5 : lw_okq (⟨"SecondTry$LawReader", "readNumber", "()Z"⟩, 2) := ⟨⟨by decide +kernel, by decide +kernel⟩, List.mem_of_getElem? (i := 252) (by decide +kernel), List.mem_of_getElem? (i := 563) (by decide +kernel), List.mem_of_getElem? (i := 564) (by decide +kernel)⟩
theorem lw_p6 : lw_okq (⟨"SecondTry$LawReader", "readCondition", "(I)Z"⟩, 2) := ⟨⟨by decide +kernel, by decide +kernel⟩, List.mem_of_getElem? (i := 252) (by decide +kernel), List.mem_of_getElem? (i := 572) (by decide +kernel), List.mem_of_getElem? (i := 573) (by decide +kernel)⟩
theorem lw_p7 : lw_okq (⟨"SecondTry$LawReader", "readPart", "(I)Z"⟩, 2) := ⟨⟨by decide +kernel, by decide +kernel⟩, List.mem_of_getElem? (i := 252) (by decide +kernel), List.mem_of_getElem? (i := 576) (by decide +kernel), List.mem_of_getElem? (i := 577) (by decide +kernel)⟩
theorem lw_p8 : lw_okq (⟨"SecondTry$LawReader", "readPiece", "(I)Z"⟩, 2) := ⟨⟨by decide +kernel, by decide +kernel⟩, List.mem_of_getElem? (i := 252) (by decide +kernel), List.mem_of_getElem? (i := 580) (by decide +kernel), List.mem_of_getElem? (i := 581) (by decide +kernel)⟩
theorem lw_p9 : lw_okq (⟨"SecondTry$PlanReader", "readSteps", "(I)Z"⟩, 4) := ⟨⟨by decide +kernel, by decide +kernel⟩, List.mem_of_getElem? (i := 268) (by decide +kernel), List.mem_of_getElem? (i := 614) (by decide +kernel), List.mem_of_getElem? (i := 615) (by decide +kernel)⟩
theorem lw_p10 : lw_okq (⟨"SecondTry$PlanReader", "readStep", "(I)Z"⟩, 4) := ⟨⟨by decide +kernel, by decide +kernel⟩, List.mem_of_getElem? (i := 268) (by decide +kernel), List.mem_of_getElem? (i := 618) (by decide +kernel), List.mem_of_getElem? (i := 619) (by decide +kernel)⟩
theorem lw_p11 : lw_okq (⟨"SecondTry$PlanReader", "readTry", "()Z"⟩, 4) := ⟨⟨by decide +kernel, by decide +kernel⟩, List.mem_of_getElem? (i := 268) (by decide +kernel), List.mem_of_getElem? (i := 623) (by decide +kernel), List.mem_of_getElem? (i := 624) (by decide +kernel)⟩
theorem lw_p12 : lw_okq (⟨"SecondTry$PlanReader", "addStep", "(II)Z"⟩, 4) := ⟨⟨by decide +kernel, by decide +kernel⟩, List.mem_of_getElem? (i := 268) (by decide +kernel), List.mem_of_getElem? (i := 630) (by decide +kernel), List.mem_of_getElem? (i := 631) (by decide +kernel)⟩
theorem lw_p13 : lw_okq (⟨"SecondTry$PlanReader", "repeatSteps", "(II)Z"⟩, 4) := ⟨⟨by decide +kernel, by decide +kernel⟩, List.mem_of_getElem? (i := 268) (by decide +kernel), List.mem_of_getElem? (i := 635) (by decide +kernel), List.mem_of_getElem? (i := 636) (by decide +kernel)⟩
theorem lw_p14 : lw_okq (⟨"SecondTry$Judge", "isAlike", "(I)Z"⟩, 5) := ⟨⟨by decide +kernel, by decide +kernel⟩, List.mem_of_getElem? (i := 146) (by decide +kernel), List.mem_of_getElem? (i := 668) (by decide +kernel), List.mem_of_getElem? (i := 669) (by decide +kernel)⟩
theorem lw_p15 : lw_okq (⟨"SecondTry$Judge", "run", "(II)I"⟩, 5) := ⟨⟨by decide +kernel, by decide +kernel⟩, List.mem_of_getElem? (i := 146) (by decide +kernel), List.mem_of_getElem? (i := 678) (by decide +kernel), List.mem_of_getElem? (i := 679) (by decide +kernel)⟩
def lw_privs_1 : List (MethodName × Nat) := [(⟨"SecondTry$LawReader", "readClause", "()Z"⟩, 2), (⟨"SecondTry$LawReader", "readSum", "(I)Z"⟩, 2), (⟨"SecondTry$LawReader", "readProduct", "(I)Z"⟩, 2), (⟨"SecondTry$LawReader", "readFactor", "(I)Z"⟩, 2), (⟨"SecondTry$LawReader", "opens", "(I)Z"⟩, 2), (⟨"SecondTry$LawReader", "readNumber", "()Z"⟩, 2), (⟨"SecondTry$LawReader", "readCondition", "(I)Z"⟩, 2), (⟨"SecondTry$LawReader", "readPart", "(I)Z"⟩, 2), (⟨"SecondTry$LawReader", "readPiece", "(I)Z"⟩, 2), (⟨"SecondTry$PlanReader", "readSteps", "(I)Z"⟩, 4), (⟨"SecondTry$PlanReader", "readStep", "(I)Z"⟩, 4), (⟨"SecondTry$PlanReader", "readTry", "()Z"⟩, 4), (⟨"SecondTry$PlanReader", "addStep", "(II)Z"⟩, 4), (⟨"SecondTry$PlanReader", "repeatSteps", "(II)Z"⟩, 4), (⟨"SecondTry$Judge", "isAlike", "(I)Z"⟩, 5), (⟨"SecondTry$Judge", "run", "(II)I"⟩, 5)]
theorem lw_r1 : ∀ q ∈ lw_privs_1, lw_okq q := List.forall_mem_cons.mpr ⟨lw_p0, List.forall_mem_cons.mpr ⟨lw_p1, List.forall_mem_cons.mpr ⟨lw_p2, List.forall_mem_cons.mpr ⟨lw_p3, List.forall_mem_cons.mpr ⟨lw_p4, List.forall_mem_cons.mpr ⟨lw_p5, List.forall_mem_cons.mpr ⟨lw_p6, List.forall_mem_cons.mpr ⟨lw_p7, List.forall_mem_cons.mpr ⟨lw_p8, List.forall_mem_cons.mpr ⟨lw_p9, List.forall_mem_cons.mpr ⟨lw_p10, List.forall_mem_cons.mpr ⟨lw_p11, List.forall_mem_cons.mpr ⟨lw_p12, List.forall_mem_cons.mpr ⟨lw_p13, List.forall_mem_cons.mpr ⟨lw_p14, List.forall_mem_cons.mpr ⟨lw_p15, fun _ h => absurd h List.not_mem_nil⟩⟩⟩⟩⟩⟩⟩⟩⟩⟩⟩⟩⟩⟩⟩⟩
theorem lw_p16 : lw_okq (⟨"SecondTry$Judge", "reckon", "(III)I"⟩, 5) := ⟨⟨by decide +kernel, by decide +kernel⟩, List.mem_of_getElem? (i := 146) (by decide +kernel), List.mem_of_getElem? (i := 682) (by decide +kernel), List.mem_of_getElem? (i := 683) (by decide +kernel)⟩
theorem lw_p17 : lw_okq (⟨"SecondTry$Clerk", "forget", "(LSecondTry$Town;II)V"⟩, 10) := ⟨⟨by decide +kernel, by decide +kernel⟩, List.mem_of_getElem? (i := 212) (by decide +kernel), List.mem_of_getElem? (i := 689) (by decide +kernel), List.mem_of_getElem? (i := 690) (by decide +kernel)⟩
theorem lw_p18 : lw_okq (⟨"SecondTry", "canDeal", "(III)Z"⟩, 13) := ⟨⟨by decide +kernel, by decide +kernel⟩, List.mem_of_getElem? (i := 19) (by decide +kernel), List.mem_of_getElem? (i := 737) (by decide +kernel), List.mem_of_getElem? (i := 738) (by decide +kernel)⟩
theorem lw_p19 : lw_okq (⟨"SecondTry$Clerk", "doSteps", "(LSecondTry$Town;I)V"⟩, 10) := ⟨⟨by decide +kernel, by decide +kernel⟩, List.mem_of_getElem? (i := 212) (by decide +kernel), List.mem_of_getElem? (i := 760) (by decide +kernel), List.mem_of_getElem? (i := 761) (by decide +kernel)⟩
theorem lw_p20 : lw_okq (⟨"SecondTry$Clerk", "noteOutcome", "(IIII)V"⟩, 10) := ⟨⟨by decide +kernel, by decide +kernel⟩, List.mem_of_getElem? (i := 212) (by decide +kernel), List.mem_of_getElem? (i := 766) (by decide +kernel), List.mem_of_getElem? (i := 767) (by decide +kernel)⟩
theorem lw_p21 : lw_okq (⟨"SecondTry", "canChoose", "(III)Z"⟩, 13) := ⟨⟨by decide +kernel, by decide +kernel⟩, List.mem_of_getElem? (i := 19) (by decide +kernel), List.mem_of_getElem? (i := 807) (by decide +kernel), List.mem_of_getElem? (i := 808) (by decide +kernel)⟩
theorem lw_p22 : lw_okq (⟨"SecondTry$Search", "toPlaces", "(I)I"⟩, 14) := ⟨⟨by decide +kernel, by decide +kernel⟩, List.mem_of_getElem? (i := 290) (by decide +kernel), List.mem_of_getElem? (i := 819) (by decide +kernel), List.mem_of_getElem? (i := 820) (by decide +kernel)⟩
theorem lw_p23 : lw_okq (⟨"SecondTry$Search", "lackedPlaces", "(LSecondTry$Town;II)I"⟩, 14) := ⟨⟨by decide +kernel, by decide +kernel⟩, List.mem_of_getElem? (i := 290) (by decide +kernel), List.mem_of_getElem? (i := 823) (by decide +kernel), List.mem_of_getElem? (i := 824) (by decide +kernel)⟩
theorem lw_p24 : lw_okq (⟨"SecondTry$Search", "askVoids", "(LSecondTry$Town;II)V"⟩, 14) := ⟨⟨by decide +kernel, by decide +kernel⟩, List.mem_of_getElem? (i := 290) (by decide +kernel), List.mem_of_getElem? (i := 828) (by decide +kernel), List.mem_of_getElem? (i := 829) (by decide +kernel)⟩
theorem lw_p25 : lw_okq (⟨"SecondTry$Search", "bestWay", "(III)I"⟩, 14) := ⟨⟨by decide +kernel, by decide +kernel⟩, List.mem_of_getElem? (i := 290) (by decide +kernel), List.mem_of_getElem? (i := 841) (by decide +kernel), List.mem_of_getElem? (i := 842) (by decide +kernel)⟩
theorem lw_p26 : lw_okq (⟨"SecondTry$Search", "wouldCount", "(II)Z"⟩, 14) := ⟨⟨by decide +kernel, by decide +kernel⟩, List.mem_of_getElem? (i := 290) (by decide +kernel), List.mem_of_getElem? (i := 849) (by decide +kernel), List.mem_of_getElem? (i := 850) (by decide +kernel)⟩
theorem lw_p27 : lw_okq (⟨"SecondTry$Search", "leastPrice", "(LSecondTry$Town;II)I"⟩, 14) := ⟨⟨by decide +kernel, by decide +kernel⟩, List.mem_of_getElem? (i := 290) (by decide +kernel), List.mem_of_getElem? (i := 863) (by decide +kernel), List.mem_of_getElem? (i := 864) (by decide +kernel)⟩
theorem lw_p28 : lw_okq (⟨"SecondTry$Search", "tryGoes", "(IIIII)V"⟩, 14) := ⟨⟨by decide +kernel, by decide +kernel⟩, List.mem_of_getElem? (i := 290) (by decide +kernel), List.mem_of_getElem? (i := 869) (by decide +kernel), List.mem_of_getElem? (i := 870) (by decide +kernel)⟩
theorem lw_p29 : lw_okq (⟨"SecondTry$Parting", "goThroughSets", "(IIII)V"⟩, 13) := ⟨⟨by decide +kernel, by decide +kernel⟩, List.mem_of_getElem? (i := 341) (by decide +kernel), List.mem_of_getElem? (i := 910) (by decide +kernel), List.mem_of_getElem? (i := 911) (by decide +kernel)⟩
theorem lw_p30 : lw_okq (⟨"SecondTry$Parting", "hoursFor", "(II)I"⟩, 13) := ⟨⟨by decide +kernel, by decide +kernel⟩, List.mem_of_getElem? (i := 341) (by decide +kernel), List.mem_of_getElem? (i := 915) (by decide +kernel), List.mem_of_getElem? (i := 916) (by decide +kernel)⟩
theorem lw_p31 : lw_okq (⟨"SecondTry$Parting", "findBestRow", "()V"⟩, 13) := ⟨⟨by decide +kernel, by decide +kernel⟩, List.mem_of_getElem? (i := 341) (by decide +kernel), List.mem_of_getElem? (i := 925) (by decide +kernel), List.mem_of_getElem? (i := 926) (by decide +kernel)⟩
def lw_privs_2 : List (MethodName × Nat) := [(⟨"SecondTry$Judge", "reckon", "(III)I"⟩, 5), (⟨"SecondTry$Clerk", "forget", "(LSecondTry$Town;II)V"⟩, 10), (⟨"SecondTry", "canDeal", "(III)Z"⟩, 13), (⟨"SecondTry$Clerk", "doSteps", "(LSecondTry$Town;I)V"⟩, 10), (⟨"SecondTry$Clerk", "noteOutcome", "(IIII)V"⟩, 10), (⟨"SecondTry", "canChoose", "(III)Z"⟩, 13), (⟨"SecondTry$Search", "toPlaces", "(I)I"⟩, 14), (⟨"SecondTry$Search", "lackedPlaces", "(LSecondTry$Town;II)I"⟩, 14), (⟨"SecondTry$Search", "askVoids", "(LSecondTry$Town;II)V"⟩, 14), (⟨"SecondTry$Search", "bestWay", "(III)I"⟩, 14), (⟨"SecondTry$Search", "wouldCount", "(II)Z"⟩, 14), (⟨"SecondTry$Search", "leastPrice", "(LSecondTry$Town;II)I"⟩, 14), (⟨"SecondTry$Search", "tryGoes", "(IIIII)V"⟩, 14), (⟨"SecondTry$Parting", "goThroughSets", "(IIII)V"⟩, 13), (⟨"SecondTry$Parting", "hoursFor", "(II)I"⟩, 13), (⟨"SecondTry$Parting", "findBestRow", "()V"⟩, 13)]
theorem lw_r2 : ∀ q ∈ lw_privs_2, lw_okq q := List.forall_mem_cons.mpr ⟨lw_p16, List.forall_mem_cons.mpr ⟨lw_p17, List.forall_mem_cons.mpr ⟨lw_p18, List.forall_mem_cons.mpr ⟨lw_p19, List.forall_mem_cons.mpr ⟨lw_p20, List.forall_mem_cons.mpr ⟨lw_p21, List.forall_mem_cons.mpr ⟨lw_p22, List.forall_mem_cons.mpr ⟨lw_p23, List.forall_mem_cons.mpr ⟨lw_p24, List.forall_mem_cons.mpr ⟨lw_p25, List.forall_mem_cons.mpr ⟨lw_p26, List.forall_mem_cons.mpr ⟨lw_p27, List.forall_mem_cons.mpr ⟨lw_p28, List.forall_mem_cons.mpr ⟨lw_p29, List.forall_mem_cons.mpr ⟨lw_p30, List.forall_mem_cons.mpr ⟨lw_p31, fun _ h => absurd h List.not_mem_nil⟩⟩⟩⟩⟩⟩⟩⟩⟩⟩⟩⟩⟩⟩⟩⟩
theorem lw_p32 : lw_okq (⟨"SecondTry$Parting", "longestOf", "(I)I"⟩, 13) := ⟨⟨by decide +kernel, by decide +kernel⟩, List.mem_of_getElem? (i := 341) (by decide +kernel), List.mem_of_getElem? (i := 929) (by decide +kernel), List.mem_of_getElem? (i := 930) (by decide +kernel)⟩
theorem lw_p33 : lw_okq (⟨"SecondTry$Stranger", "fits", "(II)Z"⟩, 12) := ⟨⟨by decide +kernel, by decide +kernel⟩, List.mem_of_getElem? (i := 388) (by decide +kernel), List.mem_of_getElem? (i := 966) (by decide +kernel), List.mem_of_getElem? (i := 967) (by decide +kernel)⟩
theorem lw_p34 : lw_okq (⟨"SecondTry$Stranger", "old", "(I)I"⟩, 12) := ⟨⟨by decide +kernel, by decide +kernel⟩, List.mem_of_getElem? (i := 388) (by decide +kernel), List.mem_of_getElem? (i := 970) (by decide +kernel), List.mem_of_getElem? (i := 971) (by decide +kernel)⟩
theorem lw_p35 : lw_okq (⟨"SecondTry$Stranger", "greaterPart", "(I)I"⟩, 12) := ⟨⟨by decide +kernel, by decide +kernel⟩, List.mem_of_getElem? (i := 388) (by decide +kernel), List.mem_of_getElem? (i := 978) (by decide +kernel), List.mem_of_getElem? (i := 979) (by decide +kernel)⟩
theorem lw_p36 : lw_okq (⟨"SecondTry", "countOfKind", "(I)I"⟩, 13) := ⟨⟨by decide +kernel, by decide +kernel⟩, List.mem_of_getElem? (i := 19) (by decide +kernel), List.mem_of_getElem? (i := 1021) (by decide +kernel), List.mem_of_getElem? (i := 1022) (by decide +kernel)⟩
theorem lw_p37 : lw_okq (⟨"SecondTry", "countOfPerson", "(I)I"⟩, 13) := ⟨⟨by decide +kernel, by decide +kernel⟩, List.mem_of_getElem? (i := 19) (by decide +kernel), List.mem_of_getElem? (i := 1025) (by decide +kernel), List.mem_of_getElem? (i := 1026) (by decide +kernel)⟩
theorem lw_p38 : lw_okq (⟨"SecondTryModel", "laysWays", "()V"⟩, 68) := ⟨⟨by decide +kernel, by decide +kernel⟩, List.mem_of_getElem? (i := 1033) (by decide +kernel), List.mem_of_getElem? (i := 1040) (by decide +kernel), List.mem_of_getElem? (i := 1041) (by decide +kernel)⟩
theorem lw_p39 : lw_okq (⟨"SecondTryModel", "isKind", "(I)Z"⟩, 68) := ⟨⟨by decide +kernel, by decide +kernel⟩, List.mem_of_getElem? (i := 1033) (by decide +kernel), List.mem_of_getElem? (i := 1258) (by decide +kernel), List.mem_of_getElem? (i := 1259) (by decide +kernel)⟩
theorem lw_p40 : lw_okq (⟨"SecondTryModel", "types", "(I)V"⟩, 68) := ⟨⟨by decide +kernel, by decide +kernel⟩, List.mem_of_getElem? (i := 1033) (by decide +kernel), List.mem_of_getElem? (i := 1274) (by decide +kernel), List.mem_of_getElem? (i := 1275) (by decide +kernel)⟩
theorem lw_p41 : lw_okq (⟨"SecondTryModel", "readsClause", "()Z"⟩, 68) := ⟨⟨by decide +kernel, by decide +kernel⟩, List.mem_of_getElem? (i := 1033) (by decide +kernel), List.mem_of_getElem? (i := 1282) (by decide +kernel), List.mem_of_getElem? (i := 1283) (by decide +kernel)⟩
theorem lw_p42 : lw_okq (⟨"SecondTryModel", "here", "()I"⟩, 68) := ⟨⟨by decide +kernel, by decide +kernel⟩, List.mem_of_getElem? (i := 1033) (by decide +kernel), List.mem_of_getElem? (i := 1286) (by decide +kernel), List.mem_of_getElem? (i := 1287) (by decide +kernel)⟩
theorem lw_p43 : lw_okq (⟨"SecondTryModel", "wrongAt", "(II)Z"⟩, 68) := ⟨⟨by decide +kernel, by decide +kernel⟩, List.mem_of_getElem? (i := 1033) (by decide +kernel), List.mem_of_getElem? (i := 1293) (by decide +kernel), List.mem_of_getElem? (i := 1294) (by decide +kernel)⟩
theorem lw_p44 : lw_okq (⟨"SecondTryModel", "readsSum", "()Z"⟩, 68) := ⟨⟨by decide +kernel, by decide +kernel⟩, List.mem_of_getElem? (i := 1033) (by decide +kernel), List.mem_of_getElem? (i := 1297) (by decide +kernel), List.mem_of_getElem? (i := 1298) (by decide +kernel)⟩
theorem lw_p45 : lw_okq (⟨"SecondTryModel", "readsFactor", "()Z"⟩, 68) := ⟨⟨by decide +kernel, by decide +kernel⟩, List.mem_of_getElem? (i := 1033) (by decide +kernel), List.mem_of_getElem? (i := 1301) (by decide +kernel), List.mem_of_getElem? (i := 1302) (by decide +kernel)⟩
theorem lw_p46 : lw_okq (⟨"SecondTryModel", "opens", "(I)Z"⟩, 68) := ⟨⟨by decide +kernel, by decide +kernel⟩, List.mem_of_getElem? (i := 1033) (by decide +kernel), List.mem_of_getElem? (i := 1305) (by decide +kernel), List.mem_of_getElem? (i := 1306) (by decide +kernel)⟩
theorem lw_p47 : lw_okq (⟨"SecondTryModel", "isDigit", "()Z"⟩, 68) := ⟨⟨by decide +kernel, by decide +kernel⟩, List.mem_of_getElem? (i := 1033) (by decide +kernel), List.mem_of_getElem? (i := 1310) (by decide +kernel), List.mem_of_getElem? (i := 1311) (by decide +kernel)⟩
def lw_privs_3 : List (MethodName × Nat) := [(⟨"SecondTry$Parting", "longestOf", "(I)I"⟩, 13), (⟨"SecondTry$Stranger", "fits", "(II)Z"⟩, 12), (⟨"SecondTry$Stranger", "old", "(I)I"⟩, 12), (⟨"SecondTry$Stranger", "greaterPart", "(I)I"⟩, 12), (⟨"SecondTry", "countOfKind", "(I)I"⟩, 13), (⟨"SecondTry", "countOfPerson", "(I)I"⟩, 13), (⟨"SecondTryModel", "laysWays", "()V"⟩, 68), (⟨"SecondTryModel", "isKind", "(I)Z"⟩, 68), (⟨"SecondTryModel", "types", "(I)V"⟩, 68), (⟨"SecondTryModel", "readsClause", "()Z"⟩, 68), (⟨"SecondTryModel", "here", "()I"⟩, 68), (⟨"SecondTryModel", "wrongAt", "(II)Z"⟩, 68), (⟨"SecondTryModel", "readsSum", "()Z"⟩, 68), (⟨"SecondTryModel", "readsFactor", "()Z"⟩, 68), (⟨"SecondTryModel", "opens", "(I)Z"⟩, 68), (⟨"SecondTryModel", "isDigit", "()Z"⟩, 68)]
theorem lw_r3 : ∀ q ∈ lw_privs_3, lw_okq q := List.forall_mem_cons.mpr ⟨lw_p32, List.forall_mem_cons.mpr ⟨lw_p33, List.forall_mem_cons.mpr ⟨lw_p34, List.forall_mem_cons.mpr ⟨lw_p35, List.forall_mem_cons.mpr ⟨lw_p36, List.forall_mem_cons.mpr ⟨lw_p37, List.forall_mem_cons.mpr ⟨lw_p38, List.forall_mem_cons.mpr ⟨lw_p39, List.forall_mem_cons.mpr ⟨lw_p40, List.forall_mem_cons.mpr ⟨lw_p41, List.forall_mem_cons.mpr ⟨lw_p42, List.forall_mem_cons.mpr ⟨lw_p43, List.forall_mem_cons.mpr ⟨lw_p44, List.forall_mem_cons.mpr ⟨lw_p45, List.forall_mem_cons.mpr ⟨lw_p46, List.forall_mem_cons.mpr ⟨lw_p47, fun _ h => absurd h List.not_mem_nil⟩⟩⟩⟩⟩⟩⟩⟩⟩⟩⟩⟩⟩⟩⟩⟩
theorem lw_p48 : lw_okq (⟨"SecondTryModel", "readsNumber", "()Z"⟩, 68) := ⟨⟨by decide +kernel, by decide +kernel⟩, List.mem_of_getElem? (i := 1033) (by decide +kernel), List.mem_of_getElem? (i := 1314) (by decide +kernel), List.mem_of_getElem? (i := 1315) (by decide +kernel)⟩
theorem lw_p49 : lw_okq (⟨"SecondTryModel", "notes", "(II)V"⟩, 68) := ⟨⟨by decide +kernel, by decide +kernel⟩, List.mem_of_getElem? (i := 1033) (by decide +kernel), List.mem_of_getElem? (i := 1318) (by decide +kernel), List.mem_of_getElem? (i := 1319) (by decide +kernel)⟩
theorem lw_p50 : lw_okq (⟨"SecondTryModel", "closesSums", "(Z)V"⟩, 68) := ⟨⟨by decide +kernel, by decide +kernel⟩, List.mem_of_getElem? (i := 1033) (by decide +kernel), List.mem_of_getElem? (i := 1328) (by decide +kernel), List.mem_of_getElem? (i := 1329) (by decide +kernel)⟩
theorem lw_p51 : lw_okq (⟨"SecondTryModel", "waitTop", "()I"⟩, 68) := ⟨⟨by decide +kernel, by decide +kernel⟩, List.mem_of_getElem? (i := 1033) (by decide +kernel), List.mem_of_getElem? (i := 1332) (by decide +kernel), List.mem_of_getElem? (i := 1333) (by decide +kernel)⟩
theorem lw_p52 : lw_okq (⟨"SecondTryModel", "hasOpenSum", "(I)Z"⟩, 68) := ⟨⟨by decide +kernel, by decide +kernel⟩, List.mem_of_getElem? (i := 1033) (by decide +kernel), List.mem_of_getElem? (i := 1336) (by decide +kernel), List.mem_of_getElem? (i := 1337) (by decide +kernel)⟩
theorem lw_p53 : lw_okq (⟨"SecondTryModel", "readsCondition", "()Z"⟩, 68) := ⟨⟨by decide +kernel, by decide +kernel⟩, List.mem_of_getElem? (i := 1033) (by decide +kernel), List.mem_of_getElem? (i := 1340) (by decide +kernel), List.mem_of_getElem? (i := 1341) (by decide +kernel)⟩
theorem lw_p54 : lw_okq (⟨"SecondTryModel", "readsCompared", "()Z"⟩, 68) := ⟨⟨by decide +kernel, by decide +kernel⟩, List.mem_of_getElem? (i := 1033) (by decide +kernel), List.mem_of_getElem? (i := 1344) (by decide +kernel), List.mem_of_getElem? (i := 1345) (by decide +kernel)⟩
theorem lw_p55 : lw_okq (⟨"SecondTryModel", "endsPiece", "()V"⟩, 68) := ⟨⟨by decide +kernel, by decide +kernel⟩, List.mem_of_getElem? (i := 1033) (by decide +kernel), List.mem_of_getElem? (i := 1348) (by decide +kernel), List.mem_of_getElem? (i := 1349) (by decide +kernel)⟩
theorem lw_p56 : lw_okq (⟨"SecondTryModel", "lands", "(Z)V"⟩, 68) := ⟨⟨by decide +kernel, by decide +kernel⟩, List.mem_of_getElem? (i := 1033) (by decide +kernel), List.mem_of_getElem? (i := 1352) (by decide +kernel), List.mem_of_getElem? (i := 1353) (by decide +kernel)⟩
theorem lw_p57 : lw_okq (⟨"SecondTryModel", "jumps", "(I)V"⟩, 68) := ⟨⟨by decide +kernel, by decide +kernel⟩, List.mem_of_getElem? (i := 1033) (by decide +kernel), List.mem_of_getElem? (i := 1356) (by decide +kernel), List.mem_of_getElem? (i := 1357) (by decide +kernel)⟩
theorem lw_p58 : lw_okq (⟨"SecondTryModel", "takes", "(I)Z"⟩, 68) := ⟨⟨by decide +kernel, by decide +kernel⟩, List.mem_of_getElem? (i := 1033) (by decide +kernel), List.mem_of_getElem? (i := 1360) (by decide +kernel), List.mem_of_getElem? (i := 1361) (by decide +kernel)⟩
theorem lw_p59 : lw_okq (⟨"SecondTryModel", "isLike", "(II)Z"⟩, 68) := ⟨⟨by decide +kernel, by decide +kernel⟩, List.mem_of_getElem? (i := 1033) (by decide +kernel), List.mem_of_getElem? (i := 1368) (by decide +kernel), List.mem_of_getElem? (i := 1369) (by decide +kernel)⟩
theorem lw_p60 : lw_okq (⟨"SecondTryModel", "feelsKind", "(I)V"⟩, 68) := ⟨⟨by decide +kernel, by decide +kernel⟩, List.mem_of_getElem? (i := 1033) (by decide +kernel), List.mem_of_getElem? (i := 1372) (by decide +kernel), List.mem_of_getElem? (i := 1373) (by decide +kernel)⟩
theorem lw_p61 : lw_okq (⟨"SecondTryModel", "comesTo", "(II)I"⟩, 68) := ⟨⟨by decide +kernel, by decide +kernel⟩, List.mem_of_getElem? (i := 1033) (by decide +kernel), List.mem_of_getElem? (i := 1379) (by decide +kernel), List.mem_of_getElem? (i := 1380) (by decide +kernel)⟩
theorem lw_p62 : lw_okq (⟨"SecondTryModel", "isPerson", "(I)Z"⟩, 68) := ⟨⟨by decide +kernel, by decide +kernel⟩, List.mem_of_getElem? (i := 1033) (by decide +kernel), List.mem_of_getElem? (i := 1390) (by decide +kernel), List.mem_of_getElem? (i := 1391) (by decide +kernel)⟩
theorem lw_p63 : lw_okq (⟨"SecondTryModel", "triesNow", "(III)I"⟩, 68) := ⟨⟨by decide +kernel, by decide +kernel⟩, List.mem_of_getElem? (i := 1033) (by decide +kernel), List.mem_of_getElem? (i := 1394) (by decide +kernel), List.mem_of_getElem? (i := 1395) (by decide +kernel)⟩
def lw_privs_4 : List (MethodName × Nat) := [(⟨"SecondTryModel", "readsNumber", "()Z"⟩, 68), (⟨"SecondTryModel", "notes", "(II)V"⟩, 68), (⟨"SecondTryModel", "closesSums", "(Z)V"⟩, 68), (⟨"SecondTryModel", "waitTop", "()I"⟩, 68), (⟨"SecondTryModel", "hasOpenSum", "(I)Z"⟩, 68), (⟨"SecondTryModel", "readsCondition", "()Z"⟩, 68), (⟨"SecondTryModel", "readsCompared", "()Z"⟩, 68), (⟨"SecondTryModel", "endsPiece", "()V"⟩, 68), (⟨"SecondTryModel", "lands", "(Z)V"⟩, 68), (⟨"SecondTryModel", "jumps", "(I)V"⟩, 68), (⟨"SecondTryModel", "takes", "(I)Z"⟩, 68), (⟨"SecondTryModel", "isLike", "(II)Z"⟩, 68), (⟨"SecondTryModel", "feelsKind", "(I)V"⟩, 68), (⟨"SecondTryModel", "comesTo", "(II)I"⟩, 68), (⟨"SecondTryModel", "isPerson", "(I)Z"⟩, 68), (⟨"SecondTryModel", "triesNow", "(III)I"⟩, 68)]
theorem lw_r4 : ∀ q ∈ lw_privs_4, lw_okq q := List.forall_mem_cons.mpr ⟨lw_p48, List.forall_mem_cons.mpr ⟨lw_p49, List.forall_mem_cons.mpr ⟨lw_p50, List.forall_mem_cons.mpr ⟨lw_p51, List.forall_mem_cons.mpr ⟨lw_p52, List.forall_mem_cons.mpr ⟨lw_p53, List.forall_mem_cons.mpr ⟨lw_p54, List.forall_mem_cons.mpr ⟨lw_p55, List.forall_mem_cons.mpr ⟨lw_p56, List.forall_mem_cons.mpr ⟨lw_p57, List.forall_mem_cons.mpr ⟨lw_p58, List.forall_mem_cons.mpr ⟨lw_p59, List.forall_mem_cons.mpr ⟨lw_p60, List.forall_mem_cons.mpr ⟨lw_p61, List.forall_mem_cons.mpr ⟨lw_p62, List.forall_mem_cons.mpr ⟨lw_p63, fun _ h => absurd h List.not_mem_nil⟩⟩⟩⟩⟩⟩⟩⟩⟩⟩⟩⟩⟩⟩⟩⟩
theorem lw_p64 : lw_okq (⟨"SecondTryModel", "forgets", "(II)V"⟩, 68) := ⟨⟨by decide +kernel, by decide +kernel⟩, List.mem_of_getElem? (i := 1033) (by decide +kernel), List.mem_of_getElem? (i := 1398) (by decide +kernel), List.mem_of_getElem? (i := 1399) (by decide +kernel)⟩
theorem lw_p65 : lw_okq (⟨"SecondTryModel", "feels", "(III)V"⟩, 68) := ⟨⟨by decide +kernel, by decide +kernel⟩, List.mem_of_getElem? (i := 1033) (by decide +kernel), List.mem_of_getElem? (i := 1405) (by decide +kernel), List.mem_of_getElem? (i := 1406) (by decide +kernel)⟩
theorem lw_p66 : lw_okq (⟨"SecondTryModel", "allTries", "(I)I"⟩, 68) := ⟨⟨by decide +kernel, by decide +kernel⟩, List.mem_of_getElem? (i := 1033) (by decide +kernel), List.mem_of_getElem? (i := 1409) (by decide +kernel), List.mem_of_getElem? (i := 1410) (by decide +kernel)⟩
theorem lw_p67 : lw_okq (⟨"SecondTryModel", "byLaw", "(III)I"⟩, 68) := ⟨⟨by decide +kernel, by decide +kernel⟩, List.mem_of_getElem? (i := 1033) (by decide +kernel), List.mem_of_getElem? (i := 1413) (by decide +kernel), List.mem_of_getElem? (i := 1414) (by decide +kernel)⟩
theorem lw_p68 : lw_okq (⟨"SecondTryModel", "oldOnes", "(II)I"⟩, 68) := ⟨⟨by decide +kernel, by decide +kernel⟩, List.mem_of_getElem? (i := 1033) (by decide +kernel), List.mem_of_getElem? (i := 1417) (by decide +kernel), List.mem_of_getElem? (i := 1418) (by decide +kernel)⟩
theorem lw_p69 : lw_okq (⟨"SecondTryModel", "voidFor", "(III)I"⟩, 68) := ⟨⟨by decide +kernel, by decide +kernel⟩, List.mem_of_getElem? (i := 1033) (by decide +kernel), List.mem_of_getElem? (i := 1421) (by decide +kernel), List.mem_of_getElem? (i := 1422) (by decide +kernel)⟩
theorem lw_p70 : lw_okq (⟨"SecondTryModel", "hasNeeds", "(II)Z"⟩, 68) := ⟨⟨by decide +kernel, by decide +kernel⟩, List.mem_of_getElem? (i := 1033) (by decide +kernel), List.mem_of_getElem? (i := 1425) (by decide +kernel), List.mem_of_getElem? (i := 1426) (by decide +kernel)⟩
theorem lw_p71 : lw_okq (⟨"SecondTryModel", "costOf", "(III)I"⟩, 68) := ⟨⟨by decide +kernel, by decide +kernel⟩, List.mem_of_getElem? (i := 1033) (by decide +kernel), List.mem_of_getElem? (i := 1436) (by decide +kernel), List.mem_of_getElem? (i := 1437) (by decide +kernel)⟩
theorem lw_p72 : lw_okq (⟨"SecondTryModel", "readsStep", "()Z"⟩, 68) := ⟨⟨by decide +kernel, by decide +kernel⟩, List.mem_of_getElem? (i := 1033) (by decide +kernel), List.mem_of_getElem? (i := 1455) (by decide +kernel), List.mem_of_getElem? (i := 1456) (by decide +kernel)⟩
theorem lw_p73 : lw_okq (⟨"SecondTryModel", "endsRound", "()Z"⟩, 68) := ⟨⟨by decide +kernel, by decide +kernel⟩, List.mem_of_getElem? (i := 1033) (by decide +kernel), List.mem_of_getElem? (i := 1459) (by decide +kernel), List.mem_of_getElem? (i := 1460) (by decide +kernel)⟩
theorem lw_p74 : lw_okq (⟨"SecondTryModel", "daysGo", "(I)V"⟩, 68) := ⟨⟨by decide +kernel, by decide +kernel⟩, List.mem_of_getElem? (i := 1033) (by decide +kernel), List.mem_of_getElem? (i := 1467) (by decide +kernel), List.mem_of_getElem? (i := 1468) (by decide +kernel)⟩
theorem lw_p75 : lw_okq (⟨"SecondTryModel", "dayOf", "(I)V"⟩, 68) := ⟨⟨by decide +kernel, by decide +kernel⟩, List.mem_of_getElem? (i := 1033) (by decide +kernel), List.mem_of_getElem? (i := 1471) (by decide +kernel), List.mem_of_getElem? (i := 1472) (by decide +kernel)⟩
theorem lw_p76 : lw_okq (⟨"SecondTryModel", "notesTry", "(III)V"⟩, 68) := ⟨⟨by decide +kernel, by decide +kernel⟩, List.mem_of_getElem? (i := 1033) (by decide +kernel), List.mem_of_getElem? (i := 1475) (by decide +kernel), List.mem_of_getElem? (i := 1476) (by decide +kernel)⟩
theorem lw_p77 : lw_okq (⟨"SecondTryModel", "areSome", "(III)Z"⟩, 68) := ⟨⟨by decide +kernel, by decide +kernel⟩, List.mem_of_getElem? (i := 1033) (by decide +kernel), List.mem_of_getElem? (i := 1487) (by decide +kernel), List.mem_of_getElem? (i := 1488) (by decide +kernel)⟩
theorem lw_p78 : lw_okq (⟨"SecondTryModel", "laysOwn", "(II)V"⟩, 68) := ⟨⟨by decide +kernel, by decide +kernel⟩, List.mem_of_getElem? (i := 1033) (by decide +kernel), List.mem_of_getElem? (i := 1491) (by decide +kernel), List.mem_of_getElem? (i := 1492) (by decide +kernel)⟩
theorem lw_p79 : lw_okq (⟨"SecondTryModel", "statesAll", "()I"⟩, 68) := ⟨⟨by decide +kernel, by decide +kernel⟩, List.mem_of_getElem? (i := 1033) (by decide +kernel), List.mem_of_getElem? (i := 1495) (by decide +kernel), List.mem_of_getElem? (i := 1496) (by decide +kernel)⟩
def lw_privs_5 : List (MethodName × Nat) := [(⟨"SecondTryModel", "forgets", "(II)V"⟩, 68), (⟨"SecondTryModel", "feels", "(III)V"⟩, 68), (⟨"SecondTryModel", "allTries", "(I)I"⟩, 68), (⟨"SecondTryModel", "byLaw", "(III)I"⟩, 68), (⟨"SecondTryModel", "oldOnes", "(II)I"⟩, 68), (⟨"SecondTryModel", "voidFor", "(III)I"⟩, 68), (⟨"SecondTryModel", "hasNeeds", "(II)Z"⟩, 68), (⟨"SecondTryModel", "costOf", "(III)I"⟩, 68), (⟨"SecondTryModel", "readsStep", "()Z"⟩, 68), (⟨"SecondTryModel", "endsRound", "()Z"⟩, 68), (⟨"SecondTryModel", "daysGo", "(I)V"⟩, 68), (⟨"SecondTryModel", "dayOf", "(I)V"⟩, 68), (⟨"SecondTryModel", "notesTry", "(III)V"⟩, 68), (⟨"SecondTryModel", "areSome", "(III)Z"⟩, 68), (⟨"SecondTryModel", "laysOwn", "(II)V"⟩, 68), (⟨"SecondTryModel", "statesAll", "()I"⟩, 68)]
theorem lw_r5 : ∀ q ∈ lw_privs_5, lw_okq q := List.forall_mem_cons.mpr ⟨lw_p64, List.forall_mem_cons.mpr ⟨lw_p65, List.forall_mem_cons.mpr ⟨lw_p66, List.forall_mem_cons.mpr ⟨lw_p67, List.forall_mem_cons.mpr ⟨lw_p68, List.forall_mem_cons.mpr ⟨lw_p69, List.forall_mem_cons.mpr ⟨lw_p70, List.forall_mem_cons.mpr ⟨lw_p71, List.forall_mem_cons.mpr ⟨lw_p72, List.forall_mem_cons.mpr ⟨lw_p73, List.forall_mem_cons.mpr ⟨lw_p74, List.forall_mem_cons.mpr ⟨lw_p75, List.forall_mem_cons.mpr ⟨lw_p76, List.forall_mem_cons.mpr ⟨lw_p77, List.forall_mem_cons.mpr ⟨lw_p78, List.forall_mem_cons.mpr ⟨lw_p79, fun _ h => absurd h List.not_mem_nil⟩⟩⟩⟩⟩⟩⟩⟩⟩⟩⟩⟩⟩⟩⟩⟩
theorem lw_p80 : lw_okq (⟨"SecondTryModel", "placeOf", "(I)I"⟩, 68) := ⟨⟨by decide +kernel, by decide +kernel⟩, List.mem_of_getElem? (i := 1033) (by decide +kernel), List.mem_of_getElem? (i := 1499) (by decide +kernel), List.mem_of_getElem? (i := 1500) (by decide +kernel)⟩
theorem lw_p81 : lw_okq (⟨"SecondTryModel", "takesState", "(I)V"⟩, 68) := ⟨⟨by decide +kernel, by decide +kernel⟩, List.mem_of_getElem? (i := 1033) (by decide +kernel), List.mem_of_getElem? (i := 1504) (by decide +kernel), List.mem_of_getElem? (i := 1505) (by decide +kernel)⟩
theorem lw_p82 : lw_okq (⟨"SecondTryModel", "hoursNow", "()I"⟩, 68) := ⟨⟨by decide +kernel, by decide +kernel⟩, List.mem_of_getElem? (i := 1033) (by decide +kernel), List.mem_of_getElem? (i := 1508) (by decide +kernel), List.mem_of_getElem? (i := 1509) (by decide +kernel)⟩
theorem lw_p83 : lw_okq (⟨"SecondTryModel", "madeNow", "()I"⟩, 68) := ⟨⟨by decide +kernel, by decide +kernel⟩, List.mem_of_getElem? (i := 1033) (by decide +kernel), List.mem_of_getElem? (i := 1512) (by decide +kernel), List.mem_of_getElem? (i := 1513) (by decide +kernel)⟩
theorem lw_p84 : lw_okq (⟨"SecondTryModel", "spreads", "(I)V"⟩, 68) := ⟨⟨by decide +kernel, by decide +kernel⟩, List.mem_of_getElem? (i := 1033) (by decide +kernel), List.mem_of_getElem? (i := 1516) (by decide +kernel), List.mem_of_getElem? (i := 1517) (by decide +kernel)⟩
theorem lw_p85 : lw_okq (⟨"SecondTryModel", "goesNow", "()I"⟩, 68) := ⟨⟨by decide +kernel, by decide +kernel⟩, List.mem_of_getElem? (i := 1033) (by decide +kernel), List.mem_of_getElem? (i := 1520) (by decide +kernel), List.mem_of_getElem? (i := 1521) (by decide +kernel)⟩
theorem lw_p86 : lw_okq (⟨"SecondTryModel", "wouldCount", "(I)Z"⟩, 68) := ⟨⟨by decide +kernel, by decide +kernel⟩, List.mem_of_getElem? (i := 1033) (by decide +kernel), List.mem_of_getElem? (i := 1524) (by decide +kernel), List.mem_of_getElem? (i := 1525) (by decide +kernel)⟩
theorem lw_p87 : lw_okq (⟨"SecondTryModel", "areCounted", "(I)Z"⟩, 68) := ⟨⟨by decide +kernel, by decide +kernel⟩, List.mem_of_getElem? (i := 1033) (by decide +kernel), List.mem_of_getElem? (i := 1528) (by decide +kernel), List.mem_of_getElem? (i := 1529) (by decide +kernel)⟩
theorem lw_p88 : lw_okq (⟨"SecondTryModel", "wayWith", "(III)I"⟩, 68) := ⟨⟨by decide +kernel, by decide +kernel⟩, List.mem_of_getElem? (i := 1033) (by decide +kernel), List.mem_of_getElem? (i := 1532) (by decide +kernel), List.mem_of_getElem? (i := 1533) (by decide +kernel)⟩
theorem lw_p89 : lw_okq (⟨"SecondTryModel", "marks", "(II)V"⟩, 68) := ⟨⟨by decide +kernel, by decide +kernel⟩, List.mem_of_getElem? (i := 1033) (by decide +kernel), List.mem_of_getElem? (i := 1536) (by decide +kernel), List.mem_of_getElem? (i := 1537) (by decide +kernel)⟩
theorem lw_p90 : lw_okq (⟨"SecondTryModel", "stateNow", "()I"⟩, 68) := ⟨⟨by decide +kernel, by decide +kernel⟩, List.mem_of_getElem? (i := 1033) (by decide +kernel), List.mem_of_getElem? (i := 1540) (by decide +kernel), List.mem_of_getElem? (i := 1541) (by decide +kernel)⟩
theorem lw_p91 : lw_okq (⟨"SecondTryModel", "leastPrice", "(II)I"⟩, 68) := ⟨⟨by decide +kernel, by decide +kernel⟩, List.mem_of_getElem? (i := 1033) (by decide +kernel), List.mem_of_getElem? (i := 1548) (by decide +kernel), List.mem_of_getElem? (i := 1549) (by decide +kernel)⟩
theorem lw_p92 : lw_okq (⟨"SecondTryModel", "marksBought", "(I)V"⟩, 68) := ⟨⟨by decide +kernel, by decide +kernel⟩, List.mem_of_getElem? (i := 1033) (by decide +kernel), List.mem_of_getElem? (i := 1552) (by decide +kernel), List.mem_of_getElem? (i := 1553) (by decide +kernel)⟩
theorem lw_p93 : lw_okq (⟨"SecondTryModel", "coinsNow", "()I"⟩, 68) := ⟨⟨by decide +kernel, by decide +kernel⟩, List.mem_of_getElem? (i := 1033) (by decide +kernel), List.mem_of_getElem? (i := 1556) (by decide +kernel), List.mem_of_getElem? (i := 1557) (by decide +kernel)⟩
theorem lw_p94 : lw_okq (⟨"SecondTryModel", "finds", "(II)Z"⟩, 68) := ⟨⟨by decide +kernel, by decide +kernel⟩, List.mem_of_getElem? (i := 1033) (by decide +kernel), List.mem_of_getElem? (i := 1564) (by decide +kernel), List.mem_of_getElem? (i := 1565) (by decide +kernel)⟩
theorem lw_p95 : lw_okq (⟨"SecondTryModel", "takesJobs", "(I)Z"⟩, 68) := ⟨⟨by decide +kernel, by decide +kernel⟩, List.mem_of_getElem? (i := 1033) (by decide +kernel), List.mem_of_getElem? (i := 1572) (by decide +kernel), List.mem_of_getElem? (i := 1573) (by decide +kernel)⟩
def lw_privs_6 : List (MethodName × Nat) := [(⟨"SecondTryModel", "placeOf", "(I)I"⟩, 68), (⟨"SecondTryModel", "takesState", "(I)V"⟩, 68), (⟨"SecondTryModel", "hoursNow", "()I"⟩, 68), (⟨"SecondTryModel", "madeNow", "()I"⟩, 68), (⟨"SecondTryModel", "spreads", "(I)V"⟩, 68), (⟨"SecondTryModel", "goesNow", "()I"⟩, 68), (⟨"SecondTryModel", "wouldCount", "(I)Z"⟩, 68), (⟨"SecondTryModel", "areCounted", "(I)Z"⟩, 68), (⟨"SecondTryModel", "wayWith", "(III)I"⟩, 68), (⟨"SecondTryModel", "marks", "(II)V"⟩, 68), (⟨"SecondTryModel", "stateNow", "()I"⟩, 68), (⟨"SecondTryModel", "leastPrice", "(II)I"⟩, 68), (⟨"SecondTryModel", "marksBought", "(I)V"⟩, 68), (⟨"SecondTryModel", "coinsNow", "()I"⟩, 68), (⟨"SecondTryModel", "finds", "(II)Z"⟩, 68), (⟨"SecondTryModel", "takesJobs", "(I)Z"⟩, 68)]
theorem lw_r6 : ∀ q ∈ lw_privs_6, lw_okq q := List.forall_mem_cons.mpr ⟨lw_p80, List.forall_mem_cons.mpr ⟨lw_p81, List.forall_mem_cons.mpr ⟨lw_p82, List.forall_mem_cons.mpr ⟨lw_p83, List.forall_mem_cons.mpr ⟨lw_p84, List.forall_mem_cons.mpr ⟨lw_p85, List.forall_mem_cons.mpr ⟨lw_p86, List.forall_mem_cons.mpr ⟨lw_p87, List.forall_mem_cons.mpr ⟨lw_p88, List.forall_mem_cons.mpr ⟨lw_p89, List.forall_mem_cons.mpr ⟨lw_p90, List.forall_mem_cons.mpr ⟨lw_p91, List.forall_mem_cons.mpr ⟨lw_p92, List.forall_mem_cons.mpr ⟨lw_p93, List.forall_mem_cons.mpr ⟨lw_p94, List.forall_mem_cons.mpr ⟨lw_p95, fun _ h => absurd h List.not_mem_nil⟩⟩⟩⟩⟩⟩⟩⟩⟩⟩⟩⟩⟩⟩⟩⟩
theorem lw_p96 : lw_okq (⟨"SecondTryModel", "longestBy", "(I)I"⟩, 68) := ⟨⟨by decide +kernel, by decide +kernel⟩, List.mem_of_getElem? (i := 1033) (by decide +kernel), List.mem_of_getElem? (i := 1576) (by decide +kernel), List.mem_of_getElem? (i := 1577) (by decide +kernel)⟩
theorem lw_p97 : lw_okq (⟨"SecondTryModel", "hoursBy", "(II)I"⟩, 68) := ⟨⟨by decide +kernel, by decide +kernel⟩, List.mem_of_getElem? (i := 1033) (by decide +kernel), List.mem_of_getElem? (i := 1580) (by decide +kernel), List.mem_of_getElem? (i := 1581) (by decide +kernel)⟩
theorem lw_p98 : lw_okq (⟨"SecondTryModel", "whoDoes", "(II)I"⟩, 68) := ⟨⟨by decide +kernel, by decide +kernel⟩, List.mem_of_getElem? (i := 1033) (by decide +kernel), List.mem_of_getElem? (i := 1584) (by decide +kernel), List.mem_of_getElem? (i := 1585) (by decide +kernel)⟩
theorem lw_p99 : lw_okq (⟨"SecondTryModel", "jobNeeds", "(II)Z"⟩, 68) := ⟨⟨by decide +kernel, by decide +kernel⟩, List.mem_of_getElem? (i := 1033) (by decide +kernel), List.mem_of_getElem? (i := 1588) (by decide +kernel), List.mem_of_getElem? (i := 1589) (by decide +kernel)⟩
theorem lw_p100 : lw_okq (⟨"SecondTryModel", "jobCounts", "(II)Z"⟩, 68) := ⟨⟨by decide +kernel, by decide +kernel⟩, List.mem_of_getElem? (i := 1033) (by decide +kernel), List.mem_of_getElem? (i := 1592) (by decide +kernel), List.mem_of_getElem? (i := 1593) (by decide +kernel)⟩
theorem lw_p101 : lw_okq (⟨"SecondTryModel", "takesPast", "(II)Z"⟩, 68) := ⟨⟨by decide +kernel, by decide +kernel⟩, List.mem_of_getElem? (i := 1033) (by decide +kernel), List.mem_of_getElem? (i := 1610) (by decide +kernel), List.mem_of_getElem? (i := 1611) (by decide +kernel)⟩
theorem lw_p102 : lw_okq (⟨"SecondTryModel", "goesWith", "(III)Z"⟩, 68) := ⟨⟨by decide +kernel, by decide +kernel⟩, List.mem_of_getElem? (i := 1033) (by decide +kernel), List.mem_of_getElem? (i := 1614) (by decide +kernel), List.mem_of_getElem? (i := 1615) (by decide +kernel)⟩
theorem lw_p103 : lw_okq (⟨"SecondTryModel", "begins", "(I)V"⟩, 68) := ⟨⟨by decide +kernel, by decide +kernel⟩, List.mem_of_getElem? (i := 1033) (by decide +kernel), List.mem_of_getElem? (i := 1618) (by decide +kernel), List.mem_of_getElem? (i := 1619) (by decide +kernel)⟩
theorem lw_p104 : lw_okq (⟨"SecondTryModel", "pastCounts", "(II)Z"⟩, 68) := ⟨⟨by decide +kernel, by decide +kernel⟩, List.mem_of_getElem? (i := 1033) (by decide +kernel), List.mem_of_getElem? (i := 1622) (by decide +kernel), List.mem_of_getElem? (i := 1623) (by decide +kernel)⟩
theorem lw_p105 : lw_okq (⟨"SecondTryModel", "greaterBy", "(IIII)I"⟩, 68) := ⟨⟨by decide +kernel, by decide +kernel⟩, List.mem_of_getElem? (i := 1033) (by decide +kernel), List.mem_of_getElem? (i := 1626) (by decide +kernel), List.mem_of_getElem? (i := 1627) (by decide +kernel)⟩
theorem lw_p106 : lw_okq (⟨"SecondTryModel", "winningMove", "(IZZ)I"⟩, 68) := ⟨⟨by decide +kernel, by decide +kernel⟩, List.mem_of_getElem? (i := 1033) (by decide +kernel), List.mem_of_getElem? (i := 1637) (by decide +kernel), List.mem_of_getElem? (i := 1638) (by decide +kernel)⟩
theorem lw_p107 : lw_okq (⟨"SecondTryModel", "wins", "(IZZII)Z"⟩, 68) := ⟨⟨by decide +kernel, by decide +kernel⟩, List.mem_of_getElem? (i := 1033) (by decide +kernel), List.mem_of_getElem? (i := 1644) (by decide +kernel), List.mem_of_getElem? (i := 1645) (by decide +kernel)⟩
theorem lw_p108 : lw_okq (⟨"SecondTryModel", "tapeNumber", "(I)I"⟩, 68) := ⟨⟨by decide +kernel, by decide +kernel⟩, List.mem_of_getElem? (i := 1033) (by decide +kernel), List.mem_of_getElem? (i := 1667) (by decide +kernel), List.mem_of_getElem? (i := 1668) (by decide +kernel)⟩
theorem lw_p109 : lw_okq (⟨"SecondTryModel", "sumOf", "(II)I"⟩, 68) := ⟨⟨by decide +kernel, by decide +kernel⟩, List.mem_of_getElem? (i := 1033) (by decide +kernel), List.mem_of_getElem? (i := 1675) (by decide +kernel), List.mem_of_getElem? (i := 1676) (by decide +kernel)⟩
def lw_privs_7 : List (MethodName × Nat) := [(⟨"SecondTryModel", "longestBy", "(I)I"⟩, 68), (⟨"SecondTryModel", "hoursBy", "(II)I"⟩, 68), (⟨"SecondTryModel", "whoDoes", "(II)I"⟩, 68), (⟨"SecondTryModel", "jobNeeds", "(II)Z"⟩, 68), (⟨"SecondTryModel", "jobCounts", "(II)Z"⟩, 68), (⟨"SecondTryModel", "takesPast", "(II)Z"⟩, 68), (⟨"SecondTryModel", "goesWith", "(III)Z"⟩, 68), (⟨"SecondTryModel", "begins", "(I)V"⟩, 68), (⟨"SecondTryModel", "pastCounts", "(II)Z"⟩, 68), (⟨"SecondTryModel", "greaterBy", "(IIII)I"⟩, 68), (⟨"SecondTryModel", "winningMove", "(IZZ)I"⟩, 68), (⟨"SecondTryModel", "wins", "(IZZII)Z"⟩, 68), (⟨"SecondTryModel", "tapeNumber", "(I)I"⟩, 68), (⟨"SecondTryModel", "sumOf", "(II)I"⟩, 68)]
theorem lw_r7 : ∀ q ∈ lw_privs_7, lw_okq q := List.forall_mem_cons.mpr ⟨lw_p96, List.forall_mem_cons.mpr ⟨lw_p97, List.forall_mem_cons.mpr ⟨lw_p98, List.forall_mem_cons.mpr ⟨lw_p99, List.forall_mem_cons.mpr ⟨lw_p100, List.forall_mem_cons.mpr ⟨lw_p101, List.forall_mem_cons.mpr ⟨lw_p102, List.forall_mem_cons.mpr ⟨lw_p103, List.forall_mem_cons.mpr ⟨lw_p104, List.forall_mem_cons.mpr ⟨lw_p105, List.forall_mem_cons.mpr ⟨lw_p106, List.forall_mem_cons.mpr ⟨lw_p107, List.forall_mem_cons.mpr ⟨lw_p108, List.forall_mem_cons.mpr ⟨lw_p109, fun _ h => absurd h List.not_mem_nil⟩⟩⟩⟩⟩⟩⟩⟩⟩⟩⟩⟩⟩⟩
def lw_privs : List (MethodName × Nat) := lw_privs_1 ++ (lw_privs_2 ++ (lw_privs_3 ++ (lw_privs_4 ++ (lw_privs_5 ++ (lw_privs_6 ++ (lw_privs_7))))))
def lw_tbl : List Cond := k2_sels lw_privs ++ tables_1
theorem lw_privs_ok : ∀ q ∈ lw_privs, lw_okq q := by
  show ∀ q ∈ lw_privs_1 ++ (lw_privs_2 ++ (lw_privs_3 ++ (lw_privs_4 ++ (lw_privs_5 ++ (lw_privs_6 ++ (lw_privs_7)))))), lw_okq q
  exact List.forall_mem_append.mpr ⟨lw_r1, List.forall_mem_append.mpr ⟨lw_r2, List.forall_mem_append.mpr ⟨lw_r3, List.forall_mem_append.mpr ⟨lw_r4, List.forall_mem_append.mpr ⟨lw_r5, List.forall_mem_append.mpr ⟨lw_r6, lw_r7⟩⟩⟩⟩⟩⟩

def RJ6 : String := "java/lang/Integer"
def RJ7 : String := "java/util/Arrays"
def RJ9 : String := "java/lang/Math"
def RX0 : String := "SecondTry$Clerk"
def TX0 : u_T := fun k => match k with
  | 0 => ("SecondTry$Clerk", "kinds", "LSecondTry$Kinds;", true)
  | 1 => ("SecondTry$Clerk", "judge", "LSecondTry$Judge;", true)
  | 2 => ("SecondTry$Clerk", "foundOld", "I", false)
  | 3 => ("SecondTry$Clerk", "foundVoid", "I", false)
  | 4 => ("SecondTry$Clerk", "daysTries", "I", false)
  | 5 => ("SecondTry$Clerk", "daysCounted", "I", false)
  | 6 => ("SecondTry$Clerk", "daysHours", "I", false)
  | 7 => ("SecondTry$Clerk", "stallDay", "I", false)
  | 8 => ("SecondTry$Clerk", "stallPerson", "I", false)
  | _ => ("SecondTry$Clerk", "stallKind", "I", false)
def tyX0 : Nat → FieldType := fun k => match k with
  | 0 => .object "SecondTry$Kinds"
  | 1 => .object "SecondTry$Judge"
  | 2 => .int
  | 3 => .int
  | 4 => .int
  | 5 => .int
  | 6 => .int
  | 7 => .int
  | 8 => .int
  | _ => .int
abbrev wsX00 : List Cond := u_ws RX0 TX0 10
theorem nmX0 : ∀ a, a < 10 → ∀ b, b < 10 → a ≠ b → (TX0 a).2.1 ≠ (TX0 b).2.1 := by decide +kernel
theorem tyX0_ok : ∀ k, k < 10 → parseFieldDescriptor (TX0 k).2.2.1 = some (tyX0 k) := by decide +kernel
abbrev cX0_init : ByteArray := prog_2_method_1_code
def yX0_init : MethodName := ⟨RX0, "<init>", "(LSecondTry$Kinds;LSecondTry$Judge;)V"⟩
abbrev cX0_attempt : ByteArray := prog_2_method_2_code
def yX0_attempt : MethodName := ⟨RX0, "attempt", "(LSecondTry$Town;III)I"⟩
abbrev cX0_price : ByteArray := prog_2_method_3_code
def yX0_price : MethodName := ⟨RX0, "price", "(LSecondTry$Town;III)I"⟩
abbrev cX0_buyGo : ByteArray := prog_2_method_4_code
def yX0_buyGo : MethodName := ⟨RX0, "buyGo", "(LSecondTry$Town;III)I"⟩
abbrev cX0_goDays : ByteArray := prog_2_method_5_code
def yX0_goDays : MethodName := ⟨RX0, "goDays", "(LSecondTry$Town;I)V"⟩
abbrev cX0_cameOfDays : ByteArray := prog_2_method_6_code
def yX0_cameOfDays : MethodName := ⟨RX0, "cameOfDays", "(I)I"⟩
abbrev cX0_doSteps : ByteArray := prog_2_method_7_code
def yX0_doSteps : MethodName := ⟨RX0, "doSteps", "(LSecondTry$Town;I)V"⟩
abbrev cX0_noteOutcome : ByteArray := prog_2_method_8_code
def yX0_noteOutcome : MethodName := ⟨RX0, "noteOutcome", "(IIII)V"⟩
abbrev cX0_forget : ByteArray := prog_2_method_9_code
def yX0_forget : MethodName := ⟨RX0, "forget", "(LSecondTry$Town;II)V"⟩
abbrev cX0_tellAll : ByteArray := prog_2_method_10_code
def yX0_tellAll : MethodName := ⟨RX0, "tellAll", "(LSecondTry$Town;III)V"⟩
def RX1 : String := "SecondTry$Judge"
def TX1 : u_T := fun k => match k with
  | 0 => ("SecondTry$Judge", "kinds", "LSecondTry$Kinds;", true)
  | 1 => ("SecondTry$Judge", "told", "[I", true)
  | 2 => ("SecondTry$Judge", "stack", "[I", true)
  | 3 => ("SecondTry$Judge", "law", "LSecondTry$Law;", false)
  | _ => ("SecondTry$Judge", "isRefused", "Z", false)
def tyX1 : Nat → FieldType := fun k => match k with
  | 0 => .object "SecondTry$Kinds"
  | 1 => .array .int
  | 2 => .array .int
  | 3 => .object "SecondTry$Law"
  | _ => .boolean
abbrev wsX10 : List Cond := u_ws RX1 TX1 5
theorem nmX1 : ∀ a, a < 5 → ∀ b, b < 5 → a ≠ b → (TX1 a).2.1 ≠ (TX1 b).2.1 := by decide +kernel
theorem tyX1_ok : ∀ k, k < 5 → parseFieldDescriptor (TX1 k).2.2.1 = some (tyX1 k) := by decide +kernel
abbrev cX1_init : ByteArray := prog_3_method_1_code
def yX1_init : MethodName := ⟨RX1, "<init>", "(LSecondTry$Kinds;)V"⟩
abbrev cX1_findsAlike : ByteArray := prog_3_method_2_code
def yX1_findsAlike : MethodName := ⟨RX1, "findsAlike", "(III)Z"⟩
abbrev cX1_alikes : ByteArray := prog_3_method_3_code
def yX1_alikes : MethodName := ⟨RX1, "alikes", "(II)I"⟩
abbrev cX1_isLoophole : ByteArray := prog_3_method_4_code
def yX1_isLoophole : MethodName := ⟨RX1, "isLoophole", "(IIII)Z"⟩
abbrev cX1_tellDeed : ByteArray := prog_3_method_5_code
def yX1_tellDeed : MethodName := ⟨RX1, "tellDeed", "(IIII)V"⟩
abbrev cX1_tellTry : ByteArray := prog_3_method_6_code
def yX1_tellTry : MethodName := ⟨RX1, "tellTry", "(IIIII)V"⟩
abbrev cX1_voidTries : ByteArray := prog_3_method_7_code
def yX1_voidTries : MethodName := ⟨RX1, "voidTries", "()I"⟩
abbrev cX1_amount : ByteArray := prog_3_method_8_code
def yX1_amount : MethodName := ⟨RX1, "amount", "(III)I"⟩
abbrev cX1_isAlike : ByteArray := prog_3_method_9_code
def yX1_isAlike : MethodName := ⟨RX1, "isAlike", "(I)Z"⟩
abbrev cX1_run : ByteArray := prog_3_method_10_code
def yX1_run : MethodName := ⟨RX1, "run", "(II)I"⟩
abbrev cX1_reckon : ByteArray := prog_3_method_11_code
def yX1_reckon : MethodName := ⟨RX1, "reckon", "(III)I"⟩
def RX2 : String := "SecondTry$Kinds"
def TX2 : u_T := fun k => match k with
  | 0 => ("SecondTry$Kinds", "hours", "[I", true)
  | 1 => ("SecondTry$Kinds", "marks", "[I", true)
  | 2 => ("SecondTry$Kinds", "needs", "[I", true)
  | _ => ("SecondTry$Kinds", "told", "I", false)
def tyX2 : Nat → FieldType := fun k => match k with
  | 0 => .array .int
  | 1 => .array .int
  | 2 => .array .int
  | _ => .int
abbrev wsX20 : List Cond := u_ws RX2 TX2 4
theorem nmX2 : ∀ a, a < 4 → ∀ b, b < 4 → a ≠ b → (TX2 a).2.1 ≠ (TX2 b).2.1 := by decide +kernel
theorem tyX2_ok : ∀ k, k < 4 → parseFieldDescriptor (TX2 k).2.2.1 = some (tyX2 k) := by decide +kernel
abbrev cX2_init : ByteArray := prog_4_method_1_code
def yX2_init : MethodName := ⟨RX2, "<init>", "()V"⟩
abbrev cX2_knows : ByteArray := prog_4_method_2_code
def yX2_knows : MethodName := ⟨RX2, "knows", "(I)Z"⟩
abbrev cX2_knowsAll : ByteArray := prog_4_method_3_code
def yX2_knowsAll : MethodName := ⟨RX2, "knowsAll", "(I)Z"⟩
abbrev cX2_tell : ByteArray := prog_4_method_4_code
def yX2_tell : MethodName := ⟨RX2, "tell", "(IIII)Z"⟩
def RX3 : String := "SecondTry$Law"
def TX3 : u_T := fun k => match k with
  | 0 => ("SecondTry$Law", "ops", "[I", true)
  | 1 => ("SecondTry$Law", "args", "[I", true)
  | 2 => ("SecondTry$Law", "letters", "[I", true)
  | 3 => ("SecondTry$Law", "sumAt", "[I", true)
  | 4 => ("SecondTry$Law", "conditionAt", "[I", true)
  | 5 => ("SecondTry$Law", "endAt", "[I", true)
  | 6 => ("SecondTry$Law", "codes", "I", false)
  | _ => ("SecondTry$Law", "clauses", "I", false)
def tyX3 : Nat → FieldType := fun k => match k with
  | 0 => .array .int
  | 1 => .array .int
  | 2 => .array .int
  | 3 => .array .int
  | 4 => .array .int
  | 5 => .array .int
  | 6 => .int
  | _ => .int
abbrev wsX30 : List Cond := u_ws RX3 TX3 8
theorem nmX3 : ∀ a, a < 8 → ∀ b, b < 8 → a ≠ b → (TX3 a).2.1 ≠ (TX3 b).2.1 := by decide +kernel
theorem tyX3_ok : ∀ k, k < 8 → parseFieldDescriptor (TX3 k).2.2.1 = some (tyX3 k) := by decide +kernel
abbrev cX3_init : ByteArray := prog_5_method_1_code
def yX3_init : MethodName := ⟨RX3, "<init>", "()V"⟩
abbrev cX3_clear : ByteArray := prog_5_method_2_code
def yX3_clear : MethodName := ⟨RX3, "clear", "()V"⟩
abbrev cX3_add : ByteArray := prog_5_method_3_code
def yX3_add : MethodName := ⟨RX3, "add", "(II)I"⟩
abbrev cX3_skipToHere : ByteArray := prog_5_method_4_code
def yX3_skipToHere : MethodName := ⟨RX3, "skipToHere", "(I)V"⟩
abbrev cX3_addClause : ByteArray := prog_5_method_5_code
def yX3_addClause : MethodName := ⟨RX3, "addClause", "(III)V"⟩
def RX4 : String := "SecondTry$LawReader"
def TX4 : u_T := fun k => match k with
  | 0 => ("SecondTry$LawReader", "text", "LSecondTry$Tape;", true)
  | _ => ("SecondTry$LawReader", "law", "LSecondTry$Law;", false)
def tyX4 : Nat → FieldType := fun k => match k with
  | 0 => .object "SecondTry$Tape"
  | _ => .object "SecondTry$Law"
abbrev wsX40 : List Cond := u_ws RX4 TX4 2
theorem nmX4 : ∀ a, a < 2 → ∀ b, b < 2 → a ≠ b → (TX4 a).2.1 ≠ (TX4 b).2.1 := by decide +kernel
theorem tyX4_ok : ∀ k, k < 2 → parseFieldDescriptor (TX4 k).2.2.1 = some (tyX4 k) := by decide +kernel
abbrev cX4_init : ByteArray := prog_6_method_1_code
def yX4_init : MethodName := ⟨RX4, "<init>", "(LSecondTry$Tape;)V"⟩
abbrev cX4_read : ByteArray := prog_6_method_2_code
def yX4_read : MethodName := ⟨RX4, "read", "(I)I"⟩
abbrev cX4_readClause : ByteArray := prog_6_method_3_code
def yX4_readClause : MethodName := ⟨RX4, "readClause", "()Z"⟩
abbrev cX4_readCondition : ByteArray := prog_6_method_4_code
def yX4_readCondition : MethodName := ⟨RX4, "readCondition", "(I)Z"⟩
abbrev cX4_readPart : ByteArray := prog_6_method_5_code
def yX4_readPart : MethodName := ⟨RX4, "readPart", "(I)Z"⟩
abbrev cX4_readPiece : ByteArray := prog_6_method_6_code
def yX4_readPiece : MethodName := ⟨RX4, "readPiece", "(I)Z"⟩
abbrev cX4_readSum : ByteArray := prog_6_method_7_code
def yX4_readSum : MethodName := ⟨RX4, "readSum", "(I)Z"⟩
abbrev cX4_readProduct : ByteArray := prog_6_method_8_code
def yX4_readProduct : MethodName := ⟨RX4, "readProduct", "(I)Z"⟩
abbrev cX4_readFactor : ByteArray := prog_6_method_9_code
def yX4_readFactor : MethodName := ⟨RX4, "readFactor", "(I)Z"⟩
abbrev cX4_readNumber : ByteArray := prog_6_method_10_code
def yX4_readNumber : MethodName := ⟨RX4, "readNumber", "()Z"⟩
abbrev cX4_opens : ByteArray := prog_6_method_11_code
def yX4_opens : MethodName := ⟨RX4, "opens", "(I)Z"⟩
def RX5 : String := "SecondTry$Parting"
def TX5 : u_T := fun k => match k with
  | 0 => ("SecondTry$Parting", "kinds", "LSecondTry$Kinds;", true)
  | 1 => ("SecondTry$Parting", "judge", "LSecondTry$Judge;", true)
  | 2 => ("SecondTry$Parting", "clerk", "LSecondTry$Clerk;", true)
  | 3 => ("SecondTry$Parting", "row", "[I", true)
  | 4 => ("SecondTry$Parting", "workers", "[I", true)
  | 5 => ("SecondTry$Parting", "setHours", "[I", true)
  | 6 => ("SecondTry$Parting", "alikes", "[I", true)
  | 7 => ("SecondTry$Parting", "sets", "[I", true)
  | 8 => ("SecondTry$Parting", "trial", "LSecondTry$Town;", true)
  | 9 => ("SecondTry$Parting", "jobCount", "I", false)
  | 10 => ("SecondTry$Parting", "workerCount", "I", false)
  | 11 => ("SecondTry$Parting", "bestHours", "I", false)
  | _ => ("SecondTry$Parting", "bestRow", "I", false)
def tyX5 : Nat → FieldType := fun k => match k with
  | 0 => .object "SecondTry$Kinds"
  | 1 => .object "SecondTry$Judge"
  | 2 => .object "SecondTry$Clerk"
  | 3 => .array .int
  | 4 => .array .int
  | 5 => .array .int
  | 6 => .array .int
  | 7 => .array .int
  | 8 => .object "SecondTry$Town"
  | 9 => .int
  | 10 => .int
  | 11 => .int
  | _ => .int
abbrev wsX50 : List Cond := u_ws RX5 TX5 13
theorem nmX5 : ∀ a, a < 13 → ∀ b, b < 13 → a ≠ b → (TX5 a).2.1 ≠ (TX5 b).2.1 := by decide +kernel
theorem tyX5_ok : ∀ k, k < 13 → parseFieldDescriptor (TX5 k).2.2.1 = some (tyX5 k) := by decide +kernel
abbrev cX5_init : ByteArray := prog_7_method_1_code
def yX5_init : MethodName := ⟨RX5, "<init>", "(LSecondTry$Kinds;LSecondTry$Judge;LSecondTry$Clerk;LSecondTry$Town;)V"⟩
abbrev cX5_read : ByteArray := prog_7_method_2_code
def yX5_read : MethodName := ⟨RX5, "read", "(LSecondTry$Tape;I)Z"⟩
abbrev cX5_takeWorkers : ByteArray := prog_7_method_3_code
def yX5_takeWorkers : MethodName := ⟨RX5, "takeWorkers", "(I)Z"⟩
abbrev cX5_solve : ByteArray := prog_7_method_4_code
def yX5_solve : MethodName := ⟨RX5, "solve", "(LSecondTry$Town;)V"⟩
abbrev cX5_workerOf : ByteArray := prog_7_method_5_code
def yX5_workerOf : MethodName := ⟨RX5, "workerOf", "(I)I"⟩
abbrev cX5_goThroughSets : ByteArray := prog_7_method_6_code
def yX5_goThroughSets : MethodName := ⟨RX5, "goThroughSets", "(IIII)V"⟩
abbrev cX5_hoursFor : ByteArray := prog_7_method_7_code
def yX5_hoursFor : MethodName := ⟨RX5, "hoursFor", "(II)I"⟩
abbrev cX5_findBestRow : ByteArray := prog_7_method_8_code
def yX5_findBestRow : MethodName := ⟨RX5, "findBestRow", "()V"⟩
abbrev cX5_longestOf : ByteArray := prog_7_method_9_code
def yX5_longestOf : MethodName := ⟨RX5, "longestOf", "(I)I"⟩
def RX6 : String := "SecondTry$PlanReader"
def TX6 : u_T := fun k => match k with
  | 0 => ("SecondTry$PlanReader", "text", "LSecondTry$Tape;", true)
  | 1 => ("SecondTry$PlanReader", "stepKinds", "[I", true)
  | 2 => ("SecondTry$PlanReader", "stepWith", "[I", true)
  | _ => ("SecondTry$PlanReader", "steps", "I", false)
def tyX6 : Nat → FieldType := fun k => match k with
  | 0 => .object "SecondTry$Tape"
  | 1 => .array .int
  | 2 => .array .int
  | _ => .int
abbrev wsX60 : List Cond := u_ws RX6 TX6 4
theorem nmX6 : ∀ a, a < 4 → ∀ b, b < 4 → a ≠ b → (TX6 a).2.1 ≠ (TX6 b).2.1 := by decide +kernel
theorem tyX6_ok : ∀ k, k < 4 → parseFieldDescriptor (TX6 k).2.2.1 = some (tyX6 k) := by decide +kernel
abbrev cX6_init : ByteArray := prog_8_method_1_code
def yX6_init : MethodName := ⟨RX6, "<init>", "(LSecondTry$Tape;)V"⟩
abbrev cX6_read : ByteArray := prog_8_method_2_code
def yX6_read : MethodName := ⟨RX6, "read", "(I)I"⟩
abbrev cX6_readSteps : ByteArray := prog_8_method_3_code
def yX6_readSteps : MethodName := ⟨RX6, "readSteps", "(I)Z"⟩
abbrev cX6_readStep : ByteArray := prog_8_method_4_code
def yX6_readStep : MethodName := ⟨RX6, "readStep", "(I)Z"⟩
abbrev cX6_readTry : ByteArray := prog_8_method_5_code
def yX6_readTry : MethodName := ⟨RX6, "readTry", "()Z"⟩
abbrev cX6_repeatSteps : ByteArray := prog_8_method_6_code
def yX6_repeatSteps : MethodName := ⟨RX6, "repeatSteps", "(II)Z"⟩
abbrev cX6_addStep : ByteArray := prog_8_method_7_code
def yX6_addStep : MethodName := ⟨RX6, "addStep", "(II)Z"⟩
def RX7 : String := "SecondTry$Search"
def TX7 : u_T := fun k => match k with
  | 0 => ("SecondTry$Search", "kinds", "LSecondTry$Kinds;", true)
  | 1 => ("SecondTry$Search", "judge", "LSecondTry$Judge;", true)
  | 2 => ("SecondTry$Search", "clerk", "LSecondTry$Clerk;", true)
  | 3 => ("SecondTry$Search", "choice", "[I", true)
  | 4 => ("SecondTry$Search", "hasOld", "[I", true)
  | 5 => ("SecondTry$Search", "alikes", "[I", true)
  | 6 => ("SecondTry$Search", "lacks", "[I", true)
  | 7 => ("SecondTry$Search", "prices", "[I", true)
  | 8 => ("SecondTry$Search", "voids", "[I", true)
  | 9 => ("SecondTry$Search", "ways", "[I", true)
  | 10 => ("SecondTry$Search", "size", "I", false)
  | 11 => ("SecondTry$Search", "aim", "I", false)
  | 12 => ("SecondTry$Search", "bestCoins", "I", false)
  | _ => ("SecondTry$Search", "bestHours", "I", false)
def tyX7 : Nat → FieldType := fun k => match k with
  | 0 => .object "SecondTry$Kinds"
  | 1 => .object "SecondTry$Judge"
  | 2 => .object "SecondTry$Clerk"
  | 3 => .array .int
  | 4 => .array .int
  | 5 => .array .int
  | 6 => .array .int
  | 7 => .array .int
  | 8 => .array .int
  | 9 => .array .int
  | 10 => .int
  | 11 => .int
  | 12 => .int
  | _ => .int
abbrev wsX70 : List Cond := u_ws RX7 TX7 14
theorem nmX7 : ∀ a, a < 14 → ∀ b, b < 14 → a ≠ b → (TX7 a).2.1 ≠ (TX7 b).2.1 := by decide +kernel
theorem tyX7_ok : ∀ k, k < 14 → parseFieldDescriptor (TX7 k).2.2.1 = some (tyX7 k) := by decide +kernel
abbrev cX7_init : ByteArray := prog_9_method_1_code
def yX7_init : MethodName := ⟨RX7, "<init>", "(LSecondTry$Kinds;LSecondTry$Judge;LSecondTry$Clerk;)V"⟩
abbrev cX7_prepare : ByteArray := prog_9_method_2_code
def yX7_prepare : MethodName := ⟨RX7, "prepare", "(LSecondTry$Town;III)V"⟩
abbrev cX7_soonestWay : ByteArray := prog_9_method_3_code
def yX7_soonestWay : MethodName := ⟨RX7, "soonestWay", "(I)I"⟩
abbrev cX7_findCheapest : ByteArray := prog_9_method_4_code
def yX7_findCheapest : MethodName := ⟨RX7, "findCheapest", "(LSecondTry$Town;II)V"⟩
abbrev cX7_askVoids : ByteArray := prog_9_method_5_code
def yX7_askVoids : MethodName := ⟨RX7, "askVoids", "(LSecondTry$Town;II)V"⟩
abbrev cX7_toPlaces : ByteArray := prog_9_method_6_code
def yX7_toPlaces : MethodName := ⟨RX7, "toPlaces", "(I)I"⟩
abbrev cX7_lackedPlaces : ByteArray := prog_9_method_7_code
def yX7_lackedPlaces : MethodName := ⟨RX7, "lackedPlaces", "(LSecondTry$Town;II)I"⟩
abbrev cX7_leastPrice : ByteArray := prog_9_method_8_code
def yX7_leastPrice : MethodName := ⟨RX7, "leastPrice", "(LSecondTry$Town;II)I"⟩
abbrev cX7_tryGoes : ByteArray := prog_9_method_9_code
def yX7_tryGoes : MethodName := ⟨RX7, "tryGoes", "(IIIII)V"⟩
abbrev cX7_bestWay : ByteArray := prog_9_method_10_code
def yX7_bestWay : MethodName := ⟨RX7, "bestWay", "(III)I"⟩
abbrev cX7_extraAt : ByteArray := prog_9_method_11_code
def yX7_extraAt : MethodName := ⟨RX7, "extraAt", "(II)I"⟩
abbrev cX7_wouldCount : ByteArray := prog_9_method_12_code
def yX7_wouldCount : MethodName := ⟨RX7, "wouldCount", "(II)Z"⟩
def RX8 : String := "SecondTry$Stranger"
def TX8 : u_T := fun k => match k with
  | 0 => ("SecondTry$Stranger", "kinds", "LSecondTry$Kinds;", true)
  | 1 => ("SecondTry$Stranger", "judge", "LSecondTry$Judge;", true)
  | 2 => ("SecondTry$Stranger", "row", "[I", true)
  | 3 => ("SecondTry$Stranger", "alikes", "[I", true)
  | 4 => ("SecondTry$Stranger", "places", "[I", true)
  | 5 => ("SecondTry$Stranger", "outcomes", "[I", true)
  | 6 => ("SecondTry$Stranger", "now", "[I", true)
  | 7 => ("SecondTry$Stranger", "nextCounts", "[I", true)
  | 8 => ("SecondTry$Stranger", "size", "I", false)
  | 9 => ("SecondTry$Stranger", "triesTold", "I", false)
  | 10 => ("SecondTry$Stranger", "fitting", "I", false)
  | _ => ("SecondTry$Stranger", "first", "I", false)
def tyX8 : Nat → FieldType := fun k => match k with
  | 0 => .object "SecondTry$Kinds"
  | 1 => .object "SecondTry$Judge"
  | 2 => .array .int
  | 3 => .array .int
  | 4 => .array .int
  | 5 => .array .int
  | 6 => .array .int
  | 7 => .array .int
  | 8 => .int
  | 9 => .int
  | 10 => .int
  | _ => .int
abbrev wsX80 : List Cond := u_ws RX8 TX8 12
theorem nmX8 : ∀ a, a < 12 → ∀ b, b < 12 → a ≠ b → (TX8 a).2.1 ≠ (TX8 b).2.1 := by decide +kernel
theorem tyX8_ok : ∀ k, k < 12 → parseFieldDescriptor (TX8 k).2.2.1 = some (tyX8 k) := by decide +kernel
abbrev cX8_init : ByteArray := prog_10_method_1_code
def yX8_init : MethodName := ⟨RX8, "<init>", "(LSecondTry$Kinds;LSecondTry$Judge;)V"⟩
abbrev cX8_read : ByteArray := prog_10_method_2_code
def yX8_read : MethodName := ⟨RX8, "read", "(LSecondTry$Tape;II)Z"⟩
abbrev cX8_goThrough : ByteArray := prog_10_method_3_code
def yX8_goThrough : MethodName := ⟨RX8, "goThrough", "(II)V"⟩
abbrev cX8_tellingPlace : ByteArray := prog_10_method_4_code
def yX8_tellingPlace : MethodName := ⟨RX8, "tellingPlace", "()I"⟩
abbrev cX8_greaterPart : ByteArray := prog_10_method_5_code
def yX8_greaterPart : MethodName := ⟨RX8, "greaterPart", "(I)I"⟩
abbrev cX8_fits : ByteArray := prog_10_method_6_code
def yX8_fits : MethodName := ⟨RX8, "fits", "(II)Z"⟩
abbrev cX8_old : ByteArray := prog_10_method_7_code
def yX8_old : MethodName := ⟨RX8, "old", "(I)I"⟩
def RX9 : String := "SecondTry$Tape"
def TX9 : u_T := fun k => match k with
  | 0 => ("SecondTry$Tape", "bytes", "[I", true)
  | 1 => ("SecondTry$Tape", "size", "I", false)
  | 2 => ("SecondTry$Tape", "textSize", "I", false)
  | 3 => ("SecondTry$Tape", "place", "I", false)
  | _ => ("SecondTry$Tape", "fault", "I", false)
def tyX9 : Nat → FieldType := fun k => match k with
  | 0 => .array .int
  | 1 => .int
  | 2 => .int
  | 3 => .int
  | _ => .int
abbrev wsX90 : List Cond := u_ws RX9 TX9 5
theorem nmX9 : ∀ a, a < 5 → ∀ b, b < 5 → a ≠ b → (TX9 a).2.1 ≠ (TX9 b).2.1 := by decide +kernel
theorem tyX9_ok : ∀ k, k < 5 → parseFieldDescriptor (TX9 k).2.2.1 = some (tyX9 k) := by decide +kernel
abbrev cX9_init : ByteArray := prog_11_method_1_code
def yX9_init : MethodName := ⟨RX9, "<init>", "()V"⟩
abbrev cX9_put : ByteArray := prog_11_method_2_code
def yX9_put : MethodName := ⟨RX9, "put", "(I)V"⟩
abbrev cX9_at : ByteArray := prog_11_method_3_code
def yX9_at : MethodName := ⟨RX9, "at", "(I)I"⟩
abbrev cX9_word : ByteArray := prog_11_method_4_code
def yX9_word : MethodName := ⟨RX9, "word", "(I)I"⟩
abbrev cX9_clear : ByteArray := prog_11_method_5_code
def yX9_clear : MethodName := ⟨RX9, "clear", "()V"⟩
abbrev cX9_openText : ByteArray := prog_11_method_6_code
def yX9_openText : MethodName := ⟨RX9, "openText", "(I)V"⟩
abbrev cX9_sign : ByteArray := prog_11_method_7_code
def yX9_sign : MethodName := ⟨RX9, "sign", "()I"⟩
abbrev cX9_digit : ByteArray := prog_11_method_8_code
def yX9_digit : MethodName := ⟨RX9, "digit", "()I"⟩
abbrev cX9_takes : ByteArray := prog_11_method_9_code
def yX9_takes : MethodName := ⟨RX9, "takes", "(I)Z"⟩
abbrev cX9_mustTake : ByteArray := prog_11_method_10_code
def yX9_mustTake : MethodName := ⟨RX9, "mustTake", "(I)Z"⟩
abbrev cX9_mustEnd : ByteArray := prog_11_method_11_code
def yX9_mustEnd : MethodName := ⟨RX9, "mustEnd", "()Z"⟩
abbrev cX9_fails : ByteArray := prog_11_method_12_code
def yX9_fails : MethodName := ⟨RX9, "fails", "(II)Z"⟩
def RX10 : String := "SecondTry$Town"
def TX10 : u_T := fun k => match k with
  | 0 => ("SecondTry$Town", "coins", "[I", true)
  | 1 => ("SecondTry$Town", "tries", "[I", true)
  | 2 => ("SecondTry$Town", "last", "[I", true)
  | 3 => ("SecondTry$Town", "counted", "[I", true)
  | 4 => ("SecondTry$Town", "stepKinds", "[I", true)
  | 5 => ("SecondTry$Town", "stepWith", "[I", true)
  | 6 => ("SecondTry$Town", "steps", "[I", true)
  | 7 => ("SecondTry$Town", "done", "[I", true)
  | 8 => ("SecondTry$Town", "people", "I", false)
  | _ => ("SecondTry$Town", "day", "I", false)
def tyX10 : Nat → FieldType := fun k => match k with
  | 0 => .array .int
  | 1 => .array .int
  | 2 => .array .int
  | 3 => .array .int
  | 4 => .array .int
  | 5 => .array .int
  | 6 => .array .int
  | 7 => .array .int
  | 8 => .int
  | _ => .int
abbrev wsX100 : List Cond := u_ws RX10 TX10 10
theorem nmX10 : ∀ a, a < 10 → ∀ b, b < 10 → a ≠ b → (TX10 a).2.1 ≠ (TX10 b).2.1 := by decide +kernel
theorem tyX10_ok : ∀ k, k < 10 → parseFieldDescriptor (TX10 k).2.2.1 = some (tyX10 k) := by decide +kernel
abbrev cX10_init : ByteArray := prog_12_method_1_code
def yX10_init : MethodName := ⟨RX10, "<init>", "()V"⟩
abbrev cX10_copy : ByteArray := prog_12_method_2_code
def yX10_copy : MethodName := ⟨RX10, "copy", "(LSecondTry$Town;)V"⟩
abbrev cX10_knows : ByteArray := prog_12_method_3_code
def yX10_knows : MethodName := ⟨RX10, "knows", "(I)Z"⟩
abbrev cX10_knowsAll : ByteArray := prog_12_method_4_code
def yX10_knowsAll : MethodName := ⟨RX10, "knowsAll", "(I)Z"⟩
abbrev cX10_takePlan : ByteArray := prog_12_method_5_code
def yX10_takePlan : MethodName := ⟨RX10, "takePlan", "(ILSecondTry$PlanReader;)V"⟩
abbrev cX10_stepsLeft : ByteArray := prog_12_method_6_code
def yX10_stepsLeft : MethodName := ⟨RX10, "stepsLeft", "(I)I"⟩
abbrev cX10_sumOf : ByteArray := prog_12_method_7_code
def yX10_sumOf : MethodName := ⟨RX10, "sumOf", "([II)I"⟩
abbrev cX10_triesAmong : ByteArray := prog_12_method_8_code
def yX10_triesAmong : MethodName := ⟨RX10, "triesAmong", "(II)I"⟩
abbrev cX10_triesByAll : ByteArray := prog_12_method_9_code
def yX10_triesByAll : MethodName := ⟨RX10, "triesByAll", "(I)I"⟩
abbrev cX10_addTry : ByteArray := prog_12_method_10_code
def yX10_addTry : MethodName := ⟨RX10, "addTry", "(II)V"⟩
abbrev cX10_addCounted : ByteArray := prog_12_method_11_code
def yX10_addCounted : MethodName := ⟨RX10, "addCounted", "(II)V"⟩
abbrev cX10_hasCounted : ByteArray := prog_12_method_12_code
def yX10_hasCounted : MethodName := ⟨RX10, "hasCounted", "(II)Z"⟩
def RX11 : String := "SecondTry"
def TX11 : u_T := fun k => match k with
  | 0 => ("SecondTry", "tape", "LSecondTry$Tape;", true)
  | 1 => ("SecondTry", "kinds", "LSecondTry$Kinds;", true)
  | 2 => ("SecondTry", "town", "LSecondTry$Town;", true)
  | 3 => ("SecondTry", "keptTown", "LSecondTry$Town;", true)
  | 4 => ("SecondTry", "triedTown", "LSecondTry$Town;", true)
  | 5 => ("SecondTry", "judge", "LSecondTry$Judge;", true)
  | 6 => ("SecondTry", "clerk", "LSecondTry$Clerk;", true)
  | 7 => ("SecondTry", "lawReader", "LSecondTry$LawReader;", true)
  | 8 => ("SecondTry", "planReader", "LSecondTry$PlanReader;", true)
  | 9 => ("SecondTry", "search", "LSecondTry$Search;", true)
  | 10 => ("SecondTry", "parting", "LSecondTry$Parting;", true)
  | 11 => ("SecondTry", "stranger", "LSecondTry$Stranger;", true)
  | _ => ("SecondTry", "isKept", "Z", false)
def tyX11 : Nat → FieldType := fun k => match k with
  | 0 => .object "SecondTry$Tape"
  | 1 => .object "SecondTry$Kinds"
  | 2 => .object "SecondTry$Town"
  | 3 => .object "SecondTry$Town"
  | 4 => .object "SecondTry$Town"
  | 5 => .object "SecondTry$Judge"
  | 6 => .object "SecondTry$Clerk"
  | 7 => .object "SecondTry$LawReader"
  | 8 => .object "SecondTry$PlanReader"
  | 9 => .object "SecondTry$Search"
  | 10 => .object "SecondTry$Parting"
  | 11 => .object "SecondTry$Stranger"
  | _ => .boolean
abbrev wsX110 : List Cond := u_ws RX11 TX11 13
theorem nmX11 : ∀ a, a < 13 → ∀ b, b < 13 → a ≠ b → (TX11 a).2.1 ≠ (TX11 b).2.1 := by decide +kernel
theorem tyX11_ok : ∀ k, k < 13 → parseFieldDescriptor (TX11 k).2.2.1 = some (tyX11 k) := by decide +kernel
abbrev cX11_init : ByteArray := prog_1_method_1_code
def yX11_init : MethodName := ⟨RX11, "<init>", "()V"⟩
abbrev cX11_kind : ByteArray := prog_1_method_2_code
def yX11_kind : MethodName := ⟨RX11, "kind", "(IIII)Z"⟩
abbrev cX11_person : ByteArray := prog_1_method_3_code
def yX11_person : MethodName := ⟨RX11, "person", "(II)Z"⟩
abbrev cX11_feed : ByteArray := prog_1_method_4_code
def yX11_feed : MethodName := ⟨RX11, "feed", "(IIIII)I"⟩
abbrev cX11_law : ByteArray := prog_1_method_5_code
def yX11_law : MethodName := ⟨RX11, "law", "(I)I"⟩
abbrev cX11_plan : ByteArray := prog_1_method_6_code
def yX11_plan : MethodName := ⟨RX11, "plan", "(II)I"⟩
abbrev cX11_tries : ByteArray := prog_1_method_7_code
def yX11_tries : MethodName := ⟨RX11, "tries", "(III)I"⟩
abbrev cX11_buys : ByteArray := prog_1_method_8_code
def yX11_buys : MethodName := ⟨RX11, "buys", "(III)I"⟩
abbrev cX11_days : ByteArray := prog_1_method_9_code
def yX11_days : MethodName := ⟨RX11, "days", "(I)I"⟩
abbrev cX11_tried : ByteArray := prog_1_method_10_code
def yX11_tried : MethodName := ⟨RX11, "tried", "(II)I"⟩
abbrev cX11_has : ByteArray := prog_1_method_11_code
def yX11_has : MethodName := ⟨RX11, "has", "(III)I"⟩
abbrev cX11_alike : ByteArray := prog_1_method_12_code
def yX11_alike : MethodName := ⟨RX11, "alike", "(II)I"⟩
abbrev cX11_cost : ByteArray := prog_1_method_13_code
def yX11_cost : MethodName := ⟨RX11, "cost", "(III)I"⟩
abbrev cX11_soonest : ByteArray := prog_1_method_14_code
def yX11_soonest : MethodName := ⟨RX11, "soonest", "(IIIII)I"⟩
abbrev cX11_cheapest : ByteArray := prog_1_method_15_code
def yX11_cheapest : MethodName := ⟨RX11, "cheapest", "(IIIII)I"⟩
abbrev cX11_loophole : ByteArray := prog_1_method_16_code
def yX11_loophole : MethodName := ⟨RX11, "loophole", "(III)I"⟩
abbrev cX11_jobs : ByteArray := prog_1_method_17_code
def yX11_jobs : MethodName := ⟨RX11, "jobs", "(III)I"⟩
abbrev cX11_rivals : ByteArray := prog_1_method_18_code
def yX11_rivals : MethodName := ⟨RX11, "rivals", "(III)I"⟩
abbrev cX11_histories : ByteArray := prog_1_method_19_code
def yX11_histories : MethodName := ⟨RX11, "histories", "(IIII)I"⟩
abbrev cX11_game : ByteArray := prog_1_method_20_code
def yX11_game : MethodName := ⟨RX11, "game", "(IIIZZI)I"⟩
abbrev cX11_court : ByteArray := prog_1_method_21_code
def yX11_court : MethodName := ⟨RX11, "court", "(IIIIII)I"⟩
abbrev cX11_keep : ByteArray := prog_1_method_22_code
def yX11_keep : MethodName := ⟨RX11, "keep", "()I"⟩
abbrev cX11_undo : ByteArray := prog_1_method_23_code
def yX11_undo : MethodName := ⟨RX11, "undo", "()Z"⟩
abbrev cX11_check : ByteArray := prog_1_method_24_code
def yX11_check : MethodName := ⟨RX11, "check", "(II)I"⟩
abbrev cX11_count : ByteArray := prog_1_method_25_code
def yX11_count : MethodName := ⟨RX11, "count", "(I)I"⟩
abbrev cX11_countOfKind : ByteArray := prog_1_method_26_code
def yX11_countOfKind : MethodName := ⟨RX11, "countOfKind", "(I)I"⟩
abbrev cX11_countOfPerson : ByteArray := prog_1_method_27_code
def yX11_countOfPerson : MethodName := ⟨RX11, "countOfPerson", "(I)I"⟩
abbrev cX11_canDeal : ByteArray := prog_1_method_28_code
def yX11_canDeal : MethodName := ⟨RX11, "canDeal", "(III)Z"⟩
abbrev cX11_canChoose : ByteArray := prog_1_method_29_code
def yX11_canChoose : MethodName := ⟨RX11, "canChoose", "(III)Z"⟩
abbrev cX11_isSettled : ByteArray := prog_1_method_30_code
def yX11_isSettled : MethodName := ⟨RX11, "isSettled", "(III)Z"⟩
abbrev cX11_pence : ByteArray := prog_1_method_31_code
def yX11_pence : MethodName := ⟨RX11, "pence", "(IIII)I"⟩
abbrev cX11_isHeap : ByteArray := prog_1_method_32_code
def yX11_isHeap : MethodName := ⟨RX11, "isHeap", "(I)Z"⟩
abbrev cX11_bestMove : ByteArray := prog_1_method_33_code
def yX11_bestMove : MethodName := ⟨RX11, "bestMove", "(IZZ)I"⟩
abbrev cX11_nextOneWins : ByteArray := prog_1_method_34_code
def yX11_nextOneWins : MethodName := ⟨RX11, "nextOneWins", "(IZ)Z"⟩
def RX12 : String := "SecondTryModel"
def TX12 : u_T := fun k => match k with
  | 0 => ("SecondTryModel", "now", "[I", true)
  | 1 => ("SecondTryModel", "aside", "[I", true)
  | 2 => ("SecondTryModel", "kept", "[I", true)
  | 3 => ("SecondTryModel", "hoursOf", "[I", true)
  | 4 => ("SecondTryModel", "marksOf", "[I", true)
  | 5 => ("SecondTryModel", "needsOf", "[I", true)
  | 6 => ("SecondTryModel", "kinds0", "I", false)
  | 7 => ("SecondTryModel", "tape", "[B", true)
  | 8 => ("SecondTryModel", "taped", "I", false)
  | 9 => ("SecondTryModel", "place0", "I", false)
  | 10 => ("SecondTryModel", "length0", "I", false)
  | 11 => ("SecondTryModel", "fault", "I", false)
  | 12 => ("SecondTryModel", "number0", "I", false)
  | 13 => ("SecondTryModel", "open", "I", false)
  | 14 => ("SecondTryModel", "codeMany", "I", false)
  | 15 => ("SecondTryModel", "waiting", "I", false)
  | 16 => ("SecondTryModel", "saidMany", "I", false)
  | 17 => ("SecondTryModel", "clauses", "I", false)
  | 18 => ("SecondTryModel", "said", "[I", true)
  | 19 => ("SecondTryModel", "waitsAt", "[I", true)
  | 20 => ("SecondTryModel", "saidLetter", "[I", true)
  | 21 => ("SecondTryModel", "saidFrom", "[I", true)
  | 22 => ("SecondTryModel", "saidHalf", "[I", true)
  | 23 => ("SecondTryModel", "saidTo", "[I", true)
  | 24 => ("SecondTryModel", "codes", "[I", true)
  | 25 => ("SecondTryModel", "clauseOf", "[I", true)
  | 26 => ("SecondTryModel", "codeFrom", "[I", true)
  | 27 => ("SecondTryModel", "codeHalf", "[I", true)
  | 28 => ("SecondTryModel", "codeTo", "[I", true)
  | 29 => ("SecondTryModel", "stack", "[I", true)
  | 30 => ("SecondTryModel", "facts", "[I", true)
  | 31 => ("SecondTryModel", "newKind", "[I", true)
  | 32 => ("SecondTryModel", "newWith", "[I", true)
  | 33 => ("SecondTryModel", "roundFrom", "[I", true)
  | 34 => ("SecondTryModel", "roundAt", "[I", true)
  | 35 => ("SecondTryModel", "newMany", "I", false)
  | 36 => ("SecondTryModel", "rounds", "I", false)
  | 37 => ("SecondTryModel", "triesMade", "I", false)
  | 38 => ("SecondTryModel", "triesCounted", "I", false)
  | 39 => ("SecondTryModel", "hoursSpent", "I", false)
  | 40 => ("SecondTryModel", "stallDay", "I", false)
  | 41 => ("SecondTryModel", "stallPerson", "I", false)
  | 42 => ("SecondTryModel", "stallKind", "I", false)
  | 43 => ("SecondTryModel", "ownMany", "I", false)
  | 44 => ("SecondTryModel", "soonPerson", "I", false)
  | 45 => ("SecondTryModel", "wayMade", "[I", true)
  | 46 => ("SecondTryModel", "wayGoes", "[I", true)
  | 47 => ("SecondTryModel", "wayCounted", "[I", true)
  | 48 => ("SecondTryModel", "ownKind", "[I", true)
  | 49 => ("SecondTryModel", "oldBase", "[I", true)
  | 50 => ("SecondTryModel", "likeSet", "[I", true)
  | 51 => ("SecondTryModel", "wayNow", "[I", true)
  | 52 => ("SecondTryModel", "priceOf", "[I", true)
  | 53 => ("SecondTryModel", "canStand", "[Z", true)
  | 54 => ("SecondTryModel", "jobKind", "[I", true)
  | 55 => ("SecondTryModel", "jobPerson", "[I", true)
  | 56 => ("SecondTryModel", "likeAll", "[I", true)
  | 57 => ("SecondTryModel", "moreTries", "[I", true)
  | 58 => ("SecondTryModel", "moreCounted", "[I", true)
  | 59 => ("SecondTryModel", "jobMany", "I", false)
  | 60 => ("SecondTryModel", "workers", "I", false)
  | 61 => ("SecondTryModel", "pastMany", "I", false)
  | 62 => ("SecondTryModel", "pastKind", "[I", true)
  | 63 => ("SecondTryModel", "pastLike", "[I", true)
  | 64 => ("SecondTryModel", "pastTries", "[I", true)
  | 65 => ("SecondTryModel", "pastFits", "[Z", true)
  | 66 => ("SecondTryModel", "winsAt", "[Z", true)
  | _ => ("SecondTryModel", "isKept", "Z", false)
def tyX12 : Nat → FieldType := fun k => match k with
  | 0 => .array .int
  | 1 => .array .int
  | 2 => .array .int
  | 3 => .array .int
  | 4 => .array .int
  | 5 => .array .int
  | 6 => .int
  | 7 => .array .byte
  | 8 => .int
  | 9 => .int
  | 10 => .int
  | 11 => .int
  | 12 => .int
  | 13 => .int
  | 14 => .int
  | 15 => .int
  | 16 => .int
  | 17 => .int
  | 18 => .array .int
  | 19 => .array .int
  | 20 => .array .int
  | 21 => .array .int
  | 22 => .array .int
  | 23 => .array .int
  | 24 => .array .int
  | 25 => .array .int
  | 26 => .array .int
  | 27 => .array .int
  | 28 => .array .int
  | 29 => .array .int
  | 30 => .array .int
  | 31 => .array .int
  | 32 => .array .int
  | 33 => .array .int
  | 34 => .array .int
  | 35 => .int
  | 36 => .int
  | 37 => .int
  | 38 => .int
  | 39 => .int
  | 40 => .int
  | 41 => .int
  | 42 => .int
  | 43 => .int
  | 44 => .int
  | 45 => .array .int
  | 46 => .array .int
  | 47 => .array .int
  | 48 => .array .int
  | 49 => .array .int
  | 50 => .array .int
  | 51 => .array .int
  | 52 => .array .int
  | 53 => .array .boolean
  | 54 => .array .int
  | 55 => .array .int
  | 56 => .array .int
  | 57 => .array .int
  | 58 => .array .int
  | 59 => .int
  | 60 => .int
  | 61 => .int
  | 62 => .array .int
  | 63 => .array .int
  | 64 => .array .int
  | 65 => .array .boolean
  | 66 => .array .boolean
  | _ => .boolean
abbrev wsX120 : List Cond := u_ws RX12 TX12 68
theorem nmX12 : ∀ a, a < 68 → ∀ b, b < 68 → a ≠ b → (TX12 a).2.1 ≠ (TX12 b).2.1 := by decide +kernel
theorem tyX12_ok : ∀ k, k < 68 → parseFieldDescriptor (TX12 k).2.2.1 = some (tyX12 k) := by decide +kernel
abbrev cX12_init : ByteArray := prog_14_method_1_code
def yX12_init : MethodName := ⟨RX12, "<init>", "()V"⟩
abbrev cX12_in : ByteArray := prog_14_method_2_code
def yX12_in : MethodName := ⟨RX12, "in", "(III)Z"⟩
abbrev cX12_min : ByteArray := prog_14_method_3_code
def yX12_min : MethodName := ⟨RX12, "min", "(II)I"⟩
abbrev cX12_max : ByteArray := prog_14_method_4_code
def yX12_max : MethodName := ⟨RX12, "max", "(II)I"⟩
abbrev cX12_has0 : ByteArray := prog_14_method_5_code
def yX12_has0 : MethodName := ⟨RX12, "has0", "(II)Z"⟩
abbrev cX12_bits : ByteArray := prog_14_method_6_code
def yX12_bits : MethodName := ⟨RX12, "bits", "(I)I"⟩
abbrev cX12_copies : ByteArray := prog_14_method_7_code
def yX12_copies : MethodName := ⟨RX12, "copies", "([I[I)V"⟩
abbrev cX12_isKind : ByteArray := prog_14_method_8_code
def yX12_isKind : MethodName := ⟨RX12, "isKind", "(I)Z"⟩
abbrev cX12_isPerson : ByteArray := prog_14_method_9_code
def yX12_isPerson : MethodName := ⟨RX12, "isPerson", "(I)Z"⟩
abbrev cX12_at : ByteArray := prog_14_method_10_code
def yX12_at : MethodName := ⟨RX12, "at", "(II)I"⟩
abbrev cX12_kind : ByteArray := prog_14_method_11_code
def yX12_kind : MethodName := ⟨RX12, "kind", "(IIII)Z"⟩
abbrev cX12_person : ByteArray := prog_14_method_12_code
def yX12_person : MethodName := ⟨RX12, "person", "(II)Z"⟩
abbrev cX12_types : ByteArray := prog_14_method_13_code
def yX12_types : MethodName := ⟨RX12, "types", "(I)V"⟩
abbrev cX12_feed : ByteArray := prog_14_method_14_code
def yX12_feed : MethodName := ⟨RX12, "feed", "(IIIII)I"⟩
abbrev cX12_here : ByteArray := prog_14_method_15_code
def yX12_here : MethodName := ⟨RX12, "here", "()I"⟩
abbrev cX12_isDigit : ByteArray := prog_14_method_16_code
def yX12_isDigit : MethodName := ⟨RX12, "isDigit", "()Z"⟩
abbrev cX12_wrongAt : ByteArray := prog_14_method_17_code
def yX12_wrongAt : MethodName := ⟨RX12, "wrongAt", "(II)Z"⟩
abbrev cX12_takes : ByteArray := prog_14_method_18_code
def yX12_takes : MethodName := ⟨RX12, "takes", "(I)Z"⟩
abbrev cX12_readsNumber : ByteArray := prog_14_method_19_code
def yX12_readsNumber : MethodName := ⟨RX12, "readsNumber", "()Z"⟩
abbrev cX12_notes : ByteArray := prog_14_method_20_code
def yX12_notes : MethodName := ⟨RX12, "notes", "(II)V"⟩
abbrev cX12_opens : ByteArray := prog_14_method_21_code
def yX12_opens : MethodName := ⟨RX12, "opens", "(I)Z"⟩
abbrev cX12_waitTop : ByteArray := prog_14_method_22_code
def yX12_waitTop : MethodName := ⟨RX12, "waitTop", "()I"⟩
abbrev cX12_factOf : ByteArray := prog_14_method_23_code
def yX12_factOf : MethodName := ⟨RX12, "factOf", "(I)I"⟩
abbrev cX12_sumSign : ByteArray := prog_14_method_24_code
def yX12_sumSign : MethodName := ⟨RX12, "sumSign", "(I)I"⟩
abbrev cX12_closesSums : ByteArray := prog_14_method_25_code
def yX12_closesSums : MethodName := ⟨RX12, "closesSums", "(Z)V"⟩
abbrev cX12_readsFactor : ByteArray := prog_14_method_26_code
def yX12_readsFactor : MethodName := ⟨RX12, "readsFactor", "()Z"⟩
abbrev cX12_hasOpenSum : ByteArray := prog_14_method_27_code
def yX12_hasOpenSum : MethodName := ⟨RX12, "hasOpenSum", "(I)Z"⟩
abbrev cX12_readsSum : ByteArray := prog_14_method_28_code
def yX12_readsSum : MethodName := ⟨RX12, "readsSum", "()Z"⟩
abbrev cX12_endsPiece : ByteArray := prog_14_method_29_code
def yX12_endsPiece : MethodName := ⟨RX12, "endsPiece", "()V"⟩
abbrev cX12_lands : ByteArray := prog_14_method_30_code
def yX12_lands : MethodName := ⟨RX12, "lands", "(Z)V"⟩
abbrev cX12_jumps : ByteArray := prog_14_method_31_code
def yX12_jumps : MethodName := ⟨RX12, "jumps", "(I)V"⟩
abbrev cX12_readsCompared : ByteArray := prog_14_method_32_code
def yX12_readsCompared : MethodName := ⟨RX12, "readsCompared", "()Z"⟩
abbrev cX12_readsCondition : ByteArray := prog_14_method_33_code
def yX12_readsCondition : MethodName := ⟨RX12, "readsCondition", "()Z"⟩
abbrev cX12_isClause : ByteArray := prog_14_method_34_code
def yX12_isClause : MethodName := ⟨RX12, "isClause", "(I)Z"⟩
abbrev cX12_readsClause : ByteArray := prog_14_method_35_code
def yX12_readsClause : MethodName := ⟨RX12, "readsClause", "()Z"⟩
abbrev cX12_law : ByteArray := prog_14_method_36_code
def yX12_law : MethodName := ⟨RX12, "law", "(I)I"⟩
abbrev cX12_reckon : ByteArray := prog_14_method_37_code
def yX12_reckon : MethodName := ⟨RX12, "reckon", "(III)I"⟩
abbrev cX12_comesTo : ByteArray := prog_14_method_38_code
def yX12_comesTo : MethodName := ⟨RX12, "comesTo", "(II)I"⟩
abbrev cX12_byLaw : ByteArray := prog_14_method_39_code
def yX12_byLaw : MethodName := ⟨RX12, "byLaw", "(III)I"⟩
abbrev cX12_feelsKind : ByteArray := prog_14_method_40_code
def yX12_feelsKind : MethodName := ⟨RX12, "feelsKind", "(I)V"⟩
abbrev cX12_isLike : ByteArray := prog_14_method_41_code
def yX12_isLike : MethodName := ⟨RX12, "isLike", "(II)Z"⟩
abbrev cX12_alike : ByteArray := prog_14_method_42_code
def yX12_alike : MethodName := ⟨RX12, "alike", "(II)I"⟩
abbrev cX12_allTries : ByteArray := prog_14_method_43_code
def yX12_allTries : MethodName := ⟨RX12, "allTries", "(I)I"⟩
abbrev cX12_feels : ByteArray := prog_14_method_44_code
def yX12_feels : MethodName := ⟨RX12, "feels", "(III)V"⟩
abbrev cX12_forgets : ByteArray := prog_14_method_45_code
def yX12_forgets : MethodName := ⟨RX12, "forgets", "(II)V"⟩
abbrev cX12_oldOnes : ByteArray := prog_14_method_46_code
def yX12_oldOnes : MethodName := ⟨RX12, "oldOnes", "(II)I"⟩
abbrev cX12_voidFor : ByteArray := prog_14_method_47_code
def yX12_voidFor : MethodName := ⟨RX12, "voidFor", "(III)I"⟩
abbrev cX12_hasNeeds : ByteArray := prog_14_method_48_code
def yX12_hasNeeds : MethodName := ⟨RX12, "hasNeeds", "(II)Z"⟩
abbrev cX12_triesNow : ByteArray := prog_14_method_49_code
def yX12_triesNow : MethodName := ⟨RX12, "triesNow", "(III)I"⟩
abbrev cX12_tries : ByteArray := prog_14_method_50_code
def yX12_tries : MethodName := ⟨RX12, "tries", "(III)I"⟩
abbrev cX12_costOf : ByteArray := prog_14_method_51_code
def yX12_costOf : MethodName := ⟨RX12, "costOf", "(III)I"⟩
abbrev cX12_cost : ByteArray := prog_14_method_52_code
def yX12_cost : MethodName := ⟨RX12, "cost", "(III)I"⟩
abbrev cX12_buys : ByteArray := prog_14_method_53_code
def yX12_buys : MethodName := ⟨RX12, "buys", "(III)I"⟩
abbrev cX12_has : ByteArray := prog_14_method_54_code
def yX12_has : MethodName := ⟨RX12, "has", "(III)I"⟩
abbrev cX12_readsStep : ByteArray := prog_14_method_55_code
def yX12_readsStep : MethodName := ⟨RX12, "readsStep", "()Z"⟩
abbrev cX12_endsRound : ByteArray := prog_14_method_56_code
def yX12_endsRound : MethodName := ⟨RX12, "endsRound", "()Z"⟩
abbrev cX12_plan : ByteArray := prog_14_method_57_code
def yX12_plan : MethodName := ⟨RX12, "plan", "(II)I"⟩
abbrev cX12_notesTry : ByteArray := prog_14_method_58_code
def yX12_notesTry : MethodName := ⟨RX12, "notesTry", "(III)V"⟩
abbrev cX12_dayOf : ByteArray := prog_14_method_59_code
def yX12_dayOf : MethodName := ⟨RX12, "dayOf", "(I)V"⟩
abbrev cX12_daysGo : ByteArray := prog_14_method_60_code
def yX12_daysGo : MethodName := ⟨RX12, "daysGo", "(I)V"⟩
abbrev cX12_days : ByteArray := prog_14_method_61_code
def yX12_days : MethodName := ⟨RX12, "days", "(I)I"⟩
abbrev cX12_tried : ByteArray := prog_14_method_62_code
def yX12_tried : MethodName := ⟨RX12, "tried", "(II)I"⟩
abbrev cX12_laysWays : ByteArray := prog_14_method_63_code
def yX12_laysWays : MethodName := ⟨RX12, "laysWays", "()V"⟩
abbrev cX12_wayWith : ByteArray := prog_14_method_64_code
def yX12_wayWith : MethodName := ⟨RX12, "wayWith", "(III)I"⟩
abbrev cX12_laysOwn : ByteArray := prog_14_method_65_code
def yX12_laysOwn : MethodName := ⟨RX12, "laysOwn", "(II)V"⟩
abbrev cX12_takesState : ByteArray := prog_14_method_66_code
def yX12_takesState : MethodName := ⟨RX12, "takesState", "(I)V"⟩
abbrev cX12_stateNow : ByteArray := prog_14_method_67_code
def yX12_stateNow : MethodName := ⟨RX12, "stateNow", "()I"⟩
abbrev cX12_areCounted : ByteArray := prog_14_method_68_code
def yX12_areCounted : MethodName := ⟨RX12, "areCounted", "(I)Z"⟩
abbrev cX12_wouldCount : ByteArray := prog_14_method_69_code
def yX12_wouldCount : MethodName := ⟨RX12, "wouldCount", "(I)Z"⟩
abbrev cX12_goesNow : ByteArray := prog_14_method_70_code
def yX12_goesNow : MethodName := ⟨RX12, "goesNow", "()I"⟩
abbrev cX12_hoursNow : ByteArray := prog_14_method_71_code
def yX12_hoursNow : MethodName := ⟨RX12, "hoursNow", "()I"⟩
abbrev cX12_madeNow : ByteArray := prog_14_method_72_code
def yX12_madeNow : MethodName := ⟨RX12, "madeNow", "()I"⟩
abbrev cX12_statesAll : ByteArray := prog_14_method_73_code
def yX12_statesAll : MethodName := ⟨RX12, "statesAll", "()I"⟩
abbrev cX12_marks : ByteArray := prog_14_method_74_code
def yX12_marks : MethodName := ⟨RX12, "marks", "(II)V"⟩
abbrev cX12_spreads : ByteArray := prog_14_method_75_code
def yX12_spreads : MethodName := ⟨RX12, "spreads", "(I)V"⟩
abbrev cX12_placeOf : ByteArray := prog_14_method_76_code
def yX12_placeOf : MethodName := ⟨RX12, "placeOf", "(I)I"⟩
abbrev cX12_areSome : ByteArray := prog_14_method_77_code
def yX12_areSome : MethodName := ⟨RX12, "areSome", "(III)Z"⟩
abbrev cX12_soonest : ByteArray := prog_14_method_78_code
def yX12_soonest : MethodName := ⟨RX12, "soonest", "(IIIII)I"⟩
abbrev cX12_leastPrice : ByteArray := prog_14_method_79_code
def yX12_leastPrice : MethodName := ⟨RX12, "leastPrice", "(II)I"⟩
abbrev cX12_marksBought : ByteArray := prog_14_method_80_code
def yX12_marksBought : MethodName := ⟨RX12, "marksBought", "(I)V"⟩
abbrev cX12_coinsNow : ByteArray := prog_14_method_81_code
def yX12_coinsNow : MethodName := ⟨RX12, "coinsNow", "()I"⟩
abbrev cX12_cheapest : ByteArray := prog_14_method_82_code
def yX12_cheapest : MethodName := ⟨RX12, "cheapest", "(IIIII)I"⟩
abbrev cX12_finds : ByteArray := prog_14_method_83_code
def yX12_finds : MethodName := ⟨RX12, "finds", "(II)Z"⟩
abbrev cX12_loophole : ByteArray := prog_14_method_84_code
def yX12_loophole : MethodName := ⟨RX12, "loophole", "(III)I"⟩
abbrev cX12_jobCounts : ByteArray := prog_14_method_85_code
def yX12_jobCounts : MethodName := ⟨RX12, "jobCounts", "(II)Z"⟩
abbrev cX12_jobNeeds : ByteArray := prog_14_method_86_code
def yX12_jobNeeds : MethodName := ⟨RX12, "jobNeeds", "(II)Z"⟩
abbrev cX12_hoursBy : ByteArray := prog_14_method_87_code
def yX12_hoursBy : MethodName := ⟨RX12, "hoursBy", "(II)I"⟩
abbrev cX12_whoDoes : ByteArray := prog_14_method_88_code
def yX12_whoDoes : MethodName := ⟨RX12, "whoDoes", "(II)I"⟩
abbrev cX12_longestBy : ByteArray := prog_14_method_89_code
def yX12_longestBy : MethodName := ⟨RX12, "longestBy", "(I)I"⟩
abbrev cX12_takesJobs : ByteArray := prog_14_method_90_code
def yX12_takesJobs : MethodName := ⟨RX12, "takesJobs", "(I)Z"⟩
abbrev cX12_jobs : ByteArray := prog_14_method_91_code
def yX12_jobs : MethodName := ⟨RX12, "jobs", "(III)I"⟩
abbrev cX12_gainOf : ByteArray := prog_14_method_92_code
def yX12_gainOf : MethodName := ⟨RX12, "gainOf", "(IIII)I"⟩
abbrev cX12_rivals : ByteArray := prog_14_method_93_code
def yX12_rivals : MethodName := ⟨RX12, "rivals", "(III)I"⟩
abbrev cX12_takesPast : ByteArray := prog_14_method_94_code
def yX12_takesPast : MethodName := ⟨RX12, "takesPast", "(II)Z"⟩
abbrev cX12_begins : ByteArray := prog_14_method_95_code
def yX12_begins : MethodName := ⟨RX12, "begins", "(I)V"⟩
abbrev cX12_pastCounts : ByteArray := prog_14_method_96_code
def yX12_pastCounts : MethodName := ⟨RX12, "pastCounts", "(II)Z"⟩
abbrev cX12_goesWith : ByteArray := prog_14_method_97_code
def yX12_goesWith : MethodName := ⟨RX12, "goesWith", "(III)Z"⟩
abbrev cX12_greaterBy : ByteArray := prog_14_method_98_code
def yX12_greaterBy : MethodName := ⟨RX12, "greaterBy", "(IIII)I"⟩
abbrev cX12_histories : ByteArray := prog_14_method_99_code
def yX12_histories : MethodName := ⟨RX12, "histories", "(IIII)I"⟩
abbrev cX12_heapIn : ByteArray := prog_14_method_100_code
def yX12_heapIn : MethodName := ⟨RX12, "heapIn", "(II)I"⟩
abbrev cX12_heapUnit : ByteArray := prog_14_method_101_code
def yX12_heapUnit : MethodName := ⟨RX12, "heapUnit", "(I)I"⟩
abbrev cX12_gameState : ByteArray := prog_14_method_102_code
def yX12_gameState : MethodName := ⟨RX12, "gameState", "(IZZ)I"⟩
abbrev cX12_wins : ByteArray := prog_14_method_103_code
def yX12_wins : MethodName := ⟨RX12, "wins", "(IZZII)Z"⟩
abbrev cX12_winningMove : ByteArray := prog_14_method_104_code
def yX12_winningMove : MethodName := ⟨RX12, "winningMove", "(IZZ)I"⟩
abbrev cX12_game : ByteArray := prog_14_method_105_code
def yX12_game : MethodName := ⟨RX12, "game", "(IIIZZI)I"⟩
abbrev cX12_court : ByteArray := prog_14_method_106_code
def yX12_court : MethodName := ⟨RX12, "court", "(IIIIII)I"⟩
abbrev cX12_keep : ByteArray := prog_14_method_107_code
def yX12_keep : MethodName := ⟨RX12, "keep", "()I"⟩
abbrev cX12_undo : ByteArray := prog_14_method_108_code
def yX12_undo : MethodName := ⟨RX12, "undo", "()Z"⟩
abbrev cX12_tapeNumber : ByteArray := prog_14_method_109_code
def yX12_tapeNumber : MethodName := ⟨RX12, "tapeNumber", "(I)I"⟩
abbrev cX12_check : ByteArray := prog_14_method_110_code
def yX12_check : MethodName := ⟨RX12, "check", "(II)I"⟩
abbrev cX12_sumOf : ByteArray := prog_14_method_111_code
def yX12_sumOf : MethodName := ⟨RX12, "sumOf", "(II)I"⟩
abbrev cX12_count : ByteArray := prog_14_method_112_code
def yX12_count : MethodName := ⟨RX12, "count", "(I)I"⟩
abbrev cJ6_bitCount_0f7a4 : ByteArray := prog_15_method_49_code
def yJ6_bitCount_0f7a4 : MethodName := ⟨RJ6, "bitCount", "(I)I"⟩
abbrev cJ9_max_7cf53 : ByteArray := prog_16_method_65_code
def yJ9_max_7cf53 : MethodName := ⟨RJ9, "max", "(II)I"⟩
abbrev cJ9_min_7cf53 : ByteArray := prog_16_method_69_code
def yJ9_min_7cf53 : MethodName := ⟨RJ9, "min", "(II)I"⟩
abbrev cJ7_fill_53178 : ByteArray := prog_18_method_103_code
def yJ7_fill_53178 : MethodName := ⟨RJ7, "fill", "([II)V"⟩
def RL : String := "SecondTryLaw"
abbrev cL_law : ByteArray := code
def yL_law : MethodName := ⟨RL, "law", "([I)Z"⟩
abbrev qMY : Type := MethodName × ByteArray × Nat × Option FieldType
abbrev zX0_init : qMY := (yX0_init, cX0_init, 3, none)
abbrev zJ7_fill_53178 : qMY := (yJ7_fill_53178, cJ7_fill_53178, 4, none)
abbrev zX1_tellDeed : qMY := (yX1_tellDeed, cX1_tellDeed, 5, none)
abbrev zX2_knows : qMY := (yX2_knows, cX2_knows, 2, (some .boolean))
abbrev zJ6_bitCount_0f7a4 : qMY := (yJ6_bitCount_0f7a4, cJ6_bitCount_0f7a4, 1, (some .int))
abbrev zX1_reckon : qMY := (yX1_reckon, cX1_reckon, 4, (some .int))
abbrev zX1_run : qMY := (yX1_run, cX1_run, 8, (some .int))
abbrev zX1_isAlike : qMY := (yX1_isAlike, cX1_isAlike, 3, (some .boolean))
abbrev zX1_alikes : qMY := (yX1_alikes, cX1_alikes, 5, (some .int))
abbrev zX10_triesByAll : qMY := (yX10_triesByAll, cX10_triesByAll, 4, (some .int))
abbrev zX1_tellTry : qMY := (yX1_tellTry, cX1_tellTry, 6, none)
abbrev zX0_tellAll : qMY := (yX0_tellAll, cX0_tellAll, 6, none)
abbrev zX1_amount : qMY := (yX1_amount, cX1_amount, 6, (some .int))
abbrev zX0_forget : qMY := (yX0_forget, cX0_forget, 7, none)
abbrev zX10_triesAmong : qMY := (yX10_triesAmong, cX10_triesAmong, 5, (some .int))
abbrev zX1_voidTries : qMY := (yX1_voidTries, cX1_voidTries, 1, (some .int))
abbrev zX10_addTry : qMY := (yX10_addTry, cX10_addTry, 4, none)
abbrev zX10_hasCounted : qMY := (yX10_hasCounted, cX10_hasCounted, 4, (some .boolean))
abbrev zX10_addCounted : qMY := (yX10_addCounted, cX10_addCounted, 4, none)
abbrev zX0_attempt : qMY := (yX0_attempt, cX0_attempt, 6, (some .int))
abbrev zX0_price : qMY := (yX0_price, cX0_price, 5, (some .int))
abbrev zX0_buyGo : qMY := (yX0_buyGo, cX0_buyGo, 6, (some .int))
abbrev zX10_knows : qMY := (yX10_knows, cX10_knows, 2, (some .boolean))
abbrev zX0_noteOutcome : qMY := (yX0_noteOutcome, cX0_noteOutcome, 5, none)
abbrev zX0_doSteps : qMY := (yX0_doSteps, cX0_doSteps, 7, none)
abbrev zX0_goDays : qMY := (yX0_goDays, cX0_goDays, 5, none)
abbrev zX0_cameOfDays : qMY := (yX0_cameOfDays, cX0_cameOfDays, 2, (some .int))
abbrev zX3_init : qMY := (yX3_init, cX3_init, 1, none)
abbrev zX1_init : qMY := (yX1_init, cX1_init, 2, none)
abbrev zX1_findsAlike : qMY := (yX1_findsAlike, cX1_findsAlike, 4, (some .boolean))
abbrev zX1_isLoophole : qMY := (yX1_isLoophole, cX1_isLoophole, 7, (some .boolean))
abbrev zX2_init : qMY := (yX2_init, cX2_init, 1, none)
abbrev zX2_knowsAll : qMY := (yX2_knowsAll, cX2_knowsAll, 2, (some .boolean))
abbrev zX2_tell : qMY := (yX2_tell, cX2_tell, 5, (some .boolean))
abbrev zX3_clear : qMY := (yX3_clear, cX3_clear, 1, none)
abbrev zX3_add : qMY := (yX3_add, cX3_add, 3, (some .int))
abbrev zX3_skipToHere : qMY := (yX3_skipToHere, cX3_skipToHere, 2, none)
abbrev zX3_addClause : qMY := (yX3_addClause, cX3_addClause, 4, none)
abbrev zX4_init : qMY := (yX4_init, cX4_init, 2, none)
abbrev zX9_openText : qMY := (yX9_openText, cX9_openText, 2, none)
abbrev zX9_sign : qMY := (yX9_sign, cX9_sign, 1, (some .int))
abbrev zX9_fails : qMY := (yX9_fails, cX9_fails, 3, (some .boolean))
abbrev zX4_opens : qMY := (yX4_opens, cX4_opens, 2, (some .boolean))
abbrev zX9_takes : qMY := (yX9_takes, cX9_takes, 2, (some .boolean))
abbrev zX9_mustTake : qMY := (yX9_mustTake, cX9_mustTake, 2, (some .boolean))
abbrev zX9_digit : qMY := (yX9_digit, cX9_digit, 2, (some .int))
abbrev zX4_readNumber : qMY := (yX4_readNumber, cX4_readNumber, 3, (some .boolean))
abbrev zX4_readProduct : qMY := (yX4_readProduct, cX4_readProduct, 5, (some .boolean))
abbrev zX4_readSum : qMY := (yX4_readSum, cX4_readSum, 5, (some .boolean))
abbrev zX4_readFactor : qMY := (yX4_readFactor, cX4_readFactor, 4, (some .boolean))
abbrev zX4_readPart : qMY := (yX4_readPart, cX4_readPart, 4, (some .boolean))
abbrev zX4_readPiece : qMY := (yX4_readPiece, cX4_readPiece, 4, (some .boolean))
abbrev zX4_readCondition : qMY := (yX4_readCondition, cX4_readCondition, 4, (some .boolean))
abbrev zX4_readClause : qMY := (yX4_readClause, cX4_readClause, 4, (some .boolean))
abbrev zX9_mustEnd : qMY := (yX9_mustEnd, cX9_mustEnd, 1, (some .boolean))
abbrev zX4_read : qMY := (yX4_read, cX4_read, 3, (some .int))
abbrev zX5_init : qMY := (yX5_init, cX5_init, 5, none)
abbrev zX9_at : qMY := (yX9_at, cX9_at, 2, (some .int))
abbrev zX5_read : qMY := (yX5_read, cX5_read, 5, (some .boolean))
abbrev zX5_takeWorkers : qMY := (yX5_takeWorkers, cX5_takeWorkers, 3, (some .boolean))
abbrev zX10_copy : qMY := (yX10_copy, cX10_copy, 2, none)
abbrev zX5_hoursFor : qMY := (yX5_hoursFor, cX5_hoursFor, 6, (some .int))
abbrev zX5_goThroughSets : qMY := (yX5_goThroughSets, cX5_goThroughSets, 9, none)
abbrev zX5_longestOf : qMY := (yX5_longestOf, cX5_longestOf, 5, (some .int))
abbrev zX5_findBestRow : qMY := (yX5_findBestRow, cX5_findBestRow, 4, none)
abbrev zX5_solve : qMY := (yX5_solve, cX5_solve, 3, none)
abbrev zX5_workerOf : qMY := (yX5_workerOf, cX5_workerOf, 4, (some .int))
abbrev zX6_init : qMY := (yX6_init, cX6_init, 2, none)
abbrev zX6_addStep : qMY := (yX6_addStep, cX6_addStep, 3, (some .boolean))
abbrev zX6_readTry : qMY := (yX6_readTry, cX6_readTry, 4, (some .boolean))
abbrev zX6_repeatSteps : qMY := (yX6_repeatSteps, cX6_repeatSteps, 6, (some .boolean))
abbrev zX6_readSteps : qMY := (yX6_readSteps, cX6_readSteps, 4, (some .boolean))
abbrev zX6_readStep : qMY := (yX6_readStep, cX6_readStep, 5, (some .boolean))
abbrev zX6_read : qMY := (yX6_read, cX6_read, 2, (some .int))
abbrev zX7_init : qMY := (yX7_init, cX7_init, 4, none)
abbrev zX7_toPlaces : qMY := (yX7_toPlaces, cX7_toPlaces, 4, (some .int))
abbrev zX7_lackedPlaces : qMY := (yX7_lackedPlaces, cX7_lackedPlaces, 7, (some .int))
abbrev zX7_askVoids : qMY := (yX7_askVoids, cX7_askVoids, 8, none)
abbrev zX7_prepare : qMY := (yX7_prepare, cX7_prepare, 7, none)
abbrev zX7_extraAt : qMY := (yX7_extraAt, cX7_extraAt, 2, (some .int))
abbrev zX7_wouldCount : qMY := (yX7_wouldCount, cX7_wouldCount, 5, (some .boolean))
abbrev zX7_bestWay : qMY := (yX7_bestWay, cX7_bestWay, 11, (some .int))
abbrev zX7_soonestWay : qMY := (yX7_soonestWay, cX7_soonestWay, 2, (some .int))
abbrev zX7_leastPrice : qMY := (yX7_leastPrice, cX7_leastPrice, 6, (some .int))
abbrev zX7_tryGoes : qMY := (yX7_tryGoes, cX7_tryGoes, 8, none)
abbrev zX7_findCheapest : qMY := (yX7_findCheapest, cX7_findCheapest, 5, none)
abbrev zX8_init : qMY := (yX8_init, cX8_init, 3, none)
abbrev zX8_read : qMY := (yX8_read, cX8_read, 6, (some .boolean))
abbrev zX8_old : qMY := (yX8_old, cX8_old, 4, (some .int))
abbrev zX8_fits : qMY := (yX8_fits, cX8_fits, 4, (some .boolean))
abbrev zX8_goThrough : qMY := (yX8_goThrough, cX8_goThrough, 5, none)
abbrev zX8_greaterPart : qMY := (yX8_greaterPart, cX8_greaterPart, 2, (some .int))
abbrev zX8_tellingPlace : qMY := (yX8_tellingPlace, cX8_tellingPlace, 3, (some .int))
abbrev zX9_init : qMY := (yX9_init, cX9_init, 1, none)
abbrev zX9_put : qMY := (yX9_put, cX9_put, 3, none)
abbrev zX9_word : qMY := (yX9_word, cX9_word, 2, (some .int))
abbrev zX9_clear : qMY := (yX9_clear, cX9_clear, 1, none)
abbrev zX10_init : qMY := (yX10_init, cX10_init, 1, none)
abbrev zX10_knowsAll : qMY := (yX10_knowsAll, cX10_knowsAll, 2, (some .boolean))
abbrev zX10_takePlan : qMY := (yX10_takePlan, cX10_takePlan, 3, none)
abbrev zX10_stepsLeft : qMY := (yX10_stepsLeft, cX10_stepsLeft, 2, (some .int))
abbrev zX10_sumOf : qMY := (yX10_sumOf, cX10_sumOf, 5, (some .int))
abbrev zX11_init : qMY := (yX11_init, cX11_init, 1, none)
abbrev zX11_kind : qMY := (yX11_kind, cX11_kind, 5, (some .boolean))
abbrev zX11_person : qMY := (yX11_person, cX11_person, 3, (some .boolean))
abbrev zX11_feed : qMY := (yX11_feed, cX11_feed, 6, (some .int))
abbrev zX11_law : qMY := (yX11_law, cX11_law, 4, (some .int))
abbrev zX11_plan : qMY := (yX11_plan, cX11_plan, 4, (some .int))
abbrev zX11_tries : qMY := (yX11_tries, cX11_tries, 4, (some .int))
abbrev zX11_canDeal : qMY := (yX11_canDeal, cX11_canDeal, 4, (some .boolean))
abbrev zX11_buys : qMY := (yX11_buys, cX11_buys, 4, (some .int))
abbrev zX11_days : qMY := (yX11_days, cX11_days, 2, (some .int))
abbrev zX11_tried : qMY := (yX11_tried, cX11_tried, 4, (some .int))
abbrev zX11_has : qMY := (yX11_has, cX11_has, 6, (some .int))
abbrev zX11_alike : qMY := (yX11_alike, cX11_alike, 3, (some .int))
abbrev zX11_cost : qMY := (yX11_cost, cX11_cost, 4, (some .int))
abbrev zX11_canChoose : qMY := (yX11_canChoose, cX11_canChoose, 5, (some .boolean))
abbrev zX11_soonest : qMY := (yX11_soonest, cX11_soonest, 7, (some .int))
abbrev zX11_cheapest : qMY := (yX11_cheapest, cX11_cheapest, 6, (some .int))
abbrev zX11_loophole : qMY := (yX11_loophole, cX11_loophole, 7, (some .int))
abbrev zX11_jobs : qMY := (yX11_jobs, cX11_jobs, 6, (some .int))
abbrev zX11_pence : qMY := (yX11_pence, cX11_pence, 4, (some .int))
abbrev zX11_isSettled : qMY := (yX11_isSettled, cX11_isSettled, 5, (some .boolean))
abbrev zX11_rivals : qMY := (yX11_rivals, cX11_rivals, 7, (some .int))
abbrev zX11_histories : qMY := (yX11_histories, cX11_histories, 6, (some .int))
abbrev zX11_isHeap : qMY := (yX11_isHeap, cX11_isHeap, 1, (some .boolean))
abbrev zX11_nextOneWins : qMY := (yX11_nextOneWins, cX11_nextOneWins, 3, (some .boolean))
abbrev zX11_bestMove : qMY := (yX11_bestMove, cX11_bestMove, 7, (some .int))
abbrev zX11_game : qMY := (yX11_game, cX11_game, 8, (some .int))
abbrev zX11_court : qMY := (yX11_court, cX11_court, 11, (some .int))
abbrev zX11_keep : qMY := (yX11_keep, cX11_keep, 1, (some .int))
abbrev zX11_undo : qMY := (yX11_undo, cX11_undo, 1, (some .boolean))
abbrev zX11_check : qMY := (yX11_check, cX11_check, 5, (some .int))
abbrev zX11_countOfKind : qMY := (yX11_countOfKind, cX11_countOfKind, 2, (some .int))
abbrev zX11_countOfPerson : qMY := (yX11_countOfPerson, cX11_countOfPerson, 2, (some .int))
abbrev zX11_count : qMY := (yX11_count, cX11_count, 2, (some .int))
abbrev zX12_laysWays : qMY := (yX12_laysWays, cX12_laysWays, 5, none)
abbrev zX12_init : qMY := (yX12_init, cX12_init, 2, none)
abbrev zX12_in : qMY := (yX12_in, cX12_in, 3, (some .boolean))
abbrev zX12_min : qMY := (yX12_min, cX12_min, 2, (some .int))
abbrev zX12_max : qMY := (yX12_max, cX12_max, 2, (some .int))
abbrev zX12_has0 : qMY := (yX12_has0, cX12_has0, 2, (some .boolean))
abbrev zX12_bits : qMY := (yX12_bits, cX12_bits, 3, (some .int))
abbrev zX12_copies : qMY := (yX12_copies, cX12_copies, 3, none)
abbrev zX12_isKind : qMY := (yX12_isKind, cX12_isKind, 2, (some .boolean))
abbrev zX12_isPerson : qMY := (yX12_isPerson, cX12_isPerson, 2, (some .boolean))
abbrev zX12_at : qMY := (yX12_at, cX12_at, 2, (some .int))
abbrev zX12_kind : qMY := (yX12_kind, cX12_kind, 5, (some .boolean))
abbrev zX12_person : qMY := (yX12_person, cX12_person, 3, (some .boolean))
abbrev zX12_types : qMY := (yX12_types, cX12_types, 3, none)
abbrev zX12_feed : qMY := (yX12_feed, cX12_feed, 6, (some .int))
abbrev zX12_here : qMY := (yX12_here, cX12_here, 1, (some .int))
abbrev zX12_isDigit : qMY := (yX12_isDigit, cX12_isDigit, 1, (some .boolean))
abbrev zX12_wrongAt : qMY := (yX12_wrongAt, cX12_wrongAt, 3, (some .boolean))
abbrev zX12_takes : qMY := (yX12_takes, cX12_takes, 2, (some .boolean))
abbrev zX12_readsNumber : qMY := (yX12_readsNumber, cX12_readsNumber, 2, (some .boolean))
abbrev zX12_notes : qMY := (yX12_notes, cX12_notes, 3, none)
abbrev zX12_opens : qMY := (yX12_opens, cX12_opens, 2, (some .boolean))
abbrev zX12_waitTop : qMY := (yX12_waitTop, cX12_waitTop, 1, (some .int))
abbrev zX12_factOf : qMY := (yX12_factOf, cX12_factOf, 1, (some .int))
abbrev zX12_sumSign : qMY := (yX12_sumSign, cX12_sumSign, 1, (some .int))
abbrev zX12_closesSums : qMY := (yX12_closesSums, cX12_closesSums, 2, none)
abbrev zX12_readsFactor : qMY := (yX12_readsFactor, cX12_readsFactor, 2, (some .boolean))
abbrev zX12_hasOpenSum : qMY := (yX12_hasOpenSum, cX12_hasOpenSum, 3, (some .boolean))
abbrev zX12_readsSum : qMY := (yX12_readsSum, cX12_readsSum, 3, (some .boolean))
abbrev zX12_endsPiece : qMY := (yX12_endsPiece, cX12_endsPiece, 1, none)
abbrev zX12_lands : qMY := (yX12_lands, cX12_lands, 3, none)
abbrev zX12_jumps : qMY := (yX12_jumps, cX12_jumps, 2, none)
abbrev zX12_readsCompared : qMY := (yX12_readsCompared, cX12_readsCompared, 2, (some .boolean))
abbrev zX12_readsCondition : qMY := (yX12_readsCondition, cX12_readsCondition, 1, (some .boolean))
abbrev zX12_isClause : qMY := (yX12_isClause, cX12_isClause, 1, (some .boolean))
abbrev zX12_readsClause : qMY := (yX12_readsClause, cX12_readsClause, 2, (some .boolean))
abbrev zX12_law : qMY := (yX12_law, cX12_law, 4, (some .int))
abbrev zX12_reckon : qMY := (yX12_reckon, cX12_reckon, 3, (some .int))
abbrev zX12_comesTo : qMY := (yX12_comesTo, cX12_comesTo, 8, (some .int))
abbrev zX12_byLaw : qMY := (yX12_byLaw, cX12_byLaw, 7, (some .int))
abbrev zX12_feelsKind : qMY := (yX12_feelsKind, cX12_feelsKind, 3, none)
abbrev zX12_isLike : qMY := (yX12_isLike, cX12_isLike, 4, (some .boolean))
abbrev zX12_alike : qMY := (yX12_alike, cX12_alike, 3, (some .int))
abbrev zX12_allTries : qMY := (yX12_allTries, cX12_allTries, 4, (some .int))
abbrev zX12_feels : qMY := (yX12_feels, cX12_feels, 4, none)
abbrev zX12_forgets : qMY := (yX12_forgets, cX12_forgets, 6, none)
abbrev zX12_oldOnes : qMY := (yX12_oldOnes, cX12_oldOnes, 5, (some .int))
abbrev zX12_voidFor : qMY := (yX12_voidFor, cX12_voidFor, 4, (some .int))
abbrev zX12_hasNeeds : qMY := (yX12_hasNeeds, cX12_hasNeeds, 4, (some .boolean))
abbrev zX12_triesNow : qMY := (yX12_triesNow, cX12_triesNow, 7, (some .int))
abbrev zX12_tries : qMY := (yX12_tries, cX12_tries, 4, (some .int))
abbrev zX12_costOf : qMY := (yX12_costOf, cX12_costOf, 4, (some .int))
abbrev zX12_cost : qMY := (yX12_cost, cX12_cost, 4, (some .int))
abbrev zX12_buys : qMY := (yX12_buys, cX12_buys, 7, (some .int))
abbrev zX12_has : qMY := (yX12_has, cX12_has, 8, (some .int))
abbrev zX12_endsRound : qMY := (yX12_endsRound, cX12_endsRound, 5, (some .boolean))
abbrev zX12_readsStep : qMY := (yX12_readsStep, cX12_readsStep, 3, (some .boolean))
abbrev zX12_plan : qMY := (yX12_plan, cX12_plan, 5, (some .int))
abbrev zX12_notesTry : qMY := (yX12_notesTry, cX12_notesTry, 4, none)
abbrev zX12_dayOf : qMY := (yX12_dayOf, cX12_dayOf, 7, none)
abbrev zX12_daysGo : qMY := (yX12_daysGo, cX12_daysGo, 4, none)
abbrev zX12_days : qMY := (yX12_days, cX12_days, 2, (some .int))
abbrev zX12_tried : qMY := (yX12_tried, cX12_tried, 4, (some .int))
abbrev zX12_wayWith : qMY := (yX12_wayWith, cX12_wayWith, 5, (some .int))
abbrev zX12_laysOwn : qMY := (yX12_laysOwn, cX12_laysOwn, 5, none)
abbrev zX12_takesState : qMY := (yX12_takesState, cX12_takesState, 4, none)
abbrev zX12_stateNow : qMY := (yX12_stateNow, cX12_stateNow, 3, (some .int))
abbrev zX12_areCounted : qMY := (yX12_areCounted, cX12_areCounted, 5, (some .boolean))
abbrev zX12_wouldCount : qMY := (yX12_wouldCount, cX12_wouldCount, 5, (some .boolean))
abbrev zX12_goesNow : qMY := (yX12_goesNow, cX12_goesNow, 3, (some .int))
abbrev zX12_hoursNow : qMY := (yX12_hoursNow, cX12_hoursNow, 3, (some .int))
abbrev zX12_madeNow : qMY := (yX12_madeNow, cX12_madeNow, 3, (some .int))
abbrev zX12_statesAll : qMY := (yX12_statesAll, cX12_statesAll, 3, (some .int))
abbrev zX12_marks : qMY := (yX12_marks, cX12_marks, 4, none)
abbrev zX12_spreads : qMY := (yX12_spreads, cX12_spreads, 6, none)
abbrev zX12_placeOf : qMY := (yX12_placeOf, cX12_placeOf, 3, (some .int))
abbrev zX12_areSome : qMY := (yX12_areSome, cX12_areSome, 4, (some .boolean))
abbrev zX12_soonest : qMY := (yX12_soonest, cX12_soonest, 10, (some .int))
abbrev zX12_leastPrice : qMY := (yX12_leastPrice, cX12_leastPrice, 5, (some .int))
abbrev zX12_marksBought : qMY := (yX12_marksBought, cX12_marksBought, 5, none)
abbrev zX12_coinsNow : qMY := (yX12_coinsNow, cX12_coinsNow, 3, (some .int))
abbrev zX12_cheapest : qMY := (yX12_cheapest, cX12_cheapest, 10, (some .int))
abbrev zX12_finds : qMY := (yX12_finds, cX12_finds, 4, (some .boolean))
abbrev zX12_loophole : qMY := (yX12_loophole, cX12_loophole, 7, (some .int))
abbrev zX12_jobCounts : qMY := (yX12_jobCounts, cX12_jobCounts, 5, (some .boolean))
abbrev zX12_jobNeeds : qMY := (yX12_jobNeeds, cX12_jobNeeds, 4, (some .boolean))
abbrev zX12_whoDoes : qMY := (yX12_whoDoes, cX12_whoDoes, 5, (some .int))
abbrev zX12_hoursBy : qMY := (yX12_hoursBy, cX12_hoursBy, 8, (some .int))
abbrev zX12_longestBy : qMY := (yX12_longestBy, cX12_longestBy, 4, (some .int))
abbrev zX12_takesJobs : qMY := (yX12_takesJobs, cX12_takesJobs, 3, (some .boolean))
abbrev zX12_jobs : qMY := (yX12_jobs, cX12_jobs, 9, (some .int))
abbrev zX12_gainOf : qMY := (yX12_gainOf, cX12_gainOf, 6, (some .int))
abbrev zX12_rivals : qMY := (yX12_rivals, cX12_rivals, 7, (some .int))
abbrev zX12_takesPast : qMY := (yX12_takesPast, cX12_takesPast, 5, (some .boolean))
abbrev zX12_begins : qMY := (yX12_begins, cX12_begins, 4, none)
abbrev zX12_pastCounts : qMY := (yX12_pastCounts, cX12_pastCounts, 5, (some .boolean))
abbrev zX12_goesWith : qMY := (yX12_goesWith, cX12_goesWith, 6, (some .boolean))
abbrev zX12_greaterBy : qMY := (yX12_greaterBy, cX12_greaterBy, 8, (some .int))
abbrev zX12_histories : qMY := (yX12_histories, cX12_histories, 10, (some .int))
abbrev zX12_heapIn : qMY := (yX12_heapIn, cX12_heapIn, 2, (some .int))
abbrev zX12_heapUnit : qMY := (yX12_heapUnit, cX12_heapUnit, 1, (some .int))
abbrev zX12_gameState : qMY := (yX12_gameState, cX12_gameState, 3, (some .int))
abbrev zX12_wins : qMY := (yX12_wins, cX12_wins, 6, (some .boolean))
abbrev zX12_winningMove : qMY := (yX12_winningMove, cX12_winningMove, 6, (some .int))
abbrev zX12_game : qMY := (yX12_game, cX12_game, 9, (some .int))
abbrev zX12_court : qMY := (yX12_court, cX12_court, 12, (some .int))
abbrev zX12_keep : qMY := (yX12_keep, cX12_keep, 1, (some .int))
abbrev zX12_undo : qMY := (yX12_undo, cX12_undo, 1, (some .boolean))
abbrev zX12_tapeNumber : qMY := (yX12_tapeNumber, cX12_tapeNumber, 4, (some .int))
abbrev zX12_check : qMY := (yX12_check, cX12_check, 4, (some .int))
abbrev zX12_sumOf : qMY := (yX12_sumOf, cX12_sumOf, 5, (some .int))
abbrev zX12_count : qMY := (yX12_count, cX12_count, 2, (some .int))
abbrev zJ9_max_7cf53 : qMY := (yJ9_max_7cf53, cJ9_max_7cf53, 2, (some .int))
abbrev zJ9_min_7cf53 : qMY := (yJ9_min_7cf53, cJ9_min_7cf53, 2, (some .int))
abbrev zL_law : qMY := (yL_law, cL_law, 4, (some .boolean))
abbrev q_cls : List vw_C := [(RX0, TX0, 10), (RX1, TX1, 5), (RX2, TX2, 4), (RX3, TX3, 8), (RX4, TX4, 2), (RX5, TX5, 13), (RX6, TX6, 4), (RX7, TX7, 14), (RX8, TX8, 12), (RX9, TX9, 5), (RX10, TX10, 10), (RX11, TX11, 13), (RX12, TX12, 68)]
end
section

/-! values, cells and states of the small machine: a reference is the number of a cell -/
abbrev qV : Type := Int32 ⊕ Option Nat
abbrev qSh : Type := (Nat × Nat) ⊕ (Nat × List (Option (Option Nat)))
abbrev qM : Type := Nat → Nat → Int32
abbrev qSt : Type := List qSh × qM
abbrev qG : Type := va_G × (Nat → ClassId) × (Nat → Nat) × (Nat → Prop) × Nat × Nat × (Nat → Int32)
abbrev qK : Type := Program × Launch × Env × Room × State × MethodId × Array Value × List Frame × Method × Code × Nat × Nat × (State → Prop)
abbrev qR : Type := Option (Int32 × qM)
def q_tbl : List Cond := lw_tbl.filter goodWord
def q_v (ad : Nat → Nat) : qV → Value
  | .inl v => .int v
  | .inr r => va_rf (r.map ad)
def q_fl (ad : Nat → Nat) (f : Nat → Int32) : Nat → List (Option (Option Nat)) → List Value
  | _, [] => []
  | k, none :: r => .int (f k) :: q_fl ad f (k + 1) r
  | k, some x :: r => va_rf (x.map ad) :: q_fl ad f (k + 1) r
def q_e (g : qG) (M : qM) (i : Nat) : qSh → va_E
  | .inl q => .inl (g.2.1 q.1, q.2, .inl (M i))
  | .inr q => .inr (q.1, q_fl g.2.2.1 (M i) 0 q.2)
def q_w (g : qG) (st : qSt) : va_W := st.1.mapIdx (fun i sh => (g.2.2.1 i, q_e g st.2 i sh))
def q_l (ad : Nat → Nat) : Nat → List (Option qV) → List (Nat × Value)
  | _, [] => []
  | i, none :: r => q_l ad (i + 1) r
  | i, some v :: r => (i, q_v ad v) :: q_l ad (i + 1) r
def mu (M : qM) (i j : Nat) (v : Int32) : qM := fun a b => if a = i ∧ b = j then v else M a b
def mr (M : qM) (i : Nat) (f : Nat → Int32) : qM := fun a => if a = i then f else M a
def q_t (g : qG) : List (ClassId × FieldType) := [(g.2.1 0, .int), (g.2.1 1, .byte), (g.2.1 2, .boolean)]
def q_let (k : Nat) : Int32 := ([107, 104, 120, 106, 121, 109, 100, 112, 113, 110, 111, 119] : List Int32).getD k 0
def q_Nw : Cond := .fieldLinkNest "SecondTry$LawReader" 104 "SecondTry" "LETTERS" "[I" "SecondTry"
def q_RO (g : qG) (U : State) (H : Heap) : Prop :=
  va_X (g.2.2.1 1000) g.2.2.2.2.2.1 g.2.2.2.2.2.2 U H ∧ g.2.2.1 1000 < H.size ∧ ¬ g.2.2.2.1 (g.2.2.1 1000) ∧ va_X (g.2.2.1 1001) 12 q_let U H ∧ g.2.2.1 1001 < H.size ∧ ¬ g.2.2.2.1 (g.2.2.1 1001) ∧ va_Z "SecondTry" "LETTERS" "[I" (.ref (g.2.2.1 1001)) g.2.2.2.1 U H ∧ va_Nw q_Nw U
def q_DD (g : qG) : Prop := (∀ i j, i < g.2.2.2.2.1 → j < g.2.2.2.2.1 → g.2.2.1 i = g.2.2.1 j → i = j) ∧ ∀ i, i < g.2.2.2.2.1 → g.2.2.2.1 (g.2.2.1 i)
/-- what a method's frame stands on -/
def qOk (g : qG) (d : Nat) (y : qMY) : qK → Prop := fun ⟨p, l, e, R, s, m, args, below, meth, c, cells, slots, Q⟩ =>
  p.tables.exec = Jvm.exec ∧ c.code = y.2.1 ∧ c.maxLocals = y.2.2.1 ∧ s.vm.findClass y.1.cls = some m.cls ∧ (∀ w ∈ q_tbl, w.before args s = true) ∧ meth.sig.returnType = y.2.2.2 ∧ meth.locks = false ∧ va_K g.1 q_cls (q_t g) s ∧ q_RO g s s.heap ∧ q_DD g ∧ d ≤ R.frames ∧ 64 * d ≤ R.locals ∧ cells ≤ R.cells ∧ slots ≤ R.slots
def qAW (g : qG) (k : qK) (y : qMY) (pc : Nat) (L : List (Option qV)) (S : List qV) (st : qSt) : Prop := match k with
  | ⟨p, l, e, R, s, m, args, below, meth, c, cells, slots, Q⟩ => ∀ (H : Heap) (locs : List Loc) (ls : Array Slot), st.1.length ≤ g.2.2.2.2.1 → va_P g.1 q_cls (q_w g st) H → va_S g.2.2.2.1 s.heap H locs → lv_has ls y.2.2.1 (q_l g.2.2.1 0 L) → W p l e R s m args below meth c H locs cells slots Q (F0 m pc ls (S.map (q_v g.2.2.1)))
def qRT (g : qG) (k : qK) (y : qMY) (v : Int32) (st : qSt) : Prop := match k with
  | ⟨p, l, e, R, s, m, args, below, meth, c, cells, slots, Q⟩ => ∀ (H : Heap) (locs : List Loc) (ls : Array Slot) (pc : Nat), st.1.length ≤ g.2.2.2.2.1 → va_P g.1 q_cls (q_w g st) H → va_S g.2.2.2.1 s.heap H locs →
    match y.2.2.2 with
    | none => decode y.2.1 pc = .ok (.return_, 1) → W p l e R s m args below meth c H locs cells slots Q (F0 m pc ls [])
    | some ty => narrow ty (.int v) = .int v → decode y.2.1 pc = .ok (.ireturn, 1) → W p l e R s m args below meth c H locs cells slots Q (F0 m pc ls [.int v])
/-- where E comes to an answer and a state, the frame comes to its end with them -/
def qAE (g : qG) (k : qK) (y : qMY) (Z : List qSh) (pc : Nat) (L : List (Option qV)) (S : List qV) (st : qSt) (E : qR) : Prop :=
  ∀ (v : Int32) (M' : qM), E = some (v, M') → qRT g k y v (Z, M') → qAW g k y pc L S st
def q_IV (g : qG) (st : qSt) (U : State) : Prop := st.1.length ≤ g.2.2.2.2.1 ∧ va_P g.1 q_cls (q_w g st) U.heap ∧ va_K g.1 q_cls (q_t g) U ∧ q_RO g U U.heap ∧ q_DD g
def q_rv (y : qMY) (v : Int32) : Option Value := match y.2.2.2 with
  | none => none
  | some _ => some (.int v)
def q_QC (g : qG) (y : qMY) (v : Int32) (st : qSt) : Array Value → State → Outcome → State → Prop := fun _ s0 oc t =>
  (oc = .returned (q_rv y v) ∧ st.1.length ≤ g.2.2.2.2.1 ∧ va_P g.1 q_cls (q_w g st) t.heap) ∧ va_F g.2.2.2.1 s0 t
def q_wy (y : qMY) : List Cond := .code y.1 y.2.1 y.2.2.1 y.2.2.2 :: q_tbl
def q_rm (d : Nat) : Room := { frames := d, cells := 0, slots := 0, locals := 64 * d }
/-- a method's contract: where E comes to an answer and a state, the method returns it and leaves the state -/
def qAM (g : qG) (l : Launch) (d : Nat) (y : qMY) (Z : List qSh) (As : List qV) (st : qSt) (E : qR) : Prop :=
  ∀ (v : Int32) (M' : qM), E = some (v, M') → Met l y.1 (q_wy y) (q_rm d) (va_Pc (As.map (q_v g.2.2.1)) (q_IV g st)) (q_QC g y v (Z, M')) 0 0 g.2.2.2.1
/-- what is said once of a method -/
def qZ (z : qMY) (n : Nat) : Prop := Cond.code z.1 z.2.1 z.2.2.1 z.2.2.2 ∈ q_tbl ∧ Cond.initialized z.1.cls ∈ q_tbl ∧ plainName z.1.cls = true ∧ z.1.cls ≠ "java/lang/invoke/MethodHandle" ∧ z.1.cls ≠ "java/lang/invoke/VarHandle" ∧ (parseMethodDescriptor z.1.desc).map (fun d => d.parameters.length) = some n ∧ z.2.2.1 ≤ 45
def qZV (z : qMY) (n : Nat) : Prop := qZ z n ∧ Cond.instanceMethod z.1 ∈ q_tbl ∧ Cond.selects z.1.cls z.1 z.1 ∈ q_tbl
def qZS (z : qMY) (n : Nat) : Prop := qZ z n ∧ Cond.static z.1 ∈ q_tbl
def qC (ci : Nat) (C : String) (T : u_T) (N : Nat) : Prop := q_cls[ci]? = some (C, T, N) ∧ (∀ w ∈ u_ws C T N, w ∈ q_tbl) ∧ (∃ ty : Nat → FieldType, ∀ k, k < N → parseFieldDescriptor (T k).2.2.1 = some (ty k)) ∧ ∀ a, a < N → ∀ b, b < N → a ≠ b → (T a).2.1 ≠ (T b).2.1
theorem q_in {w : Cond} (i : Nat) (h : tables_1[i]? = some w) (hg : goodWord w = true) : w ∈ q_tbl := List.mem_filter.mpr ⟨List.mem_append_right _ (List.mem_of_getElem? h), hg⟩
theorem q_inS {w : Cond} (i : Nat) (h : (k2_sels lw_privs)[i]? = some w) (hg : goodWord w = true) : w ∈ q_tbl := List.mem_filter.mpr ⟨List.mem_append_left _ (List.mem_of_getElem? h), hg⟩
theorem q_goodIn {z : qMY} (h : Cond.code z.1 z.2.1 z.2.2.1 z.2.2.2 ∈ q_tbl) : GoodIn q_tbl (q_wy z) := by
  intro w hw
  have hm : w ∈ q_tbl := (List.mem_cons.mp hw).elim (fun e => e ▸ h) id
  exact ⟨hm, good_of_word (List.mem_filter.mp hm).2⟩
theorem q_w_at {g : qG} {st : qSt} {i : Nat} {sh : qSh} (h : st.1[i]? = some sh) : (q_w g st)[i]? = some (g.2.2.1 i, q_e g st.2 i sh) := by
  simp [q_w, h]
theorem q_w_len {g : qG} {st : qSt} : (q_w g st).length = st.1.length := by simp [q_w]
theorem q_fl_at {ad : Nat → Nat} {f : Nat → Int32} : ∀ (fds : List (Option (Option Nat))) (k0 k : Nat), fds[k]? = some none → (q_fl ad f k0 fds)[k]? = some (.int (f (k0 + k)))
  | [], _, k, h => by simp at h
  | none :: r, k0, 0, _ => by simp [q_fl]
  | some x :: r, k0, 0, h => by simp at h
  | none :: r, k0, k + 1, h => by
    have := q_fl_at (ad := ad) (f := f) r (k0 + 1) k (by simpa using h)
    simp only [q_fl, List.getElem?_cons_succ]
    rw [this, show k0 + 1 + k = k0 + (k + 1) by omega]
  | some x :: r, k0, k + 1, h => by
    have := q_fl_at (ad := ad) (f := f) r (k0 + 1) k (by simpa using h)
    simp only [q_fl, List.getElem?_cons_succ]
    rw [this, show k0 + 1 + k = k0 + (k + 1) by omega]
theorem q_fl_atr {ad : Nat → Nat} {f : Nat → Int32} {x : Option Nat} : ∀ (fds : List (Option (Option Nat))) (k0 k : Nat), fds[k]? = some (some x) → (q_fl ad f k0 fds)[k]? = some (va_rf (x.map ad))
  | [], _, k, h => by simp at h
  | none :: r, k0, 0, h => by simp at h
  | some y :: r, k0, 0, h => by simp at h; simp [q_fl, h]
  | none :: r, k0, k + 1, h => by
    simp only [q_fl, List.getElem?_cons_succ]
    exact q_fl_atr r (k0 + 1) k (by simpa using h)
  | some y :: r, k0, k + 1, h => by
    simp only [q_fl, List.getElem?_cons_succ]
    exact q_fl_atr r (k0 + 1) k (by simpa using h)
theorem q_fl_len {ad : Nat → Nat} {f : Nat → Int32} : ∀ (fds : List (Option (Option Nat))) (k0 : Nat), (q_fl ad f k0 fds).length = fds.length
  | [], _ => rfl
  | none :: r, k0 => by simp [q_fl, q_fl_len r (k0 + 1)]
  | some x :: r, k0 => by simp [q_fl, q_fl_len r (k0 + 1)]
theorem q_fl_congr {ad : Nat → Nat} {f f' : Nat → Int32} : ∀ (fds : List (Option (Option Nat))) (k0 : Nat), (∀ j, k0 ≤ j → f j = f' j) → q_fl ad f k0 fds = q_fl ad f' k0 fds
  | [], _, _ => rfl
  | none :: r, k0, h => by simp only [q_fl]; rw [h k0 (Nat.le_refl _), q_fl_congr r (k0 + 1) (fun j hj => h j (by omega))]
  | some x :: r, k0, h => by simp only [q_fl]; rw [q_fl_congr r (k0 + 1) (fun j hj => h j (by omega))]
theorem q_fl_set {ad : Nat → Nat} {f : Nat → Int32} {v : Int32} : ∀ (fds : List (Option (Option Nat))) (k0 k : Nat), fds[k]? = some none → (q_fl ad f k0 fds).set k (.int v) = q_fl ad (upd f (k0 + k) v) k0 fds
  | [], _, k, h => by simp at h
  | some x :: r, k0, 0, h => by simp at h
  | none :: r, k0, 0, _ => by
    simp only [q_fl, List.set_cons_zero, Nat.add_zero]
    rw [pk_us, q_fl_congr (f := f) (f' := upd f k0 v) r (k0 + 1) (fun j hj => (pk_un (by omega)).symm)]
  | none :: r, k0, k + 1, h => by
    have := q_fl_set (ad := ad) (f := f) (v := v) r (k0 + 1) k (by simpa using h)
    simp only [q_fl, List.set_cons_succ]
    rw [this, show k0 + 1 + k = k0 + (k + 1) by omega, pk_un (by omega)]
  | some x :: r, k0, k + 1, h => by
    have := q_fl_set (ad := ad) (f := f) (v := v) r (k0 + 1) k (by simpa using h)
    simp only [q_fl, List.set_cons_succ]
    rw [this, show k0 + 1 + k = k0 + (k + 1) by omega]
theorem q_fl_setr {ad : Nat → Nat} {f : Nat → Int32} {x : Option Nat} : ∀ (fds : List (Option (Option Nat))) (k0 k : Nat), (∃ z, fds[k]? = some (some z)) → (q_fl ad f k0 fds).set k (va_rf (x.map ad)) = q_fl ad f k0 (fds.set k (some x))
  | [], _, k, h => by simp at h
  | none :: r, k0, 0, h => by simp at h
  | some y :: r, k0, 0, _ => by simp [q_fl]
  | none :: r, k0, k + 1, h => by
    simp only [q_fl, List.set_cons_succ]
    rw [q_fl_setr r (k0 + 1) k (by simpa using h)]
  | some y :: r, k0, k + 1, h => by
    simp only [q_fl, List.set_cons_succ]
    rw [q_fl_setr r (k0 + 1) k (by simpa using h)]
theorem mu_row {M : qM} {i j : Nat} {v : Int32} : mu M i j v i = upd (M i) j v := by
  funext b
  simp [mu, upd]
theorem mu_off {M : qM} {i j a : Nat} {v : Int32} (h : a ≠ i) : mu M i j v a = M a := by
  funext b
  simp [mu, h]
theorem mr_row {M : qM} {i : Nat} {f : Nat → Int32} : mr M i f i = f := by simp [mr]
theorem mr_off {M : qM} {i a : Nat} {f : Nat → Int32} (h : a ≠ i) : mr M i f a = M a := by simp [mr, h]
theorem q_e_off {g : qG} {M M' : qM} {i : Nat} {sh : qSh} (h : M' i = M i) : q_e g M' i sh = q_e g M i sh := by
  cases sh <;> simp [q_e, h]
theorem q_w_set {g : qG} {st st' : qSt} {i : Nat} {sh : qSh} {x : va_E} (h : st.1[i]? = some sh) (h1 : st'.1.length = st.1.length) (h2 : ∀ j, j ≠ i → st'.1[j]? = st.1[j]? ∧ st'.2 j = st.2 j) (h3 : ∃ sh', st'.1[i]? = some sh' ∧ q_e g st'.2 i sh' = x) : (q_w g st).set i (g.2.2.1 i, x) = q_w g st' := by
  apply List.ext_getElem?
  intro j
  have hi : i < (q_w g st).length := by rw [q_w_len]; exact (List.getElem?_eq_some_iff.mp h).1
  by_cases hj : j = i
  · subst hj
    obtain ⟨sh', e1, e2⟩ := h3
    rw [q_w_at e1, List.getElem?_set_self hi, e2]
  · rw [List.getElem?_set_ne (fun e => hj e.symm)]
    obtain ⟨a1, a2⟩ := h2 j hj
    simp only [q_w, List.getElem?_mapIdx, a1]
    congr 1
    funext sh
    rw [q_e_off (g := g) (sh := sh) a2]
theorem q_w_seta {g : qG} {st : qSt} {i j t n : Nat} {v : Int32} (h : st.1[i]? = some (.inl (t, n))) : (q_w g st).set i (g.2.2.1 i, .inl (g.2.1 t, n, .inl (upd (st.2 i) j v))) = q_w g (st.1, mu st.2 i j v) :=
  q_w_set h rfl (fun a ha => ⟨rfl, mu_off ha⟩) ⟨_, h, by simp [q_e, mu_row]⟩
theorem q_w_setm {g : qG} {st : qSt} {i t n : Nat} {f : Nat → Int32} (h : st.1[i]? = some (.inl (t, n))) : (q_w g st).set i (g.2.2.1 i, .inl (g.2.1 t, n, .inl f)) = q_w g (st.1, mr st.2 i f) :=
  q_w_set h rfl (fun a ha => ⟨rfl, mr_off ha⟩) ⟨_, h, by simp [q_e, mr_row]⟩
theorem q_w_setf {g : qG} {st : qSt} {i k ci : Nat} {fds : List (Option (Option Nat))} {v : Int32} (h : st.1[i]? = some (.inr (ci, fds))) (hk : fds[k]? = some none) : (q_w g st).set i (g.2.2.1 i, .inr (ci, (q_fl g.2.2.1 (st.2 i) 0 fds).set k (.int v))) = q_w g (st.1, mu st.2 i k v) :=
  q_w_set h rfl (fun a ha => ⟨rfl, mu_off ha⟩) ⟨_, h, by simp only [q_e, mu_row]; rw [q_fl_set fds 0 k hk, Nat.zero_add]⟩
theorem q_w_setr {g : qG} {st : qSt} {i k ci : Nat} {fds : List (Option (Option Nat))} {x : Option Nat} (h : st.1[i]? = some (.inr (ci, fds))) (hk : ∃ z, fds[k]? = some (some z)) : (q_w g st).set i (g.2.2.1 i, .inr (ci, (q_fl g.2.2.1 (st.2 i) 0 fds).set k (va_rf (x.map g.2.2.1)))) = q_w g (st.1.set i (.inr (ci, fds.set k (some x))), st.2) := by
  have hi := (List.getElem?_eq_some_iff.mp h).1
  exact q_w_set h (by simp) (fun a ha => ⟨by simp [List.getElem?_set_ne (fun e => ha e.symm)], rfl⟩) ⟨.inr (ci, fds.set k (some x)), by simp [List.getElem?_set_self hi], by simp only [q_e]; rw [q_fl_setr fds 0 k hk]⟩
theorem q_D {g : qG} {st : qSt} (h : q_DD g) (hN : st.1.length ≤ g.2.2.2.2.1) : va_D g.2.2.2.1 (q_w g st) := by
  have lt : ∀ (k : Nat) (q : Nat × va_E), (q_w g st)[k]? = some q → k < g.2.2.2.2.1 ∧ q.1 = g.2.2.1 k := by
    intro k q hq
    have hk := (List.getElem?_eq_some_iff.mp hq).1
    rw [q_w_len] at hk
    refine ⟨by omega, ?_⟩
    have := q_w_at (g := g) (st := st) (List.getElem?_eq_getElem hk)
    rw [this] at hq
    cases hq
    rfl
  refine ⟨fun i j a b ha hb hab => ?_, fun k q hq => ?_⟩
  · obtain ⟨a1, a2⟩ := lt i a ha
    obtain ⟨b1, b2⟩ := lt j b hb
    exact h.1 i j a1 b1 (by rw [← a2, ← b2]; exact hab)
  · obtain ⟨a1, a2⟩ := lt k q hq
    rw [a2]
    exact h.2 k a1
theorem q_l_mem {ad : Nat → Nat} {v : qV} : ∀ (L : List (Option qV)) (i0 i : Nat), L[i]? = some (some v) → (i0 + i, q_v ad v) ∈ q_l ad i0 L
  | [], _, _, h => by simp at h
  | none :: r, i0, 0, h => by simp at h
  | some x :: r, i0, 0, h => by
    simp at h
    subst h
    simp [q_l]
  | none :: r, i0, i + 1, h => by
    have := q_l_mem (ad := ad) r (i0 + 1) i (by simpa using h)
    rw [show i0 + (i + 1) = i0 + 1 + i by omega]
    exact this
  | some x :: r, i0, i + 1, h => by
    have := q_l_mem (ad := ad) r (i0 + 1) i (by simpa using h)
    rw [show i0 + (i + 1) = i0 + 1 + i by omega]
    exact List.mem_cons_of_mem _ this
theorem q_l_of {ad : Nat → Nat} {q : Nat × Value} : ∀ (L : List (Option qV)) (i0 : Nat), q ∈ q_l ad i0 L → ∃ i v, L[i]? = some (some v) ∧ q = (i0 + i, q_v ad v)
  | [], _, h => by simp [q_l] at h
  | none :: r, i0, h => by
    obtain ⟨i, v, h1, h2⟩ := q_l_of r (i0 + 1) h
    exact ⟨i + 1, v, by simpa using h1, by rw [h2, show i0 + (i + 1) = i0 + 1 + i by omega]⟩
  | some x :: r, i0, h => by
    rcases List.mem_cons.mp h with h | h
    · exact ⟨0, x, rfl, h⟩
    · obtain ⟨i, v, h1, h2⟩ := q_l_of r (i0 + 1) h
      exact ⟨i + 1, v, by simpa using h1, by rw [h2, show i0 + (i + 1) = i0 + 1 + i by omega]⟩
theorem q_v_cat (ad : Nat → Nat) (v : qV) : (q_v ad v).category = 1 := by
  cases v with
  | inl x => rfl
  | inr r => cases r <;> rfl
theorem q_l_at {ls : Array Slot} {nL : Nat} {ad : Nat → Nat} {L : List (Option qV)} {v : qV} {i : Nat} (h : lv_has ls nL (q_l ad 0 L)) (hi : L[i]? = some (some v)) : ls[i]? = some (.val (q_v ad v)) := by
  have := h.2.2 _ (q_l_mem L 0 i hi)
  rwa [Nat.zero_add] at this
theorem q_l_store {ls : Array Slot} {nL : Nat} {ad : Nat → Nat} {L : List (Option qV)} {v : qV} {i : Nat} (h : lv_has ls nL ((i, q_v ad v) :: (q_l ad 0 L).filter (fun q => !(q.1 == i) && !(q.1 + 1 == i && q.2.category == 2)))) : lv_has ls nL (q_l ad 0 (L.set i (some v))) := by
  refine ⟨h.1, h.2.1, fun q hq => ?_⟩
  obtain ⟨j, w, h1, h2⟩ := q_l_of _ _ hq
  rw [Nat.zero_add] at h2
  by_cases hj : j = i
  · subst hj
    by_cases hl : j < L.length
    · rw [List.getElem?_set_self hl] at h1
      cases h1
      exact h.2.2 q (by rw [h2]; exact List.mem_cons_self)
    · simp [List.getElem?_set, hl] at h1
  · rw [List.getElem?_set_ne (fun e => hj e.symm)] at h1
    refine h.2.2 q (List.mem_cons_of_mem _ (List.mem_filter.mpr ⟨?_, ?_⟩))
    · have := q_l_mem (ad := ad) L 0 j h1
      rw [Nat.zero_add] at this
      rw [h2]
      exact this
    · rw [h2]
      simp [hj, q_v_cat]
theorem q_RO.moved {g : qG} {u U : State} {H : Heap} (hW : u.WarmedH U.vm) (h : q_RO g u H) : q_RO g U H :=
  ⟨h.1.moved hW.alike, h.2.1, h.2.2.1, h.2.2.2.1.moved hW.alike, h.2.2.2.2.1, h.2.2.2.2.2.1, h.2.2.2.2.2.2.1.moved hW.alike, va_Nw.warmF hW h.2.2.2.2.2.2.2⟩
theorem q_RO.kept {g : qG} {U : State} {H H1 : Heap} {locs : List Loc} (hS : va_S g.2.2.2.1 H H1 locs) (h : q_RO g U H) : q_RO g U H1 :=
  ⟨h.1.kept (hS.2.1 _ h.2.1 h.2.2.1), Nat.lt_of_lt_of_le h.2.1 hS.1, h.2.2.1, h.2.2.2.1.kept (hS.2.1 _ h.2.2.2.2.1 h.2.2.2.2.2.1), Nat.lt_of_lt_of_le h.2.2.2.2.1 hS.1, h.2.2.2.2.2.1, h.2.2.2.2.2.2.1.kept hS.2.1, h.2.2.2.2.2.2.2⟩
theorem q_RO.calling {g : qG} {U : State} {f : JFrame} {mk : MethodId} {a : Array Value} (h : q_RO g U U.heap) : q_RO g (U.calling f mk a) (U.calling f mk a).heap :=
  ⟨va_X.moved (u := U) (U := U.calling f mk a) (Vm.Alike.refl U.vm) h.1, h.2.1, h.2.2.1, va_X.moved (u := U) (U := U.calling f mk a) (Vm.Alike.refl U.vm) h.2.2.2.1, h.2.2.2.2.1, h.2.2.2.2.2.1, va_Z.moved (u := U) (U := U.calling f mk a) (Vm.Alike.refl U.vm) h.2.2.2.2.2.2.1, va_Nw.same rfl (u := U) (U := U.calling f mk a) rfl h.2.2.2.2.2.2.2⟩
theorem q_blind {g : qG} {st : qSt} {As : List Value} : FrameBlind (va_Pc As (q_IV g st)) := fun a U f mk q =>
  ⟨q.1, q.2.1, q.2.2.1, va_K.moved (u := U) (U := U.calling f mk a) (Vm.Alike.refl U.vm) q.2.2.2.1, q.2.2.2.2.1.calling, q.2.2.2.2.2⟩
end
section
def qg (j : Int32) (n : Nat) (E : qR) : qR := if j < 0 ∨ n ≤ j.toNatClampNeg then none else E
def qd (b : Int32) (E : qR) : qR := if b = 0 then none else E
def qb (v : Int32) (E : qR) : qR := if v = 0 ∨ v = 1 then E else none
def qc (F : qR) (f : Int32 → qM → qR) : qR := match F with
  | none => none
  | some q => f q.1 q.2
def ql (v : Int32) (f : Int32 → qR) : qR := f v
def qsw (x : Int32) : List (Int32 × qR) → qR → qR
  | [], D => D
  | q :: r, D => if x = q.1 then q.2 else qsw x r D
def q_ty : Nat → FieldType
  | 0 => .int
  | 1 => .byte
  | _ => .boolean
theorem q_nz {v : Int32} (h : v = 0 ∨ v = 1) : narrow .boolean (.int v) = .int v := by
  rcases h with rfl | rfl <;> decide
theorem qg_some {j : Int32} {n : Nat} {E : qR} {q : Int32 × qM} (h : qg j n E = some q) : vp_in j n ∧ E = some q := by
  unfold qg at h
  split at h
  · cases h
  · rename_i hn
    exact ⟨hn, h⟩
theorem qd_some {b : Int32} {E : qR} {q : Int32 × qM} (h : qd b E = some q) : ¬ b = 0 ∧ E = some q := by
  unfold qd at h
  split at h
  · cases h
  · rename_i hn
    exact ⟨hn, h⟩
theorem qb_some {b : Int32} {E : qR} {q : Int32 × qM} (h : qb b E = some q) : (b = 0 ∨ b = 1) ∧ E = some q := by
  unfold qb at h
  split at h
  · rename_i hn
    exact ⟨hn, h⟩
  · cases h
theorem qc_some {F : qR} {f : Int32 → qM → qR} {q : Int32 × qM} (h : qc F f = some q) : ∃ v M, F = some (v, M) ∧ f v M = some q := by
  unfold qc at h
  split at h
  · cases h
  · rename_i z
    exact ⟨z.1, z.2, rfl, h⟩

theorem qr_iconst {g : qG} {k : qK} {d : Nat} {y : qMY} {pc : Nat} {Z X : List qSh} {L : List (Option qV)} {S : List qV} {M : qM} {E : qR} (o : qOk g d y k) {n : Int} {v : Int32} (hdg : decode y.2.1 pc = .ok (.iconst n, 1)) (hv : Int32.ofInt n = v) (h : qAE g k y Z (pc + 1) L (.inl v :: S) (X, M) E) : qAE g k y Z pc L S (X, M) E := by
  intro v0 M0 e0 r0
  obtain ⟨p, l, e, R, s, m, args, below, meth, c, cells, slots, Q⟩ := k
  obtain ⟨hx, hb, hml, hown, hts, hr, hlocks, hK, hRO, hDD, hR1, hR2, hc1, hc2⟩ := o
  intro H locs ls hN hP hS hl
  exact lv_iconst hx hb hdg hv (h v0 M0 e0 r0 H locs ls hN hP hS hl)

theorem qr_bipush {g : qG} {k : qK} {d : Nat} {y : qMY} {pc : Nat} {Z X : List qSh} {L : List (Option qV)} {S : List qV} {M : qM} {E : qR} (o : qOk g d y k) {n : Int} {v : Int32} (hdg : decode y.2.1 pc = .ok (.bipush n, 2)) (hv : (Int8.ofInt n).toInt32 = v) (h : qAE g k y Z (pc + 2) L (.inl v :: S) (X, M) E) : qAE g k y Z pc L S (X, M) E := by
  intro v0 M0 e0 r0
  obtain ⟨p, l, e, R, s, m, args, below, meth, c, cells, slots, Q⟩ := k
  obtain ⟨hx, hb, hml, hown, hts, hr, hlocks, hK, hRO, hDD, hR1, hR2, hc1, hc2⟩ := o
  intro H locs ls hN hP hS hl
  exact lv_bipush hx hb hdg hv (h v0 M0 e0 r0 H locs ls hN hP hS hl)

theorem qr_sipush {g : qG} {k : qK} {d : Nat} {y : qMY} {pc : Nat} {Z X : List qSh} {L : List (Option qV)} {S : List qV} {M : qM} {E : qR} (o : qOk g d y k) {n : Int} {v : Int32} (hdg : decode y.2.1 pc = .ok (.sipush n, 3)) (hv : (Int16.ofInt n).toInt32 = v) (h : qAE g k y Z (pc + 3) L (.inl v :: S) (X, M) E) : qAE g k y Z pc L S (X, M) E := by
  intro v0 M0 e0 r0
  obtain ⟨p, l, e, R, s, m, args, below, meth, c, cells, slots, Q⟩ := k
  obtain ⟨hx, hb, hml, hown, hts, hr, hlocks, hK, hRO, hDD, hR1, hR2, hc1, hc2⟩ := o
  intro H locs ls hN hP hS hl
  exact lv_sipush hx hb hdg hv (h v0 M0 e0 r0 H locs ls hN hP hS hl)

theorem qr_ldc {g : qG} {k : qK} {d : Nat} {y : qMY} {pc : Nat} {Z X : List qSh} {L : List (Option qV)} {S : List qV} {M : qM} {E : qR} (o : qOk g d y k) {i : Nat} {v : Int32} (hdg : decode y.2.1 pc = .ok (.ldc i, 2)) (hv : Cond.constant y.1.cls i v ∈ q_tbl) (h : qAE g k y Z (pc + 2) L (.inl v :: S) (X, M) E) : qAE g k y Z pc L S (X, M) E := by
  intro v0 M0 e0 r0
  obtain ⟨p, l, e, R, s, m, args, below, meth, c, cells, slots, Q⟩ := k
  obtain ⟨hx, hb, hml, hown, hts, hr, hlocks, hK, hRO, hDD, hR1, hR2, hc1, hc2⟩ := o
  intro H locs ls hN hP hS hl
  exact lv_ldc hx hb hown (hts _ hv) hdg (h v0 M0 e0 r0 H locs ls hN hP hS hl)

theorem qr_ldc_w {g : qG} {k : qK} {d : Nat} {y : qMY} {pc : Nat} {Z X : List qSh} {L : List (Option qV)} {S : List qV} {M : qM} {E : qR} (o : qOk g d y k) {i : Nat} {v : Int32} (hdg : decode y.2.1 pc = .ok (.ldc_w i, 3)) (hv : Cond.constant y.1.cls i v ∈ q_tbl) (h : qAE g k y Z (pc + 3) L (.inl v :: S) (X, M) E) : qAE g k y Z pc L S (X, M) E := by
  intro v0 M0 e0 r0
  obtain ⟨p, l, e, R, s, m, args, below, meth, c, cells, slots, Q⟩ := k
  obtain ⟨hx, hb, hml, hown, hts, hr, hlocks, hK, hRO, hDD, hR1, hR2, hc1, hc2⟩ := o
  intro H locs ls hN hP hS hl
  exact lv_ldcw hx hb hown (hts _ hv) hdg (h v0 M0 e0 r0 H locs ls hN hP hS hl)

theorem qr_iload_n {g : qG} {k : qK} {d : Nat} {y : qMY} {pc : Nat} {Z X : List qSh} {L : List (Option qV)} {S : List qV} {M : qM} {E : qR} (o : qOk g d y k) {n : Fin 4} {v : Int32} (hdg : decode y.2.1 pc = .ok (.iload_n n, 1)) (hv : L[(n : Nat)]? = some (some (.inl v))) (h : qAE g k y Z (pc + 1) L (.inl v :: S) (X, M) E) : qAE g k y Z pc L S (X, M) E := by
  intro v0 M0 e0 r0
  obtain ⟨p, l, e, R, s, m, args, below, meth, c, cells, slots, Q⟩ := k
  obtain ⟨hx, hb, hml, hown, hts, hr, hlocks, hK, hRO, hDD, hR1, hR2, hc1, hc2⟩ := o
  intro H locs ls hN hP hS hl
  exact lv_iload_n hx hb hdg rfl (q_l_at hl hv) (h v0 M0 e0 r0 H locs ls hN hP hS hl)

theorem qr_iload {g : qG} {k : qK} {d : Nat} {y : qMY} {pc : Nat} {Z X : List qSh} {L : List (Option qV)} {S : List qV} {M : qM} {E : qR} (o : qOk g d y k) {n : Nat} {v : Int32} (hdg : decode y.2.1 pc = .ok (.iload n, 2)) (hv : L[n]? = some (some (.inl v))) (h : qAE g k y Z (pc + 2) L (.inl v :: S) (X, M) E) : qAE g k y Z pc L S (X, M) E := by
  intro v0 M0 e0 r0
  obtain ⟨p, l, e, R, s, m, args, below, meth, c, cells, slots, Q⟩ := k
  obtain ⟨hx, hb, hml, hown, hts, hr, hlocks, hK, hRO, hDD, hR1, hR2, hc1, hc2⟩ := o
  intro H locs ls hN hP hS hl
  exact lv_iload hx hb hdg (q_l_at hl hv) (h v0 M0 e0 r0 H locs ls hN hP hS hl)

theorem qr_aload_n {g : qG} {k : qK} {d : Nat} {y : qMY} {pc : Nat} {Z X : List qSh} {L : List (Option qV)} {S : List qV} {M : qM} {E : qR} (o : qOk g d y k) {n : Fin 4} {i : Nat} (hdg : decode y.2.1 pc = .ok (.aload_n n, 1)) (hv : L[(n : Nat)]? = some (some (.inr (some i)))) (h : qAE g k y Z (pc + 1) L (.inr (some i) :: S) (X, M) E) : qAE g k y Z pc L S (X, M) E := by
  intro v0 M0 e0 r0
  obtain ⟨p, l, e, R, s, m, args, below, meth, c, cells, slots, Q⟩ := k
  obtain ⟨hx, hb, hml, hown, hts, hr, hlocks, hK, hRO, hDD, hR1, hR2, hc1, hc2⟩ := o
  intro H locs ls hN hP hS hl
  exact lv_aload_n hx hb hdg rfl (q_l_at hl hv) (h v0 M0 e0 r0 H locs ls hN hP hS hl)

theorem qr_aload {g : qG} {k : qK} {d : Nat} {y : qMY} {pc : Nat} {Z X : List qSh} {L : List (Option qV)} {S : List qV} {M : qM} {E : qR} (o : qOk g d y k) {n : Nat} {i : Nat} (hdg : decode y.2.1 pc = .ok (.aload n, 2)) (hv : L[n]? = some (some (.inr (some i)))) (h : qAE g k y Z (pc + 2) L (.inr (some i) :: S) (X, M) E) : qAE g k y Z pc L S (X, M) E := by
  intro v0 M0 e0 r0
  obtain ⟨p, l, e, R, s, m, args, below, meth, c, cells, slots, Q⟩ := k
  obtain ⟨hx, hb, hml, hown, hts, hr, hlocks, hK, hRO, hDD, hR1, hR2, hc1, hc2⟩ := o
  intro H locs ls hN hP hS hl
  exact lv_aload hx hb hdg (q_l_at hl hv) (h v0 M0 e0 r0 H locs ls hN hP hS hl)

theorem qr_istore_n {g : qG} {k : qK} {d : Nat} {y : qMY} {pc : Nat} {Z X : List qSh} {L : List (Option qV)} {S : List qV} {M : qM} {E : qR} (o : qOk g d y k) {n : Fin 4} {v : Int32} (hdg : decode y.2.1 pc = .ok (.istore_n n, 1)) (hn : (n : Nat) < y.2.2.1) (h : qAE g k y Z (pc + 1) (L.set (n : Nat) (some (.inl v))) S (X, M) E) : qAE g k y Z pc L (.inl v :: S) (X, M) E := by
  intro v0 M0 e0 r0
  obtain ⟨p, l, e, R, s, m, args, below, meth, c, cells, slots, Q⟩ := k
  obtain ⟨hx, hb, hml, hown, hts, hr, hlocks, hK, hRO, hDD, hR1, hR2, hc1, hc2⟩ := o
  intro H locs ls hN hP hS hl
  exact lv_istore_n hx hb hdg rfl hl hn rfl (fun ls1 hl1 => h v0 M0 e0 r0 H locs ls1 hN hP hS (q_l_store (v := .inl v) hl1))

theorem qr_istore {g : qG} {k : qK} {d : Nat} {y : qMY} {pc : Nat} {Z X : List qSh} {L : List (Option qV)} {S : List qV} {M : qM} {E : qR} (o : qOk g d y k) {n : Nat} {v : Int32} (hdg : decode y.2.1 pc = .ok (.istore n, 2)) (hn : n < y.2.2.1) (h : qAE g k y Z (pc + 2) (L.set n (some (.inl v))) S (X, M) E) : qAE g k y Z pc L (.inl v :: S) (X, M) E := by
  intro v0 M0 e0 r0
  obtain ⟨p, l, e, R, s, m, args, below, meth, c, cells, slots, Q⟩ := k
  obtain ⟨hx, hb, hml, hown, hts, hr, hlocks, hK, hRO, hDD, hR1, hR2, hc1, hc2⟩ := o
  intro H locs ls hN hP hS hl
  exact lv_istore hx hb hdg hl hn rfl (fun ls1 hl1 => h v0 M0 e0 r0 H locs ls1 hN hP hS (q_l_store (v := .inl v) hl1))

theorem qr_astore_n {g : qG} {k : qK} {d : Nat} {y : qMY} {pc : Nat} {Z X : List qSh} {L : List (Option qV)} {S : List qV} {M : qM} {E : qR} (o : qOk g d y k) {n : Fin 4} {i : Nat} (hdg : decode y.2.1 pc = .ok (.astore_n n, 1)) (hn : (n : Nat) < y.2.2.1) (h : qAE g k y Z (pc + 1) (L.set (n : Nat) (some (.inr (some i)))) S (X, M) E) : qAE g k y Z pc L (.inr (some i) :: S) (X, M) E := by
  intro v0 M0 e0 r0
  obtain ⟨p, l, e, R, s, m, args, below, meth, c, cells, slots, Q⟩ := k
  obtain ⟨hx, hb, hml, hown, hts, hr, hlocks, hK, hRO, hDD, hR1, hR2, hc1, hc2⟩ := o
  intro H locs ls hN hP hS hl
  exact lv_astore_n hx hb hdg rfl hl hn rfl (fun ls1 hl1 => h v0 M0 e0 r0 H locs ls1 hN hP hS (q_l_store (v := .inr (some i)) hl1))

theorem qr_iinc {g : qG} {k : qK} {d : Nat} {y : qMY} {pc : Nat} {Z X : List qSh} {L : List (Option qV)} {S : List qV} {M : qM} {E : qR} (o : qOk g d y k) {i : Nat} {n : Int} {v w : Int32} (hdg : decode y.2.1 pc = .ok (.iinc i n, 3)) (hv : L[i]? = some (some (.inl v))) (hw : v + Int32.ofInt n = w) (hn : i < y.2.2.1) (h : qAE g k y Z (pc + 3) (L.set i (some (.inl w))) S (X, M) E) : qAE g k y Z pc L S (X, M) E := by
  intro v0 M0 e0 r0
  obtain ⟨p, l, e, R, s, m, args, below, meth, c, cells, slots, Q⟩ := k
  obtain ⟨hx, hb, hml, hown, hts, hr, hlocks, hK, hRO, hDD, hR1, hR2, hc1, hc2⟩ := o
  intro H locs ls hN hP hS hl
  obtain ⟨j, hj⟩ := List.getElem?_of_mem (q_l_mem (ad := g.2.2.1) L 0 i hv)
  rw [Nat.zero_add] at hj
  exact lv_iinc hx hb hdg hl hj hw hn rfl (fun ls1 hl1 => h v0 M0 e0 r0 H locs ls1 hN hP hS (q_l_store (v := .inl w) hl1))

theorem qr_iadd {g : qG} {k : qK} {d : Nat} {y : qMY} {pc : Nat} {Z X : List qSh} {L : List (Option qV)} {S : List qV} {M : qM} {E : qR} (o : qOk g d y k) {a b : Int32} (hdg : decode y.2.1 pc = .ok (.iadd, 1)) (h : qAE g k y Z (pc + 1) L (.inl (a + b) :: S) (X, M) E) : qAE g k y Z pc L (.inl b :: .inl a :: S) (X, M) E := by
  intro v0 M0 e0 r0
  obtain ⟨p, l, e, R, s, m, args, below, meth, c, cells, slots, Q⟩ := k
  obtain ⟨hx, hb, hml, hown, hts, hr, hlocks, hK, hRO, hDD, hR1, hR2, hc1, hc2⟩ := o
  intro H locs ls hN hP hS hl
  exact lv_iadd hx hb hdg (h v0 M0 e0 r0 H locs ls hN hP hS hl)

theorem qr_isub {g : qG} {k : qK} {d : Nat} {y : qMY} {pc : Nat} {Z X : List qSh} {L : List (Option qV)} {S : List qV} {M : qM} {E : qR} (o : qOk g d y k) {a b : Int32} (hdg : decode y.2.1 pc = .ok (.isub, 1)) (h : qAE g k y Z (pc + 1) L (.inl (a - b) :: S) (X, M) E) : qAE g k y Z pc L (.inl b :: .inl a :: S) (X, M) E := by
  intro v0 M0 e0 r0
  obtain ⟨p, l, e, R, s, m, args, below, meth, c, cells, slots, Q⟩ := k
  obtain ⟨hx, hb, hml, hown, hts, hr, hlocks, hK, hRO, hDD, hR1, hR2, hc1, hc2⟩ := o
  intro H locs ls hN hP hS hl
  exact lv_isub hx hb hdg (h v0 M0 e0 r0 H locs ls hN hP hS hl)

theorem qr_imul {g : qG} {k : qK} {d : Nat} {y : qMY} {pc : Nat} {Z X : List qSh} {L : List (Option qV)} {S : List qV} {M : qM} {E : qR} (o : qOk g d y k) {a b : Int32} (hdg : decode y.2.1 pc = .ok (.imul, 1)) (h : qAE g k y Z (pc + 1) L (.inl (a * b) :: S) (X, M) E) : qAE g k y Z pc L (.inl b :: .inl a :: S) (X, M) E := by
  intro v0 M0 e0 r0
  obtain ⟨p, l, e, R, s, m, args, below, meth, c, cells, slots, Q⟩ := k
  obtain ⟨hx, hb, hml, hown, hts, hr, hlocks, hK, hRO, hDD, hR1, hR2, hc1, hc2⟩ := o
  intro H locs ls hN hP hS hl
  exact lv_imul hx hb hdg (h v0 M0 e0 r0 H locs ls hN hP hS hl)

theorem qr_iand {g : qG} {k : qK} {d : Nat} {y : qMY} {pc : Nat} {Z X : List qSh} {L : List (Option qV)} {S : List qV} {M : qM} {E : qR} (o : qOk g d y k) {a b : Int32} (hdg : decode y.2.1 pc = .ok (.iand, 1)) (h : qAE g k y Z (pc + 1) L (.inl (a &&& b) :: S) (X, M) E) : qAE g k y Z pc L (.inl b :: .inl a :: S) (X, M) E := by
  intro v0 M0 e0 r0
  obtain ⟨p, l, e, R, s, m, args, below, meth, c, cells, slots, Q⟩ := k
  obtain ⟨hx, hb, hml, hown, hts, hr, hlocks, hK, hRO, hDD, hR1, hR2, hc1, hc2⟩ := o
  intro H locs ls hN hP hS hl
  exact lv_iand hx hb hdg (h v0 M0 e0 r0 H locs ls hN hP hS hl)

theorem qr_ior {g : qG} {k : qK} {d : Nat} {y : qMY} {pc : Nat} {Z X : List qSh} {L : List (Option qV)} {S : List qV} {M : qM} {E : qR} (o : qOk g d y k) {a b : Int32} (hdg : decode y.2.1 pc = .ok (.ior, 1)) (h : qAE g k y Z (pc + 1) L (.inl (a ||| b) :: S) (X, M) E) : qAE g k y Z pc L (.inl b :: .inl a :: S) (X, M) E := by
  intro v0 M0 e0 r0
  obtain ⟨p, l, e, R, s, m, args, below, meth, c, cells, slots, Q⟩ := k
  obtain ⟨hx, hb, hml, hown, hts, hr, hlocks, hK, hRO, hDD, hR1, hR2, hc1, hc2⟩ := o
  intro H locs ls hN hP hS hl
  exact lv_ior hx hb hdg (h v0 M0 e0 r0 H locs ls hN hP hS hl)

theorem qr_ixor {g : qG} {k : qK} {d : Nat} {y : qMY} {pc : Nat} {Z X : List qSh} {L : List (Option qV)} {S : List qV} {M : qM} {E : qR} (o : qOk g d y k) {a b : Int32} (hdg : decode y.2.1 pc = .ok (.ixor, 1)) (h : qAE g k y Z (pc + 1) L (.inl (a ^^^ b) :: S) (X, M) E) : qAE g k y Z pc L (.inl b :: .inl a :: S) (X, M) E := by
  intro v0 M0 e0 r0
  obtain ⟨p, l, e, R, s, m, args, below, meth, c, cells, slots, Q⟩ := k
  obtain ⟨hx, hb, hml, hown, hts, hr, hlocks, hK, hRO, hDD, hR1, hR2, hc1, hc2⟩ := o
  intro H locs ls hN hP hS hl
  exact lv_ixor hx hb hdg (h v0 M0 e0 r0 H locs ls hN hP hS hl)

theorem qr_ishl {g : qG} {k : qK} {d : Nat} {y : qMY} {pc : Nat} {Z X : List qSh} {L : List (Option qV)} {S : List qV} {M : qM} {E : qR} (o : qOk g d y k) {a b : Int32} (hdg : decode y.2.1 pc = .ok (.ishl, 1)) (h : qAE g k y Z (pc + 1) L (.inl (a <<< (b &&& 31)) :: S) (X, M) E) : qAE g k y Z pc L (.inl b :: .inl a :: S) (X, M) E := by
  intro v0 M0 e0 r0
  obtain ⟨p, l, e, R, s, m, args, below, meth, c, cells, slots, Q⟩ := k
  obtain ⟨hx, hb, hml, hown, hts, hr, hlocks, hK, hRO, hDD, hR1, hR2, hc1, hc2⟩ := o
  intro H locs ls hN hP hS hl
  exact lv_ishl hx hb hdg (h v0 M0 e0 r0 H locs ls hN hP hS hl)

theorem qr_ishr {g : qG} {k : qK} {d : Nat} {y : qMY} {pc : Nat} {Z X : List qSh} {L : List (Option qV)} {S : List qV} {M : qM} {E : qR} (o : qOk g d y k) {a b : Int32} (hdg : decode y.2.1 pc = .ok (.ishr, 1)) (h : qAE g k y Z (pc + 1) L (.inl (a >>> (b &&& 31)) :: S) (X, M) E) : qAE g k y Z pc L (.inl b :: .inl a :: S) (X, M) E := by
  intro v0 M0 e0 r0
  obtain ⟨p, l, e, R, s, m, args, below, meth, c, cells, slots, Q⟩ := k
  obtain ⟨hx, hb, hml, hown, hts, hr, hlocks, hK, hRO, hDD, hR1, hR2, hc1, hc2⟩ := o
  intro H locs ls hN hP hS hl
  exact lv_ishr hx hb hdg (h v0 M0 e0 r0 H locs ls hN hP hS hl)

theorem qr_iushr {g : qG} {k : qK} {d : Nat} {y : qMY} {pc : Nat} {Z X : List qSh} {L : List (Option qV)} {S : List qV} {M : qM} {E : qR} (o : qOk g d y k) {a b : Int32} (hdg : decode y.2.1 pc = .ok (.iushr, 1)) (h : qAE g k y Z (pc + 1) L (.inl ((a.toUInt32 >>> (b.toUInt32 &&& Int32.toUInt32 31)).toInt32) :: S) (X, M) E) : qAE g k y Z pc L (.inl b :: .inl a :: S) (X, M) E := by
  intro v0 M0 e0 r0
  obtain ⟨p, l, e, R, s, m, args, below, meth, c, cells, slots, Q⟩ := k
  obtain ⟨hx, hb, hml, hown, hts, hr, hlocks, hK, hRO, hDD, hR1, hR2, hc1, hc2⟩ := o
  intro H locs ls hN hP hS hl
  exact lv_iushr hx hb hdg rfl (h v0 M0 e0 r0 H locs ls hN hP hS hl)

theorem qr_ineg {g : qG} {k : qK} {d : Nat} {y : qMY} {pc : Nat} {Z X : List qSh} {L : List (Option qV)} {S : List qV} {M : qM} {E : qR} (o : qOk g d y k) {a : Int32} (hdg : decode y.2.1 pc = .ok (.ineg, 1)) (h : qAE g k y Z (pc + 1) L (.inl (-a) :: S) (X, M) E) : qAE g k y Z pc L (.inl a :: S) (X, M) E := by
  intro v0 M0 e0 r0
  obtain ⟨p, l, e, R, s, m, args, below, meth, c, cells, slots, Q⟩ := k
  obtain ⟨hx, hb, hml, hown, hts, hr, hlocks, hK, hRO, hDD, hR1, hR2, hc1, hc2⟩ := o
  intro H locs ls hN hP hS hl
  exact lv_ineg hx hb hdg (h v0 M0 e0 r0 H locs ls hN hP hS hl)

theorem qr_i2b {g : qG} {k : qK} {d : Nat} {y : qMY} {pc : Nat} {Z X : List qSh} {L : List (Option qV)} {S : List qV} {M : qM} {E : qR} (o : qOk g d y k) {a : Int32} (hdg : decode y.2.1 pc = .ok (.i2b, 1)) (h : qAE g k y Z (pc + 1) L (.inl (a.toInt8.toInt32) :: S) (X, M) E) : qAE g k y Z pc L (.inl a :: S) (X, M) E := by
  intro v0 M0 e0 r0
  obtain ⟨p, l, e, R, s, m, args, below, meth, c, cells, slots, Q⟩ := k
  obtain ⟨hx, hb, hml, hown, hts, hr, hlocks, hK, hRO, hDD, hR1, hR2, hc1, hc2⟩ := o
  intro H locs ls hN hP hS hl
  exact lv_i2b hx hb hdg rfl (h v0 M0 e0 r0 H locs ls hN hP hS hl)

theorem qr_idiv {g : qG} {k : qK} {d : Nat} {y : qMY} {pc : Nat} {Z X : List qSh} {L : List (Option qV)} {S : List qV} {M : qM} {E : qR} (o : qOk g d y k) {a b : Int32} (hdg : decode y.2.1 pc = .ok (.idiv, 1)) (h : qAE g k y Z (pc + 1) L (.inl (a / b) :: S) (X, M) E) : qAE g k y Z pc L (.inl b :: .inl a :: S) (X, M) (qd b E) := by
  intro v0 M0 e0 r0
  obtain ⟨p, l, e, R, s, m, args, below, meth, c, cells, slots, Q⟩ := k
  obtain ⟨hx, hb, hml, hown, hts, hr, hlocks, hK, hRO, hDD, hR1, hR2, hc1, hc2⟩ := o
  intro H locs ls hN hP hS hl
  obtain ⟨e1, e0⟩ := qd_some e0
  exact lv_idiv hx hb hdg e1 (h v0 M0 e0 r0 H locs ls hN hP hS hl)

theorem qr_irem {g : qG} {k : qK} {d : Nat} {y : qMY} {pc : Nat} {Z X : List qSh} {L : List (Option qV)} {S : List qV} {M : qM} {E : qR} (o : qOk g d y k) {a b : Int32} (hdg : decode y.2.1 pc = .ok (.irem, 1)) (h : qAE g k y Z (pc + 1) L (.inl (a - a / b * b) :: S) (X, M) E) : qAE g k y Z pc L (.inl b :: .inl a :: S) (X, M) (qd b E) := by
  intro v0 M0 e0 r0
  obtain ⟨p, l, e, R, s, m, args, below, meth, c, cells, slots, Q⟩ := k
  obtain ⟨hx, hb, hml, hown, hts, hr, hlocks, hK, hRO, hDD, hR1, hR2, hc1, hc2⟩ := o
  intro H locs ls hN hP hS hl
  obtain ⟨e1, e0⟩ := qd_some e0
  exact lv_irem hx hb hdg e1 (h v0 M0 e0 r0 H locs ls hN hP hS hl)

theorem qr_idivc {g : qG} {k : qK} {d : Nat} {y : qMY} {pc : Nat} {Z X : List qSh} {L : List (Option qV)} {S : List qV} {M : qM} {E : qR} (o : qOk g d y k) {a b : Int32} (hdg : decode y.2.1 pc = .ok (.idiv, 1)) (hne : ¬ b = 0) (h : qAE g k y Z (pc + 1) L (.inl (a / b) :: S) (X, M) E) : qAE g k y Z pc L (.inl b :: .inl a :: S) (X, M) E := by
  intro v0 M0 e0 r0
  obtain ⟨p, l, e, R, s, m, args, below, meth, c, cells, slots, Q⟩ := k
  obtain ⟨hx, hb, hml, hown, hts, hr, hlocks, hK, hRO, hDD, hR1, hR2, hc1, hc2⟩ := o
  intro H locs ls hN hP hS hl
  exact lv_idiv hx hb hdg hne (h v0 M0 e0 r0 H locs ls hN hP hS hl)

theorem qr_iremc {g : qG} {k : qK} {d : Nat} {y : qMY} {pc : Nat} {Z X : List qSh} {L : List (Option qV)} {S : List qV} {M : qM} {E : qR} (o : qOk g d y k) {a b : Int32} (hdg : decode y.2.1 pc = .ok (.irem, 1)) (hne : ¬ b = 0) (h : qAE g k y Z (pc + 1) L (.inl (a - a / b * b) :: S) (X, M) E) : qAE g k y Z pc L (.inl b :: .inl a :: S) (X, M) E := by
  intro v0 M0 e0 r0
  obtain ⟨p, l, e, R, s, m, args, below, meth, c, cells, slots, Q⟩ := k
  obtain ⟨hx, hb, hml, hown, hts, hr, hlocks, hK, hRO, hDD, hR1, hR2, hc1, hc2⟩ := o
  intro H locs ls hN hP hS hl
  exact lv_irem hx hb hdg hne (h v0 M0 e0 r0 H locs ls hN hP hS hl)

theorem qr_dup {g : qG} {k : qK} {d : Nat} {y : qMY} {pc : Nat} {Z X : List qSh} {L : List (Option qV)} {S : List qV} {M : qM} {E : qR} (o : qOk g d y k) {a : qV} (hdg : decode y.2.1 pc = .ok (.dup, 1)) (h : qAE g k y Z (pc + 1) L (a :: a :: S) (X, M) E) : qAE g k y Z pc L (a :: S) (X, M) E := by
  intro v0 M0 e0 r0
  obtain ⟨p, l, e, R, s, m, args, below, meth, c, cells, slots, Q⟩ := k
  obtain ⟨hx, hb, hml, hown, hts, hr, hlocks, hK, hRO, hDD, hR1, hR2, hc1, hc2⟩ := o
  intro H locs ls hN hP hS hl
  exact lv_dup hx hb hdg (q_v_cat _ a) (h v0 M0 e0 r0 H locs ls hN hP hS hl)

theorem qr_pop {g : qG} {k : qK} {d : Nat} {y : qMY} {pc : Nat} {Z X : List qSh} {L : List (Option qV)} {S : List qV} {M : qM} {E : qR} (o : qOk g d y k) {a : qV} (hdg : decode y.2.1 pc = .ok (.pop, 1)) (h : qAE g k y Z (pc + 1) L S (X, M) E) : qAE g k y Z pc L (a :: S) (X, M) E := by
  intro v0 M0 e0 r0
  obtain ⟨p, l, e, R, s, m, args, below, meth, c, cells, slots, Q⟩ := k
  obtain ⟨hx, hb, hml, hown, hts, hr, hlocks, hK, hRO, hDD, hR1, hR2, hc1, hc2⟩ := o
  intro H locs ls hN hP hS hl
  exact lv_pop hx hb hdg (q_v_cat _ a) (h v0 M0 e0 r0 H locs ls hN hP hS hl)

theorem qr_dup2 {g : qG} {k : qK} {d : Nat} {y : qMY} {pc : Nat} {Z X : List qSh} {L : List (Option qV)} {S : List qV} {M : qM} {E : qR} (o : qOk g d y k) {a b : qV} (hdg : decode y.2.1 pc = .ok (.dup2, 1)) (h : qAE g k y Z (pc + 1) L (a :: b :: a :: b :: S) (X, M) E) : qAE g k y Z pc L (a :: b :: S) (X, M) E := by
  intro v0 M0 e0 r0
  obtain ⟨p, l, e, R, s, m, args, below, meth, c, cells, slots, Q⟩ := k
  obtain ⟨hx, hb, hml, hown, hts, hr, hlocks, hK, hRO, hDD, hR1, hR2, hc1, hc2⟩ := o
  intro H locs ls hN hP hS hl
  exact lv_dup2_11 hx hb hdg (q_v_cat _ a) (q_v_cat _ b) (h v0 M0 e0 r0 H locs ls hN hP hS hl)

theorem qr_goto {g : qG} {k : qK} {d : Nat} {y : qMY} {pc : Nat} {Z X : List qSh} {L : List (Option qV)} {S : List qV} {M : qM} {E : qR} (o : qOk g d y k) {off : Int} {tgt : Nat} (hdg : decode y.2.1 pc = .ok (.goto off, 3)) (ht : (pc : Int) + off = (tgt : Int)) (h : qAE g k y Z tgt L S (X, M) E) : qAE g k y Z pc L S (X, M) E := by
  intro v0 M0 e0 r0
  obtain ⟨p, l, e, R, s, m, args, below, meth, c, cells, slots, Q⟩ := k
  obtain ⟨hx, hb, hml, hown, hts, hr, hlocks, hK, hRO, hDD, hR1, hR2, hc1, hc2⟩ := o
  intro H locs ls hN hP hS hl
  exact lv_goto hx hb hdg ht (h v0 M0 e0 r0 H locs ls hN hP hS hl)

theorem qr_let {g : qG} {k : qK} {d : Nat} {y : qMY} {pc : Nat} {Z X : List qSh} {L : List (Option qV)} {S : List qV} {M : qM} {v : Int32} {f : Int32 → qR} (h : ∀ x : Int32, qAE g k y Z pc L (.inl x :: S) (X, M) (f x)) : qAE g k y Z pc L (.inl v :: S) (X, M) (ql v f) := h v

theorem qr_icmp_ne {g : qG} {k : qK} {d : Nat} {y : qMY} {pc : Nat} {Z X : List qSh} {L : List (Option qV)} {S : List qV} {M : qM} {E1 E2 : qR} (o : qOk g d y k) {a b : Int32} {off : Int} {tgt : Nat} (hdg : decode y.2.1 pc = .ok (.if_icmp .ne off, 3)) (ht : (pc : Int) + off = (tgt : Int)) (h1 : qAE g k y Z tgt L S (X, M) E1) (h2 : qAE g k y Z (pc + 3) L S (X, M) E2) : qAE g k y Z pc L (.inl b :: .inl a :: S) (X, M) (if a = b then E2 else E1) := by
  intro v0 M0 e0 r0
  obtain ⟨p, l, e, R, s, m, args, below, meth, c, cells, slots, Q⟩ := k
  obtain ⟨hx, hb, hml, hown, hts, hr, hlocks, hK, hRO, hDD, hR1, hR2, hc1, hc2⟩ := o
  intro H locs ls hN hP hS hl
  exact lv_icmp_ne hx hb hdg ht (fun hc => h1 v0 M0 (by rw [if_neg hc] at e0; exact e0) r0 H locs ls hN hP hS hl) (fun hc => h2 v0 M0 (by rw [if_pos hc] at e0; exact e0) r0 H locs ls hN hP hS hl)

theorem qr_if_ne {g : qG} {k : qK} {d : Nat} {y : qMY} {pc : Nat} {Z X : List qSh} {L : List (Option qV)} {S : List qV} {M : qM} {E1 E2 : qR} (o : qOk g d y k) {a : Int32} {off : Int} {tgt : Nat} (hdg : decode y.2.1 pc = .ok (.ifCond .ne off, 3)) (ht : (pc : Int) + off = (tgt : Int)) (h1 : qAE g k y Z tgt L S (X, M) E1) (h2 : qAE g k y Z (pc + 3) L S (X, M) E2) : qAE g k y Z pc L (.inl a :: S) (X, M) (if a = 0 then E2 else E1) := by
  intro v0 M0 e0 r0
  obtain ⟨p, l, e, R, s, m, args, below, meth, c, cells, slots, Q⟩ := k
  obtain ⟨hx, hb, hml, hown, hts, hr, hlocks, hK, hRO, hDD, hR1, hR2, hc1, hc2⟩ := o
  intro H locs ls hN hP hS hl
  exact lv_if_ne hx hb hdg ht (fun hc => h1 v0 M0 (by rw [if_neg hc] at e0; exact e0) r0 H locs ls hN hP hS hl) (fun hc => h2 v0 M0 (by rw [if_pos hc] at e0; exact e0) r0 H locs ls hN hP hS hl)

theorem qr_icmp_eq {g : qG} {k : qK} {d : Nat} {y : qMY} {pc : Nat} {Z X : List qSh} {L : List (Option qV)} {S : List qV} {M : qM} {E1 E2 : qR} (o : qOk g d y k) {a b : Int32} {off : Int} {tgt : Nat} (hdg : decode y.2.1 pc = .ok (.if_icmp .eq off, 3)) (ht : (pc : Int) + off = (tgt : Int)) (h1 : qAE g k y Z tgt L S (X, M) E1) (h2 : qAE g k y Z (pc + 3) L S (X, M) E2) : qAE g k y Z pc L (.inl b :: .inl a :: S) (X, M) (if a = b then E1 else E2) := by
  intro v0 M0 e0 r0
  obtain ⟨p, l, e, R, s, m, args, below, meth, c, cells, slots, Q⟩ := k
  obtain ⟨hx, hb, hml, hown, hts, hr, hlocks, hK, hRO, hDD, hR1, hR2, hc1, hc2⟩ := o
  intro H locs ls hN hP hS hl
  exact lv_icmp_eq hx hb hdg ht (fun hc => h1 v0 M0 (by rw [if_pos hc] at e0; exact e0) r0 H locs ls hN hP hS hl) (fun hc => h2 v0 M0 (by rw [if_neg hc] at e0; exact e0) r0 H locs ls hN hP hS hl)

theorem qr_icmp_lt {g : qG} {k : qK} {d : Nat} {y : qMY} {pc : Nat} {Z X : List qSh} {L : List (Option qV)} {S : List qV} {M : qM} {E1 E2 : qR} (o : qOk g d y k) {a b : Int32} {off : Int} {tgt : Nat} (hdg : decode y.2.1 pc = .ok (.if_icmp .lt off, 3)) (ht : (pc : Int) + off = (tgt : Int)) (h1 : qAE g k y Z tgt L S (X, M) E1) (h2 : qAE g k y Z (pc + 3) L S (X, M) E2) : qAE g k y Z pc L (.inl b :: .inl a :: S) (X, M) (if a < b then E1 else E2) := by
  intro v0 M0 e0 r0
  obtain ⟨p, l, e, R, s, m, args, below, meth, c, cells, slots, Q⟩ := k
  obtain ⟨hx, hb, hml, hown, hts, hr, hlocks, hK, hRO, hDD, hR1, hR2, hc1, hc2⟩ := o
  intro H locs ls hN hP hS hl
  exact lv_icmp_lt hx hb hdg ht (fun hc => h1 v0 M0 (by rw [if_pos hc] at e0; exact e0) r0 H locs ls hN hP hS hl) (fun hc => h2 v0 M0 (by rw [if_neg hc] at e0; exact e0) r0 H locs ls hN hP hS hl)

theorem qr_icmp_ge {g : qG} {k : qK} {d : Nat} {y : qMY} {pc : Nat} {Z X : List qSh} {L : List (Option qV)} {S : List qV} {M : qM} {E1 E2 : qR} (o : qOk g d y k) {a b : Int32} {off : Int} {tgt : Nat} (hdg : decode y.2.1 pc = .ok (.if_icmp .ge off, 3)) (ht : (pc : Int) + off = (tgt : Int)) (h1 : qAE g k y Z tgt L S (X, M) E1) (h2 : qAE g k y Z (pc + 3) L S (X, M) E2) : qAE g k y Z pc L (.inl b :: .inl a :: S) (X, M) (if b ≤ a then E1 else E2) := by
  intro v0 M0 e0 r0
  obtain ⟨p, l, e, R, s, m, args, below, meth, c, cells, slots, Q⟩ := k
  obtain ⟨hx, hb, hml, hown, hts, hr, hlocks, hK, hRO, hDD, hR1, hR2, hc1, hc2⟩ := o
  intro H locs ls hN hP hS hl
  exact lv_icmp_ge hx hb hdg ht (fun hc => h1 v0 M0 (by rw [if_pos hc] at e0; exact e0) r0 H locs ls hN hP hS hl) (fun hc => h2 v0 M0 (by rw [if_neg hc] at e0; exact e0) r0 H locs ls hN hP hS hl)

theorem qr_icmp_gt {g : qG} {k : qK} {d : Nat} {y : qMY} {pc : Nat} {Z X : List qSh} {L : List (Option qV)} {S : List qV} {M : qM} {E1 E2 : qR} (o : qOk g d y k) {a b : Int32} {off : Int} {tgt : Nat} (hdg : decode y.2.1 pc = .ok (.if_icmp .gt off, 3)) (ht : (pc : Int) + off = (tgt : Int)) (h1 : qAE g k y Z tgt L S (X, M) E1) (h2 : qAE g k y Z (pc + 3) L S (X, M) E2) : qAE g k y Z pc L (.inl b :: .inl a :: S) (X, M) (if b < a then E1 else E2) := by
  intro v0 M0 e0 r0
  obtain ⟨p, l, e, R, s, m, args, below, meth, c, cells, slots, Q⟩ := k
  obtain ⟨hx, hb, hml, hown, hts, hr, hlocks, hK, hRO, hDD, hR1, hR2, hc1, hc2⟩ := o
  intro H locs ls hN hP hS hl
  exact lv_icmp_gt hx hb hdg ht (fun hc => h1 v0 M0 (by rw [if_pos hc] at e0; exact e0) r0 H locs ls hN hP hS hl) (fun hc => h2 v0 M0 (by rw [if_neg hc] at e0; exact e0) r0 H locs ls hN hP hS hl)

theorem qr_icmp_le {g : qG} {k : qK} {d : Nat} {y : qMY} {pc : Nat} {Z X : List qSh} {L : List (Option qV)} {S : List qV} {M : qM} {E1 E2 : qR} (o : qOk g d y k) {a b : Int32} {off : Int} {tgt : Nat} (hdg : decode y.2.1 pc = .ok (.if_icmp .le off, 3)) (ht : (pc : Int) + off = (tgt : Int)) (h1 : qAE g k y Z tgt L S (X, M) E1) (h2 : qAE g k y Z (pc + 3) L S (X, M) E2) : qAE g k y Z pc L (.inl b :: .inl a :: S) (X, M) (if a ≤ b then E1 else E2) := by
  intro v0 M0 e0 r0
  obtain ⟨p, l, e, R, s, m, args, below, meth, c, cells, slots, Q⟩ := k
  obtain ⟨hx, hb, hml, hown, hts, hr, hlocks, hK, hRO, hDD, hR1, hR2, hc1, hc2⟩ := o
  intro H locs ls hN hP hS hl
  exact lv_icmp_le hx hb hdg ht (fun hc => h1 v0 M0 (by rw [if_pos hc] at e0; exact e0) r0 H locs ls hN hP hS hl) (fun hc => h2 v0 M0 (by rw [if_neg hc] at e0; exact e0) r0 H locs ls hN hP hS hl)

theorem qr_if_eq {g : qG} {k : qK} {d : Nat} {y : qMY} {pc : Nat} {Z X : List qSh} {L : List (Option qV)} {S : List qV} {M : qM} {E1 E2 : qR} (o : qOk g d y k) {a : Int32} {off : Int} {tgt : Nat} (hdg : decode y.2.1 pc = .ok (.ifCond .eq off, 3)) (ht : (pc : Int) + off = (tgt : Int)) (h1 : qAE g k y Z tgt L S (X, M) E1) (h2 : qAE g k y Z (pc + 3) L S (X, M) E2) : qAE g k y Z pc L (.inl a :: S) (X, M) (if a = 0 then E1 else E2) := by
  intro v0 M0 e0 r0
  obtain ⟨p, l, e, R, s, m, args, below, meth, c, cells, slots, Q⟩ := k
  obtain ⟨hx, hb, hml, hown, hts, hr, hlocks, hK, hRO, hDD, hR1, hR2, hc1, hc2⟩ := o
  intro H locs ls hN hP hS hl
  exact lv_if_eq hx hb hdg ht (fun hc => h1 v0 M0 (by rw [if_pos hc] at e0; exact e0) r0 H locs ls hN hP hS hl) (fun hc => h2 v0 M0 (by rw [if_neg hc] at e0; exact e0) r0 H locs ls hN hP hS hl)

theorem qr_if_lt {g : qG} {k : qK} {d : Nat} {y : qMY} {pc : Nat} {Z X : List qSh} {L : List (Option qV)} {S : List qV} {M : qM} {E1 E2 : qR} (o : qOk g d y k) {a : Int32} {off : Int} {tgt : Nat} (hdg : decode y.2.1 pc = .ok (.ifCond .lt off, 3)) (ht : (pc : Int) + off = (tgt : Int)) (h1 : qAE g k y Z tgt L S (X, M) E1) (h2 : qAE g k y Z (pc + 3) L S (X, M) E2) : qAE g k y Z pc L (.inl a :: S) (X, M) (if a < 0 then E1 else E2) := by
  intro v0 M0 e0 r0
  obtain ⟨p, l, e, R, s, m, args, below, meth, c, cells, slots, Q⟩ := k
  obtain ⟨hx, hb, hml, hown, hts, hr, hlocks, hK, hRO, hDD, hR1, hR2, hc1, hc2⟩ := o
  intro H locs ls hN hP hS hl
  exact lv_if_lt hx hb hdg ht (fun hc => h1 v0 M0 (by rw [if_pos hc] at e0; exact e0) r0 H locs ls hN hP hS hl) (fun hc => h2 v0 M0 (by rw [if_neg hc] at e0; exact e0) r0 H locs ls hN hP hS hl)

theorem qr_if_ge {g : qG} {k : qK} {d : Nat} {y : qMY} {pc : Nat} {Z X : List qSh} {L : List (Option qV)} {S : List qV} {M : qM} {E1 E2 : qR} (o : qOk g d y k) {a : Int32} {off : Int} {tgt : Nat} (hdg : decode y.2.1 pc = .ok (.ifCond .ge off, 3)) (ht : (pc : Int) + off = (tgt : Int)) (h1 : qAE g k y Z tgt L S (X, M) E1) (h2 : qAE g k y Z (pc + 3) L S (X, M) E2) : qAE g k y Z pc L (.inl a :: S) (X, M) (if 0 ≤ a then E1 else E2) := by
  intro v0 M0 e0 r0
  obtain ⟨p, l, e, R, s, m, args, below, meth, c, cells, slots, Q⟩ := k
  obtain ⟨hx, hb, hml, hown, hts, hr, hlocks, hK, hRO, hDD, hR1, hR2, hc1, hc2⟩ := o
  intro H locs ls hN hP hS hl
  exact lv_if_ge hx hb hdg ht (fun hc => h1 v0 M0 (by rw [if_pos hc] at e0; exact e0) r0 H locs ls hN hP hS hl) (fun hc => h2 v0 M0 (by rw [if_neg hc] at e0; exact e0) r0 H locs ls hN hP hS hl)

theorem qr_if_gt {g : qG} {k : qK} {d : Nat} {y : qMY} {pc : Nat} {Z X : List qSh} {L : List (Option qV)} {S : List qV} {M : qM} {E1 E2 : qR} (o : qOk g d y k) {a : Int32} {off : Int} {tgt : Nat} (hdg : decode y.2.1 pc = .ok (.ifCond .gt off, 3)) (ht : (pc : Int) + off = (tgt : Int)) (h1 : qAE g k y Z tgt L S (X, M) E1) (h2 : qAE g k y Z (pc + 3) L S (X, M) E2) : qAE g k y Z pc L (.inl a :: S) (X, M) (if 0 < a then E1 else E2) := by
  intro v0 M0 e0 r0
  obtain ⟨p, l, e, R, s, m, args, below, meth, c, cells, slots, Q⟩ := k
  obtain ⟨hx, hb, hml, hown, hts, hr, hlocks, hK, hRO, hDD, hR1, hR2, hc1, hc2⟩ := o
  intro H locs ls hN hP hS hl
  exact lv_if_gt hx hb hdg ht (fun hc => h1 v0 M0 (by rw [if_pos hc] at e0; exact e0) r0 H locs ls hN hP hS hl) (fun hc => h2 v0 M0 (by rw [if_neg hc] at e0; exact e0) r0 H locs ls hN hP hS hl)

theorem qr_if_le {g : qG} {k : qK} {d : Nat} {y : qMY} {pc : Nat} {Z X : List qSh} {L : List (Option qV)} {S : List qV} {M : qM} {E1 E2 : qR} (o : qOk g d y k) {a : Int32} {off : Int} {tgt : Nat} (hdg : decode y.2.1 pc = .ok (.ifCond .le off, 3)) (ht : (pc : Int) + off = (tgt : Int)) (h1 : qAE g k y Z tgt L S (X, M) E1) (h2 : qAE g k y Z (pc + 3) L S (X, M) E2) : qAE g k y Z pc L (.inl a :: S) (X, M) (if a ≤ 0 then E1 else E2) := by
  intro v0 M0 e0 r0
  obtain ⟨p, l, e, R, s, m, args, below, meth, c, cells, slots, Q⟩ := k
  obtain ⟨hx, hb, hml, hown, hts, hr, hlocks, hK, hRO, hDD, hR1, hR2, hc1, hc2⟩ := o
  intro H locs ls hN hP hS hl
  exact lv_if_le hx hb hdg ht (fun hc => h1 v0 M0 (by rw [if_pos hc] at e0; exact e0) r0 H locs ls hN hP hS hl) (fun hc => h2 v0 M0 (by rw [if_neg hc] at e0; exact e0) r0 H locs ls hN hP hS hl)

theorem qr_getf {g : qG} {k : qK} {d : Nat} {y : qMY} {pc : Nat} {Z X : List qSh} {L : List (Option qV)} {S : List qV} {M : qM} {E : qR} (o : qOk g d y k) {i ci n idx kf : Nat} {fds : List (Option (Option Nat))} {C : String} {T : u_T} (hC : qC ci C T n) (hsh : X[i]? = some (.inr (ci, fds))) (hf : fds[kf]? = some none) (hk : kf < n) (hlk : Cond.fieldLink y.1.cls idx (T kf).1 (T kf).2.1 (T kf).2.2.1 ∈ q_tbl) (hdg : decode y.2.1 pc = .ok (.getfield idx, 3)) (h : qAE g k y Z (pc + 3) L (.inl (M i kf) :: S) (X, M) E) : qAE g k y Z pc L (.inr (some i) :: S) (X, M) E := by
  intro v0 M0 e0 r0
  obtain ⟨p, l, e, R, s, m, args, below, meth, c, cells, slots, Q⟩ := k
  obtain ⟨hx, hb, hml, hown, hts, hr, hlocks, hK, hRO, hDD, hR1, hR2, hc1, hc2⟩ := o
  intro H locs ls hN hP hS hl
  exact va_get hx hb hts hC.2.1 hown hK hP i (q_w_at (g := g) (st := (X, M)) hsh) hC.1 kf hk (hts _ hlk) (fun _ q => q) (by have := q_fl_at (ad := g.2.2.1) (f := M i) fds 0 kf hf; rwa [Nat.zero_add] at this) hdg (h v0 M0 e0 r0 H locs ls hN hP hS hl)

theorem qr_getr {g : qG} {k : qK} {d : Nat} {y : qMY} {pc : Nat} {Z X : List qSh} {L : List (Option qV)} {S : List qV} {M : qM} {E : qR} (o : qOk g d y k) {i j ci n idx kf : Nat} {fds : List (Option (Option Nat))} {C : String} {T : u_T} (hC : qC ci C T n) (hsh : X[i]? = some (.inr (ci, fds))) (hf : fds[kf]? = some (some (some j))) (hk : kf < n) (hlk : Cond.fieldLink y.1.cls idx (T kf).1 (T kf).2.1 (T kf).2.2.1 ∈ q_tbl) (hdg : decode y.2.1 pc = .ok (.getfield idx, 3)) (h : qAE g k y Z (pc + 3) L (.inr (some j) :: S) (X, M) E) : qAE g k y Z pc L (.inr (some i) :: S) (X, M) E := by
  intro v0 M0 e0 r0
  obtain ⟨p, l, e, R, s, m, args, below, meth, c, cells, slots, Q⟩ := k
  obtain ⟨hx, hb, hml, hown, hts, hr, hlocks, hK, hRO, hDD, hR1, hR2, hc1, hc2⟩ := o
  intro H locs ls hN hP hS hl
  exact va_get hx hb hts hC.2.1 hown hK hP i (q_w_at (g := g) (st := (X, M)) hsh) hC.1 kf hk (hts _ hlk) (fun _ q => q) (q_fl_atr (ad := g.2.2.1) (f := M i) fds 0 kf hf) hdg (h v0 M0 e0 r0 H locs ls hN hP hS hl)

theorem qr_putf {g : qG} {k : qK} {d : Nat} {y : qMY} {pc : Nat} {Z X : List qSh} {L : List (Option qV)} {S : List qV} {M : qM} {E : qR} (o : qOk g d y k) {i ci n idx kf : Nat} {fds : List (Option (Option Nat))} {C : String} {T : u_T} {v : Int32} (hC : qC ci C T n) (hsh : X[i]? = some (.inr (ci, fds))) (hf : fds[kf]? = some none) (hk : kf < n) (hlk : Cond.fieldLink y.1.cls idx (T kf).1 (T kf).2.1 (T kf).2.2.1 ∈ q_tbl) (hfin : (T kf).2.2.2 = false) (hty : parseFieldDescriptor (T kf).2.2.1 = some .int) (hdg : decode y.2.1 pc = .ok (.putfield idx, 3)) (h : qAE g k y Z (pc + 3) L S (X, mu M i kf v) E) : qAE g k y Z pc L (.inl v :: .inr (some i) :: S) (X, M) E := by
  intro v0 M0 e0 r0
  obtain ⟨p, l, e, R, s, m, args, below, meth, c, cells, slots, Q⟩ := k
  obtain ⟨hx, hb, hml, hown, hts, hr, hlocks, hK, hRO, hDD, hR1, hR2, hc1, hc2⟩ := o
  intro H locs ls hN hP hS hl
  obtain ⟨ty0, hty0⟩ := hC.2.2.1
  have hlen : kf < (q_fl g.2.2.1 (M i) 0 fds).length := by rw [q_fl_len]; exact (List.getElem?_eq_some_iff.mp hf).1
  refine va_put hx hb hts hC.2.1 ty0 hty0 hC.2.2.2 hown hK hP (q_D hDD hN) hS i (q_w_at (g := g) (st := (X, M)) hsh) hC.1 kf hk (hts _ hlk) (fun _ q => q) hfin hty rfl rfl hlen hdg (fun H1 locs1 hP1 _ hS1 => ?_)
  exact h v0 M0 e0 r0 H1 locs1 ls hN (by rw [← q_w_setf (g := g) (st := (X, M)) hsh hf]; exact hP1) hS1 hl

theorem qr_putz {g : qG} {k : qK} {d : Nat} {y : qMY} {pc : Nat} {Z X : List qSh} {L : List (Option qV)} {S : List qV} {M : qM} {E : qR} (o : qOk g d y k) {i ci n idx kf : Nat} {fds : List (Option (Option Nat))} {C : String} {T : u_T} {v : Int32} (hC : qC ci C T n) (hsh : X[i]? = some (.inr (ci, fds))) (hf : fds[kf]? = some none) (hk : kf < n) (hlk : Cond.fieldLink y.1.cls idx (T kf).1 (T kf).2.1 (T kf).2.2.1 ∈ q_tbl) (hfin : (T kf).2.2.2 = false) (hty : parseFieldDescriptor (T kf).2.2.1 = some .boolean) (hv : v = 0 ∨ v = 1) (hdg : decode y.2.1 pc = .ok (.putfield idx, 3)) (h : qAE g k y Z (pc + 3) L S (X, mu M i kf v) E) : qAE g k y Z pc L (.inl v :: .inr (some i) :: S) (X, M) E := by
  intro v0 M0 e0 r0
  obtain ⟨p, l, e, R, s, m, args, below, meth, c, cells, slots, Q⟩ := k
  obtain ⟨hx, hb, hml, hown, hts, hr, hlocks, hK, hRO, hDD, hR1, hR2, hc1, hc2⟩ := o
  intro H locs ls hN hP hS hl
  obtain ⟨ty0, hty0⟩ := hC.2.2.1
  have hlen : kf < (q_fl g.2.2.1 (M i) 0 fds).length := by rw [q_fl_len]; exact (List.getElem?_eq_some_iff.mp hf).1
  refine va_put hx hb hts hC.2.1 ty0 hty0 hC.2.2.2 hown hK hP (q_D hDD hN) hS i (q_w_at (g := g) (st := (X, M)) hsh) hC.1 kf hk (hts _ hlk) (fun _ q => q) hfin hty (q_nz hv) (by rcases hv with rfl | rfl <;> rfl) hlen hdg (fun H1 locs1 hP1 _ hS1 => ?_)
  exact h v0 M0 e0 r0 H1 locs1 ls hN (by rw [← q_w_setf (g := g) (st := (X, M)) hsh hf]; exact hP1) hS1 hl

theorem qr_putr {g : qG} {k : qK} {d : Nat} {y : qMY} {pc : Nat} {Z X : List qSh} {L : List (Option qV)} {S : List qV} {M : qM} {E : qR} (o : qOk g d y k) {i j ci n idx kf : Nat} {fds : List (Option (Option Nat))} {C C2 : String} {T : u_T} {z : Option Nat} (hC : qC ci C T n) (hsh : X[i]? = some (.inr (ci, fds))) (hf : fds[kf]? = some (some z)) (hk : kf < n) (hlk : Cond.fieldLink y.1.cls idx (T kf).1 (T kf).2.1 (T kf).2.2.1 ∈ q_tbl) (hfin : (T kf).2.2.2 = false) (hty : parseFieldDescriptor (T kf).2.2.1 = some (.object C2)) (hdg : decode y.2.1 pc = .ok (.putfield idx, 3)) (h : qAE g k y Z (pc + 3) L S (X.set i (.inr (ci, fds.set kf (some (some j)))), M) E) : qAE g k y Z pc L (.inr (some j) :: .inr (some i) :: S) (X, M) E := by
  intro v0 M0 e0 r0
  obtain ⟨p, l, e, R, s, m, args, below, meth, c, cells, slots, Q⟩ := k
  obtain ⟨hx, hb, hml, hown, hts, hr, hlocks, hK, hRO, hDD, hR1, hR2, hc1, hc2⟩ := o
  intro H locs ls hN hP hS hl
  obtain ⟨ty0, hty0⟩ := hC.2.2.1
  have hlen : kf < (q_fl g.2.2.1 (M i) 0 fds).length := by rw [q_fl_len]; exact (List.getElem?_eq_some_iff.mp hf).1
  refine va_put hx hb hts hC.2.1 ty0 hty0 hC.2.2.2 hown hK hP (q_D hDD hN) hS i (q_w_at (g := g) (st := (X, M)) hsh) hC.1 kf hk (hts _ hlk) (fun _ q => q) hfin hty (v := .ref (g.2.2.1 j)) rfl rfl hlen hdg (fun H1 locs1 hP1 _ hS1 => ?_)
  exact h v0 M0 e0 r0 H1 locs1 ls (by simpa using hN) (by rw [← q_w_setr (g := g) (st := (X, M)) (x := some j) hsh ⟨z, hf⟩]; exact hP1) hS1 hl

theorem qr_iald {g : qG} {k : qK} {d : Nat} {y : qMY} {pc : Nat} {Z X : List qSh} {L : List (Option qV)} {S : List qV} {M : qM} {E : qR} (o : qOk g d y k) {i n : Nat} {j : Int32} (hsh : X[i]? = some (.inl (0, n))) (hdg : decode y.2.1 pc = .ok (.iaload, 1)) (h : qAE g k y Z (pc + 1) L (.inl (M i j.toNatClampNeg) :: S) (X, M) E) : qAE g k y Z pc L (.inl j :: .inr (some i) :: S) (X, M) (qg j n E) := by
  intro v0 M0 e0 r0
  obtain ⟨p, l, e, R, s, m, args, below, meth, c, cells, slots, Q⟩ := k
  obtain ⟨hx, hb, hml, hown, hts, hr, hlocks, hK, hRO, hDD, hR1, hR2, hc1, hc2⟩ := o
  intro H locs ls hN hP hS hl
  obtain ⟨e1, e0⟩ := qg_some e0
  exact va_iald hx hb hK hP i 0 (q_w_at (g := g) (st := (X, M)) hsh) rfl e1 hdg (h v0 M0 e0 r0 H locs ls hN hP hS hl)

theorem qr_bald {g : qG} {k : qK} {d : Nat} {y : qMY} {pc : Nat} {Z X : List qSh} {L : List (Option qV)} {S : List qV} {M : qM} {E : qR} (o : qOk g d y k) {i n : Nat} {j : Int32} (hsh : X[i]? = some (.inl (1, n))) (hdg : decode y.2.1 pc = .ok (.baload, 1)) (h : qAE g k y Z (pc + 1) L (.inl (M i j.toNatClampNeg) :: S) (X, M) E) : qAE g k y Z pc L (.inl j :: .inr (some i) :: S) (X, M) (qg j n E) := by
  intro v0 M0 e0 r0
  obtain ⟨p, l, e, R, s, m, args, below, meth, c, cells, slots, Q⟩ := k
  obtain ⟨hx, hb, hml, hown, hts, hr, hlocks, hK, hRO, hDD, hR1, hR2, hc1, hc2⟩ := o
  intro H locs ls hN hP hS hl
  obtain ⟨e1, e0⟩ := qg_some e0
  exact va_bald hx hb hK hP i 1 (q_w_at (g := g) (st := (X, M)) hsh) rfl e1 hdg (h v0 M0 e0 r0 H locs ls hN hP hS hl)

theorem qr_zald {g : qG} {k : qK} {d : Nat} {y : qMY} {pc : Nat} {Z X : List qSh} {L : List (Option qV)} {S : List qV} {M : qM} {E : qR} (o : qOk g d y k) {i n : Nat} {j : Int32} (hsh : X[i]? = some (.inl (2, n))) (hdg : decode y.2.1 pc = .ok (.baload, 1)) (h : qAE g k y Z (pc + 1) L (.inl (M i j.toNatClampNeg) :: S) (X, M) E) : qAE g k y Z pc L (.inl j :: .inr (some i) :: S) (X, M) (qg j n E) := by
  intro v0 M0 e0 r0
  obtain ⟨p, l, e, R, s, m, args, below, meth, c, cells, slots, Q⟩ := k
  obtain ⟨hx, hb, hml, hown, hts, hr, hlocks, hK, hRO, hDD, hR1, hR2, hc1, hc2⟩ := o
  intro H locs ls hN hP hS hl
  obtain ⟨e1, e0⟩ := qg_some e0
  exact va_zald hx hb hK hP i 2 (q_w_at (g := g) (st := (X, M)) hsh) rfl e1 hdg (h v0 M0 e0 r0 H locs ls hN hP hS hl)

theorem qr_iast {g : qG} {k : qK} {d : Nat} {y : qMY} {pc : Nat} {Z X : List qSh} {L : List (Option qV)} {S : List qV} {M : qM} {E : qR} (o : qOk g d y k) {i n : Nat} {j x : Int32} (hsh : X[i]? = some (.inl (0, n))) (hdg : decode y.2.1 pc = .ok (.iastore, 1)) (h : qAE g k y Z (pc + 1) L S (X, mu M i j.toNatClampNeg (x)) E) : qAE g k y Z pc L (.inl x :: .inl j :: .inr (some i) :: S) (X, M) (qg j n E) := by
  intro v0 M0 e0 r0
  obtain ⟨p, l, e, R, s, m, args, below, meth, c, cells, slots, Q⟩ := k
  obtain ⟨hx, hb, hml, hown, hts, hr, hlocks, hK, hRO, hDD, hR1, hR2, hc1, hc2⟩ := o
  intro H locs ls hN hP hS hl
  obtain ⟨e1, e0⟩ := qg_some e0
  refine va_iast hx hb hK hP (q_D hDD hN) hS i 0 (q_w_at (g := g) (st := (X, M)) hsh) rfl e1 hdg (fun H1 locs1 hP1 _ hS1 => ?_)
  exact h v0 M0 e0 r0 H1 locs1 ls hN (by rw [← q_w_seta (g := g) (st := (X, M)) hsh]; exact hP1) hS1 hl

theorem qr_bast {g : qG} {k : qK} {d : Nat} {y : qMY} {pc : Nat} {Z X : List qSh} {L : List (Option qV)} {S : List qV} {M : qM} {E : qR} (o : qOk g d y k) {i n : Nat} {j x : Int32} (hsh : X[i]? = some (.inl (1, n))) (hdg : decode y.2.1 pc = .ok (.bastore, 1)) (h : qAE g k y Z (pc + 1) L S (X, mu M i j.toNatClampNeg (vp_nar .byte x)) E) : qAE g k y Z pc L (.inl x :: .inl j :: .inr (some i) :: S) (X, M) (qg j n E) := by
  intro v0 M0 e0 r0
  obtain ⟨p, l, e, R, s, m, args, below, meth, c, cells, slots, Q⟩ := k
  obtain ⟨hx, hb, hml, hown, hts, hr, hlocks, hK, hRO, hDD, hR1, hR2, hc1, hc2⟩ := o
  intro H locs ls hN hP hS hl
  obtain ⟨e1, e0⟩ := qg_some e0
  refine va_bast hx hb hK hP (q_D hDD hN) hS i 1 (q_w_at (g := g) (st := (X, M)) hsh) rfl e1 hdg (fun H1 locs1 hP1 _ hS1 => ?_)
  exact h v0 M0 e0 r0 H1 locs1 ls hN (by rw [← q_w_seta (g := g) (st := (X, M)) hsh]; exact hP1) hS1 hl

theorem qr_zast {g : qG} {k : qK} {d : Nat} {y : qMY} {pc : Nat} {Z X : List qSh} {L : List (Option qV)} {S : List qV} {M : qM} {E : qR} (o : qOk g d y k) {i n : Nat} {j x : Int32} (hsh : X[i]? = some (.inl (2, n))) (hdg : decode y.2.1 pc = .ok (.bastore, 1)) (h : qAE g k y Z (pc + 1) L S (X, mu M i j.toNatClampNeg (vp_nar .boolean x)) E) : qAE g k y Z pc L (.inl x :: .inl j :: .inr (some i) :: S) (X, M) (qg j n E) := by
  intro v0 M0 e0 r0
  obtain ⟨p, l, e, R, s, m, args, below, meth, c, cells, slots, Q⟩ := k
  obtain ⟨hx, hb, hml, hown, hts, hr, hlocks, hK, hRO, hDD, hR1, hR2, hc1, hc2⟩ := o
  intro H locs ls hN hP hS hl
  obtain ⟨e1, e0⟩ := qg_some e0
  refine va_zast hx hb hK hP (q_D hDD hN) hS i 2 (q_w_at (g := g) (st := (X, M)) hsh) rfl e1 hdg (fun H1 locs1 hP1 _ hS1 => ?_)
  exact h v0 M0 e0 r0 H1 locs1 ls hN (by rw [← q_w_seta (g := g) (st := (X, M)) hsh]; exact hP1) hS1 hl

theorem qr_sald {g : qG} {k : qK} {d : Nat} {y : qMY} {pc : Nat} {Z X : List qSh} {L : List (Option qV)} {S : List qV} {M : qM} {E : qR} (o : qOk g d y k) {j : Int32} (hdg : decode y.2.1 pc = .ok (.iaload, 1)) (h : qAE g k y Z (pc + 1) L (.inl (g.2.2.2.2.2.2 j.toNatClampNeg) :: S) (X, M) E) : qAE g k y Z pc L (.inl j :: .inr (some 1000) :: S) (X, M) (qg j g.2.2.2.2.2.1 E) := by
  intro v0 M0 e0 r0
  obtain ⟨p, l, e, R, s, m, args, below, meth, c, cells, slots, Q⟩ := k
  obtain ⟨hx, hb, hml, hown, hts, hr, hlocks, hK, hRO, hDD, hR1, hR2, hc1, hc2⟩ := o
  intro H locs ls hN hP hS hl
  obtain ⟨e1, e0⟩ := qg_some e0
  exact va_sld hx hb hRO.1 hRO.2.1 hRO.2.2.1 hS e1 hdg (h v0 M0 e0 r0 H locs ls hN hP hS hl)

theorem qr_lald {g : qG} {k : qK} {d : Nat} {y : qMY} {pc : Nat} {Z X : List qSh} {L : List (Option qV)} {S : List qV} {M : qM} {E : qR} (o : qOk g d y k) {j : Int32} (hdg : decode y.2.1 pc = .ok (.iaload, 1)) (h : qAE g k y Z (pc + 1) L (.inl (q_let j.toNatClampNeg) :: S) (X, M) E) : qAE g k y Z pc L (.inl j :: .inr (some 1001) :: S) (X, M) (qg j 12 E) := by
  intro v0 M0 e0 r0
  obtain ⟨p, l, e, R, s, m, args, below, meth, c, cells, slots, Q⟩ := k
  obtain ⟨hx, hb, hml, hown, hts, hr, hlocks, hK, hRO, hDD, hR1, hR2, hc1, hc2⟩ := o
  intro H locs ls hN hP hS hl
  obtain ⟨e1, e0⟩ := qg_some e0
  exact va_sld hx hb hRO.2.2.2.1 hRO.2.2.2.2.1 hRO.2.2.2.2.2.1 hS e1 hdg (h v0 M0 e0 r0 H locs ls hN hP hS hl)

theorem qr_slen {g : qG} {k : qK} {d : Nat} {y : qMY} {pc : Nat} {Z X : List qSh} {L : List (Option qV)} {S : List qV} {M : qM} {E : qR} (o : qOk g d y k)  (hdg : decode y.2.1 pc = .ok (.arraylength, 1)) (h : qAE g k y Z (pc + 1) L (.inl (Int32.ofNat g.2.2.2.2.2.1) :: S) (X, M) E) : qAE g k y Z pc L (.inr (some 1000) :: S) (X, M) E := by
  intro v0 M0 e0 r0
  obtain ⟨p, l, e, R, s, m, args, below, meth, c, cells, slots, Q⟩ := k
  obtain ⟨hx, hb, hml, hown, hts, hr, hlocks, hK, hRO, hDD, hR1, hR2, hc1, hc2⟩ := o
  intro H locs ls hN hP hS hl
  exact va_slen hx hb hRO.1 hRO.2.1 hRO.2.2.1 hS hdg (h v0 M0 e0 r0 H locs ls hN hP hS hl)

theorem qr_llen {g : qG} {k : qK} {d : Nat} {y : qMY} {pc : Nat} {Z X : List qSh} {L : List (Option qV)} {S : List qV} {M : qM} {E : qR} (o : qOk g d y k)  (hdg : decode y.2.1 pc = .ok (.arraylength, 1)) (h : qAE g k y Z (pc + 1) L (.inl 12 :: S) (X, M) E) : qAE g k y Z pc L (.inr (some 1001) :: S) (X, M) E := by
  intro v0 M0 e0 r0
  obtain ⟨p, l, e, R, s, m, args, below, meth, c, cells, slots, Q⟩ := k
  obtain ⟨hx, hb, hml, hown, hts, hr, hlocks, hK, hRO, hDD, hR1, hR2, hc1, hc2⟩ := o
  intro H locs ls hN hP hS hl
  exact va_slen hx hb hRO.2.2.2.1 hRO.2.2.2.2.1 hRO.2.2.2.2.2.1 hS hdg (h v0 M0 e0 r0 H locs ls hN hP hS hl)

theorem qr_alen {g : qG} {k : qK} {d : Nat} {y : qMY} {pc : Nat} {Z X : List qSh} {L : List (Option qV)} {S : List qV} {M : qM} {E : qR} (o : qOk g d y k) {i t n : Nat} {v : Int32} (hsh : X[i]? = some (.inl (t, n))) (ht : t < 3) (hv : Int32.ofNat n = v) (hdg : decode y.2.1 pc = .ok (.arraylength, 1)) (h : qAE g k y Z (pc + 1) L (.inl v :: S) (X, M) E) : qAE g k y Z pc L (.inr (some i) :: S) (X, M) E := by
  intro v0 M0 e0 r0
  obtain ⟨p, l, e, R, s, m, args, below, meth, c, cells, slots, Q⟩ := k
  obtain ⟨hx, hb, hml, hown, hts, hr, hlocks, hK, hRO, hDD, hR1, hR2, hc1, hc2⟩ := o
  intro H locs ls hN hP hS hl
  have htt : ∃ ty, (q_t g)[t]? = some (g.2.1 t, ty) := by
    rcases (show t = 0 ∨ t = 1 ∨ t = 2 by omega) with rfl | rfl | rfl
    · exact ⟨.int, rfl⟩
    · exact ⟨.byte, rfl⟩
    · exact ⟨.boolean, rfl⟩
  obtain ⟨ty, htt⟩ := htt
  exact va_alen hx hb hK hP i t (q_w_at (g := g) (st := (X, M)) hsh) htt hv hdg (h v0 M0 e0 r0 H locs ls hN hP hS hl)

theorem qr_gets {g : qG} {k : qK} {d : Nat} {y : qMY} {pc : Nat} {Z X : List qSh} {L : List (Option qV)} {S : List qV} {M : qM} {E : qR} (o : qOk g d y k)  (hy : y.1.cls = "SecondTry$LawReader") (hdg : decode y.2.1 pc = .ok (.getstatic 104, 3)) (h : qAE g k y Z (pc + 3) L (.inr (some 1001) :: S) (X, M) E) : qAE g k y Z pc L S (X, M) E := by
  intro v0 M0 e0 r0
  obtain ⟨p, l, e, R, s, m, args, below, meth, c, cells, slots, Q⟩ := k
  obtain ⟨hx, hb, hml, hown, hts, hr, hlocks, hK, hRO, hDD, hR1, hR2, hc1, hc2⟩ := o
  intro H locs ls hN hP hS hl
  rw [hy] at hown
  exact va_getsN hx hb hRO.2.2.2.2.2.2.1 hS hown (va_Nw.use rfl hRO.2.2.2.2.2.2.2) (fun _ q => q) hdg (h v0 M0 e0 r0 H locs ls hN hP hS hl)

theorem qr_iret {g : qG} {k : qK} {d : Nat} {y : qMY} {pc : Nat} {Z : List qSh} {L : List (Option qV)} {M : qM} (o : qOk g d y k) {v : Int32} {ty : FieldType} (hy : y.2.2.2 = some ty) (hn : narrow ty (.int v) = .int v) (hdg : decode y.2.1 pc = .ok (.ireturn, 1)) : qAE g k y Z pc L [.inl v] (Z, M) (some (v, M)) := by
  intro v0 M0 e0 r0
  obtain ⟨p, l, e, R, s, m, args, below, meth, c, cells, slots, Q⟩ := k
  obtain ⟨hx, hb, hml, hown, hts, hr, hlocks, hK, hRO, hDD, hR1, hR2, hc1, hc2⟩ := o
  intro H locs ls hN hP hS hl
  cases e0
  have h9 := r0 H locs ls pc hN hP hS
  simp only [hy] at h9
  exact h9 hn hdg
theorem qr_zret {g : qG} {k : qK} {d : Nat} {y : qMY} {pc : Nat} {Z : List qSh} {L : List (Option qV)} {M : qM} (o : qOk g d y k) {v : Int32} (hy : y.2.2.2 = some .boolean) (hdg : decode y.2.1 pc = .ok (.ireturn, 1)) : qAE g k y Z pc L [.inl v] (Z, M) (qb v (some (v, M))) := by
  intro v0 M0 e0 r0
  obtain ⟨e1, e0⟩ := qb_some e0
  exact qr_iret o hy (q_nz e1) hdg v0 M0 e0 r0
theorem qr_vret {g : qG} {k : qK} {d : Nat} {y : qMY} {pc : Nat} {Z : List qSh} {L : List (Option qV)} {M : qM} (o : qOk g d y k) (hy : y.2.2.2 = none) (hdg : decode y.2.1 pc = .ok (.return_, 1)) : qAE g k y Z pc L [] (Z, M) (some (0, M)) := by
  intro v0 M0 e0 r0
  obtain ⟨p, l, e, R, s, m, args, below, meth, c, cells, slots, Q⟩ := k
  obtain ⟨hx, hb, hml, hown, hts, hr, hlocks, hK, hRO, hDD, hR1, hR2, hc1, hc2⟩ := o
  intro H locs ls hN hP hS hl
  cases e0
  have h9 := r0 H locs ls pc hN hP hS
  simp only [hy] at h9
  exact h9 hdg

theorem qr_callv_i {g : qG} {k : qK} {d : Nat} {y : qMY} {pc : Nat} {Z X : List qSh} {L : List (Option qV)} {S : List qV} {M : qM} {E : Int32 → qM → qR} (o : qOk g d y k) {z : qMY} {ty : FieldType} {As : List qV} {i d1 idx ci n : Nat} {fds : List (Option (Option Nat))} {T : u_T} {F : qR} (hM : qAM g k.2.1 d1 z X (.inr (some i) :: As) (X, M) F) (hd : d1 + 1 ≤ d) (hZ : qZV z As.length) (hz : z.2.2.2 = some ty) (hC : qC ci z.1.cls T n) (hsh : X[i]? = some (.inr (ci, fds))) (hlk : Cond.methodLink y.1.cls idx z.1 ∈ q_tbl) (hS8 : S.length ≤ 8) (hdg : decode y.2.1 pc = .ok (.invokevirtual idx, 3)) (kk : ∀ (r : Int32) (M1 : qM), qAE g k y Z (pc + 3) L (.inl r :: S) (X, M1) (E r M1)) : qAE g k y Z pc L (As.reverse ++ .inr (some i) :: S) (X, M) (qc F E) := by
  intro v0 M0 e0 r0
  obtain ⟨p, l, e, R, s, m, args, below, meth, c, cells, slots, Q⟩ := k
  obtain ⟨hx, hb, hml, hown, hts, hr, hlocks, hK, hRO, hDD, hR1, hR2, hc1, hc2⟩ := o
  intro H locs ls hN hP hS hl
  obtain ⟨v1, M1, e1, e2⟩ := qc_some e0
  have hMt := hM v1 M1 e1
  have hG := q_goodIn hZ.1.1
  have hR9 : (q_rm d1).frames + 1 ≤ R.frames ∧ 8 + (z.2.2.1 + 11) + (q_rm d1).locals ≤ R.locals := ⟨by show d1 + 1 ≤ R.frames; omega, by show 8 + (z.2.2.1 + 11) + 64 * d1 ≤ R.locals; have := hZ.1.2.2.2.2.2.2; omega⟩
  have hcat : ∀ S1 : List qV, S1.length ≤ 8 → ((S1.map (q_v g.2.2.1)).map fun v => v.category).sum ≤ 8 := by
    intro S1 hS1
    have : ((S1.map (q_v g.2.2.1)).map fun v => v.category).sum = S1.length := by
      clear hS1
      induction S1 with
      | nil => rfl
      | cons a r ih => simp only [List.map_cons, List.sum_cons, List.length_cons, ih, q_v_cat]; omega
    rw [this]; exact hS1
  have hcb := callB_of (R := R) (s := s) (args := args) (own := y.1.cls) (index := idx) (y := z.1) (bytes := z.2.1) (maxL := z.2.2.1) (ret := z.2.2.2) (ws := q_wy z) (rm := q_rm d1) (mc := 0) (ms := 0) (Ts := q_tbl) As.length hts hG rfl rfl rfl (hts _ hZ.1.2.1) (hts _ hlk) ⟨hZ.1.2.2.2.1, hZ.1.2.2.2.2.1, hZ.1.2.2.2.2.2.1⟩ hR9
  have hr9 := va_runV (p := p) (l := l) (e := e) (R := R) (s := s) (m := m) (args := args) (below := below) (meth := meth) (c := c) (H := H) (locs := locs) (cells := cells) (slots := slots) (Ts := q_tbl) (cc := y.2.1) (nL := y.2.2.1) (own := y.1.cls) (C := z.1.cls) (b := g.2.2.1 i) (As := As.map (q_v g.2.2.1)) (rest := S.map (q_v g.2.2.1)) (g := F0 m pc ls ((As.reverse ++ .inr (some i) :: S).map (q_v g.2.2.1)))
    ⟨hx, hb, hml, hown, hts⟩ hMt ⟨hcb, hts _ hZ.2.1, hts _ hZ.2.2⟩ ⟨q_blind, va_recv hK hP hC.1 (q_w_at (g := g) (st := (X, M)) hsh), fun U hU hW => ⟨rfl, hN, by rw [hU]; exact hP, va_K.moved hW.alike hK, by rw [hU]; exact (hRO.kept hS).moved hW, hDD⟩⟩ rfl (by simp) hl.1 (by simp [q_v, va_rf, List.map_reverse]) (lv_room (hcat S hS8)) hdg ⟨by simpa using hc1, by simpa using hc2⟩
  intro T hT X
  obtain ⟨w, s9, t, T9, L9, h0, X9, hL9, q1, q2, ⟨⟨hw, hlen, hP9⟩, hz9, hk9⟩, go⟩ := hr9 T hT X
  have hw2 : w = q_rv z v1 := by cases hw; rfl
  subst hw2
  rw [h0] at hz9 hk9
  have hS9 : va_S g.2.2.2.1 s.heap T9.heap (locs ++ L9) := ⟨Nat.le_trans hS.1 (by rw [q1]; exact hz9), fun q a1 a2 => by rw [q1, hk9 q (Nat.lt_of_lt_of_le a1 hS.1) a2]; exact hS.2.1 q a1 a2, fun q hq => (List.mem_append.mp hq).elim (fun a => hS.2.2 q a) (fun a => hL9 q a)⟩
  obtain ⟨t2, a1, b1⟩ := kk v1 M1 v0 M0 e2 r0 T9.heap (locs ++ L9) ls hlen (by rw [q1]; exact hP9) hS9 hl T9 rfl X9
  refine ⟨t2, go t2 ?_, b1⟩
  simp only [q_rv, hz]
  exact a1
theorem qr_calls_i {g : qG} {k : qK} {d : Nat} {y : qMY} {pc : Nat} {Z X : List qSh} {L : List (Option qV)} {S : List qV} {M : qM} {E : Int32 → qM → qR} (o : qOk g d y k) {z : qMY} {ty : FieldType} {As : List qV} {d1 idx : Nat} {F : qR} (hM : qAM g k.2.1 d1 z X As (X, M) F) (hd : d1 + 1 ≤ d) (hZ : qZS z As.length) (hz : z.2.2.2 = some ty) (hlk : Cond.methodLink y.1.cls idx z.1 ∈ q_tbl) (hS8 : S.length ≤ 8) (hdg : decode y.2.1 pc = .ok (.invokestatic idx, 3)) (kk : ∀ (r : Int32) (M1 : qM), qAE g k y Z (pc + 3) L (.inl r :: S) (X, M1) (E r M1)) : qAE g k y Z pc L (As.reverse ++ S) (X, M) (qc F E) := by
  intro v0 M0 e0 r0
  obtain ⟨p, l, e, R, s, m, args, below, meth, c, cells, slots, Q⟩ := k
  obtain ⟨hx, hb, hml, hown, hts, hr, hlocks, hK, hRO, hDD, hR1, hR2, hc1, hc2⟩ := o
  intro H locs ls hN hP hS hl
  obtain ⟨v1, M1, e1, e2⟩ := qc_some e0
  have hMt := hM v1 M1 e1
  have hG := q_goodIn hZ.1.1
  have hR9 : (q_rm d1).frames + 1 ≤ R.frames ∧ 8 + (z.2.2.1 + 11) + (q_rm d1).locals ≤ R.locals := ⟨by show d1 + 1 ≤ R.frames; omega, by show 8 + (z.2.2.1 + 11) + 64 * d1 ≤ R.locals; have := hZ.1.2.2.2.2.2.2; omega⟩
  have hcat : ∀ S1 : List qV, S1.length ≤ 8 → ((S1.map (q_v g.2.2.1)).map fun v => v.category).sum ≤ 8 := by
    intro S1 hS1
    have : ((S1.map (q_v g.2.2.1)).map fun v => v.category).sum = S1.length := by
      clear hS1
      induction S1 with
      | nil => rfl
      | cons a r ih => simp only [List.map_cons, List.sum_cons, List.length_cons, ih, q_v_cat]; omega
    rw [this]; exact hS1
  have hcb := callB_of (R := R) (s := s) (args := args) (own := y.1.cls) (index := idx) (y := z.1) (bytes := z.2.1) (maxL := z.2.2.1) (ret := z.2.2.2) (ws := q_wy z) (rm := q_rm d1) (mc := 0) (ms := 0) (Ts := q_tbl) As.length hts hG rfl rfl rfl (hts _ hZ.1.2.1) (hts _ hlk) ⟨hZ.1.2.2.2.1, hZ.1.2.2.2.2.1, hZ.1.2.2.2.2.2.1⟩ hR9
  have hr9 := va_runS (p := p) (l := l) (e := e) (R := R) (s := s) (m := m) (args := args) (below := below) (meth := meth) (c := c) (H := H) (locs := locs) (cells := cells) (slots := slots) (Ts := q_tbl) (cc := y.2.1) (nL := y.2.2.1) (own := y.1.cls) (As := As.map (q_v g.2.2.1)) (rest := S.map (q_v g.2.2.1)) (g := F0 m pc ls ((As.reverse ++ S).map (q_v g.2.2.1)))
    ⟨hx, hb, hml, hown, hts⟩ hMt ⟨hcb, hts _ hZ.2⟩ ⟨q_blind, fun U hU hW => ⟨rfl, hN, by rw [hU]; exact hP, va_K.moved hW.alike hK, by rw [hU]; exact (hRO.kept hS).moved hW, hDD⟩⟩ rfl (by simp) hl.1 (by simp [List.map_reverse]) (lv_room (hcat S hS8)) hdg ⟨by simpa using hc1, by simpa using hc2⟩
  intro T hT X
  obtain ⟨w, s9, t, T9, L9, h0, X9, hL9, q1, q2, ⟨⟨hw, hlen, hP9⟩, hz9, hk9⟩, go⟩ := hr9 T hT X
  have hw2 : w = q_rv z v1 := by cases hw; rfl
  subst hw2
  rw [h0] at hz9 hk9
  have hS9 : va_S g.2.2.2.1 s.heap T9.heap (locs ++ L9) := ⟨Nat.le_trans hS.1 (by rw [q1]; exact hz9), fun q a1 a2 => by rw [q1, hk9 q (Nat.lt_of_lt_of_le a1 hS.1) a2]; exact hS.2.1 q a1 a2, fun q hq => (List.mem_append.mp hq).elim (fun a => hS.2.2 q a) (fun a => hL9 q a)⟩
  obtain ⟨t2, a1, b1⟩ := kk v1 M1 v0 M0 e2 r0 T9.heap (locs ++ L9) ls hlen (by rw [q1]; exact hP9) hS9 hl T9 rfl X9
  refine ⟨t2, go t2 ?_, b1⟩
  simp only [q_rv, hz]
  exact a1

theorem qr_callv_v {g : qG} {k : qK} {d : Nat} {y : qMY} {pc : Nat} {Z X : List qSh} {L : List (Option qV)} {S : List qV} {M : qM} {E : Int32 → qM → qR} (o : qOk g d y k) {z : qMY}  {As : List qV} {i d1 idx ci n : Nat} {fds : List (Option (Option Nat))} {T : u_T} {F : qR} (hM : qAM g k.2.1 d1 z X (.inr (some i) :: As) (X, M) F) (hd : d1 + 1 ≤ d) (hZ : qZV z As.length) (hz : z.2.2.2 = none) (hC : qC ci z.1.cls T n) (hsh : X[i]? = some (.inr (ci, fds))) (hlk : Cond.methodLink y.1.cls idx z.1 ∈ q_tbl) (hS8 : S.length ≤ 8) (hdg : decode y.2.1 pc = .ok (.invokevirtual idx, 3)) (kk : ∀ (r : Int32) (M1 : qM), qAE g k y Z (pc + 3) L S (X, M1) (E r M1)) : qAE g k y Z pc L (As.reverse ++ .inr (some i) :: S) (X, M) (qc F E) := by
  intro v0 M0 e0 r0
  obtain ⟨p, l, e, R, s, m, args, below, meth, c, cells, slots, Q⟩ := k
  obtain ⟨hx, hb, hml, hown, hts, hr, hlocks, hK, hRO, hDD, hR1, hR2, hc1, hc2⟩ := o
  intro H locs ls hN hP hS hl
  obtain ⟨v1, M1, e1, e2⟩ := qc_some e0
  have hMt := hM v1 M1 e1
  have hG := q_goodIn hZ.1.1
  have hR9 : (q_rm d1).frames + 1 ≤ R.frames ∧ 8 + (z.2.2.1 + 11) + (q_rm d1).locals ≤ R.locals := ⟨by show d1 + 1 ≤ R.frames; omega, by show 8 + (z.2.2.1 + 11) + 64 * d1 ≤ R.locals; have := hZ.1.2.2.2.2.2.2; omega⟩
  have hcat : ∀ S1 : List qV, S1.length ≤ 8 → ((S1.map (q_v g.2.2.1)).map fun v => v.category).sum ≤ 8 := by
    intro S1 hS1
    have : ((S1.map (q_v g.2.2.1)).map fun v => v.category).sum = S1.length := by
      clear hS1
      induction S1 with
      | nil => rfl
      | cons a r ih => simp only [List.map_cons, List.sum_cons, List.length_cons, ih, q_v_cat]; omega
    rw [this]; exact hS1
  have hcb := callB_of (R := R) (s := s) (args := args) (own := y.1.cls) (index := idx) (y := z.1) (bytes := z.2.1) (maxL := z.2.2.1) (ret := z.2.2.2) (ws := q_wy z) (rm := q_rm d1) (mc := 0) (ms := 0) (Ts := q_tbl) As.length hts hG rfl rfl rfl (hts _ hZ.1.2.1) (hts _ hlk) ⟨hZ.1.2.2.2.1, hZ.1.2.2.2.2.1, hZ.1.2.2.2.2.2.1⟩ hR9
  have hr9 := va_runV (p := p) (l := l) (e := e) (R := R) (s := s) (m := m) (args := args) (below := below) (meth := meth) (c := c) (H := H) (locs := locs) (cells := cells) (slots := slots) (Ts := q_tbl) (cc := y.2.1) (nL := y.2.2.1) (own := y.1.cls) (C := z.1.cls) (b := g.2.2.1 i) (As := As.map (q_v g.2.2.1)) (rest := S.map (q_v g.2.2.1)) (g := F0 m pc ls ((As.reverse ++ .inr (some i) :: S).map (q_v g.2.2.1)))
    ⟨hx, hb, hml, hown, hts⟩ hMt ⟨hcb, hts _ hZ.2.1, hts _ hZ.2.2⟩ ⟨q_blind, va_recv hK hP hC.1 (q_w_at (g := g) (st := (X, M)) hsh), fun U hU hW => ⟨rfl, hN, by rw [hU]; exact hP, va_K.moved hW.alike hK, by rw [hU]; exact (hRO.kept hS).moved hW, hDD⟩⟩ rfl (by simp) hl.1 (by simp [q_v, va_rf, List.map_reverse]) (lv_room (hcat S hS8)) hdg ⟨by simpa using hc1, by simpa using hc2⟩
  intro T hT X
  obtain ⟨w, s9, t, T9, L9, h0, X9, hL9, q1, q2, ⟨⟨hw, hlen, hP9⟩, hz9, hk9⟩, go⟩ := hr9 T hT X
  have hw2 : w = q_rv z v1 := by cases hw; rfl
  subst hw2
  rw [h0] at hz9 hk9
  have hS9 : va_S g.2.2.2.1 s.heap T9.heap (locs ++ L9) := ⟨Nat.le_trans hS.1 (by rw [q1]; exact hz9), fun q a1 a2 => by rw [q1, hk9 q (Nat.lt_of_lt_of_le a1 hS.1) a2]; exact hS.2.1 q a1 a2, fun q hq => (List.mem_append.mp hq).elim (fun a => hS.2.2 q a) (fun a => hL9 q a)⟩
  obtain ⟨t2, a1, b1⟩ := kk v1 M1 v0 M0 e2 r0 T9.heap (locs ++ L9) ls hlen (by rw [q1]; exact hP9) hS9 hl T9 rfl X9
  refine ⟨t2, go t2 ?_, b1⟩
  simp only [q_rv, hz]
  exact a1
theorem qr_calls_v {g : qG} {k : qK} {d : Nat} {y : qMY} {pc : Nat} {Z X : List qSh} {L : List (Option qV)} {S : List qV} {M : qM} {E : Int32 → qM → qR} (o : qOk g d y k) {z : qMY}  {As : List qV} {d1 idx : Nat} {F : qR} (hM : qAM g k.2.1 d1 z X As (X, M) F) (hd : d1 + 1 ≤ d) (hZ : qZS z As.length) (hz : z.2.2.2 = none) (hlk : Cond.methodLink y.1.cls idx z.1 ∈ q_tbl) (hS8 : S.length ≤ 8) (hdg : decode y.2.1 pc = .ok (.invokestatic idx, 3)) (kk : ∀ (r : Int32) (M1 : qM), qAE g k y Z (pc + 3) L S (X, M1) (E r M1)) : qAE g k y Z pc L (As.reverse ++ S) (X, M) (qc F E) := by
  intro v0 M0 e0 r0
  obtain ⟨p, l, e, R, s, m, args, below, meth, c, cells, slots, Q⟩ := k
  obtain ⟨hx, hb, hml, hown, hts, hr, hlocks, hK, hRO, hDD, hR1, hR2, hc1, hc2⟩ := o
  intro H locs ls hN hP hS hl
  obtain ⟨v1, M1, e1, e2⟩ := qc_some e0
  have hMt := hM v1 M1 e1
  have hG := q_goodIn hZ.1.1
  have hR9 : (q_rm d1).frames + 1 ≤ R.frames ∧ 8 + (z.2.2.1 + 11) + (q_rm d1).locals ≤ R.locals := ⟨by show d1 + 1 ≤ R.frames; omega, by show 8 + (z.2.2.1 + 11) + 64 * d1 ≤ R.locals; have := hZ.1.2.2.2.2.2.2; omega⟩
  have hcat : ∀ S1 : List qV, S1.length ≤ 8 → ((S1.map (q_v g.2.2.1)).map fun v => v.category).sum ≤ 8 := by
    intro S1 hS1
    have : ((S1.map (q_v g.2.2.1)).map fun v => v.category).sum = S1.length := by
      clear hS1
      induction S1 with
      | nil => rfl
      | cons a r ih => simp only [List.map_cons, List.sum_cons, List.length_cons, ih, q_v_cat]; omega
    rw [this]; exact hS1
  have hcb := callB_of (R := R) (s := s) (args := args) (own := y.1.cls) (index := idx) (y := z.1) (bytes := z.2.1) (maxL := z.2.2.1) (ret := z.2.2.2) (ws := q_wy z) (rm := q_rm d1) (mc := 0) (ms := 0) (Ts := q_tbl) As.length hts hG rfl rfl rfl (hts _ hZ.1.2.1) (hts _ hlk) ⟨hZ.1.2.2.2.1, hZ.1.2.2.2.2.1, hZ.1.2.2.2.2.2.1⟩ hR9
  have hr9 := va_runS (p := p) (l := l) (e := e) (R := R) (s := s) (m := m) (args := args) (below := below) (meth := meth) (c := c) (H := H) (locs := locs) (cells := cells) (slots := slots) (Ts := q_tbl) (cc := y.2.1) (nL := y.2.2.1) (own := y.1.cls) (As := As.map (q_v g.2.2.1)) (rest := S.map (q_v g.2.2.1)) (g := F0 m pc ls ((As.reverse ++ S).map (q_v g.2.2.1)))
    ⟨hx, hb, hml, hown, hts⟩ hMt ⟨hcb, hts _ hZ.2⟩ ⟨q_blind, fun U hU hW => ⟨rfl, hN, by rw [hU]; exact hP, va_K.moved hW.alike hK, by rw [hU]; exact (hRO.kept hS).moved hW, hDD⟩⟩ rfl (by simp) hl.1 (by simp [List.map_reverse]) (lv_room (hcat S hS8)) hdg ⟨by simpa using hc1, by simpa using hc2⟩
  intro T hT X
  obtain ⟨w, s9, t, T9, L9, h0, X9, hL9, q1, q2, ⟨⟨hw, hlen, hP9⟩, hz9, hk9⟩, go⟩ := hr9 T hT X
  have hw2 : w = q_rv z v1 := by cases hw; rfl
  subst hw2
  rw [h0] at hz9 hk9
  have hS9 : va_S g.2.2.2.1 s.heap T9.heap (locs ++ L9) := ⟨Nat.le_trans hS.1 (by rw [q1]; exact hz9), fun q a1 a2 => by rw [q1, hk9 q (Nat.lt_of_lt_of_le a1 hS.1) a2]; exact hS.2.1 q a1 a2, fun q hq => (List.mem_append.mp hq).elim (fun a => hS.2.2 q a) (fun a => hL9 q a)⟩
  obtain ⟨t2, a1, b1⟩ := kk v1 M1 v0 M0 e2 r0 T9.heap (locs ++ L9) ls hlen (by rw [q1]; exact hP9) hS9 hl T9 rfl X9
  refine ⟨t2, go t2 ?_, b1⟩
  simp only [q_rv, hz]
  exact a1

theorem qsw_is {x : Int32} {D : qR} : ∀ (cs : List (Int32 × qR)), (∃ (n : Nat) (q : Int32 × qR), cs[n]? = some q ∧ x = q.1 ∧ qsw x cs D = q.2) ∨ ((∀ (n : Nat) (q : Int32 × qR), cs[n]? = some q → ¬ x = q.1) ∧ qsw x cs D = D)
  | [] => Or.inr ⟨fun n q h => by simp at h, rfl⟩
  | a :: r => by
    by_cases h : x = a.1
    · exact Or.inl ⟨0, a, rfl, h, if_pos h⟩
    · rcases qsw_is (x := x) (D := D) r with ⟨n, q, h1, h2, h3⟩ | ⟨h1, h2⟩
      · exact Or.inl ⟨n + 1, q, by simpa using h1, h2, (if_neg h).trans h3⟩
      · refine Or.inr ⟨fun n q hq => ?_, (if_neg h).trans h2⟩
        cases n with
        | zero => simp at hq; subst hq; exact h
        | succ n => exact h1 n q (by simpa using hq)
theorem qr_table {g : qG} {k : qK} {d : Nat} {y : qMY} {pc : Nat} {Z X : List qSh} {L : List (Option qV)} {S : List qV} {M : qM} (o : qOk g d y k) {x : Int32} {dflt lo hi : Int} {offs : Array Int} {len tgt : Nat} {cs : List (Int32 × qR)} {D : qR} (hdg : decode y.2.1 pc = .ok (.tableswitch dflt lo hi offs, len)) (hcs : ∀ (n : Nat) (q : Int32 × qR), cs[n]? = some q → q.1.toInt = lo + n) (hlen : lo + cs.length = hi + 1) (ht : (pc : Int) + dflt = (tgt : Int)) (hD : qAE g k y Z tgt L S (X, M) D)
    (hB : ∀ (n : Nat) (q : Int32 × qR), cs[n]? = some q → ∃ (off : Int) (t : Nat), offs[n]? = some off ∧ (pc : Int) + off = (t : Int) ∧ qAE g k y Z t L S (X, M) q.2) : qAE g k y Z pc L (.inl x :: S) (X, M) (qsw x cs D) := by
  intro v0 M0 e0 r0
  obtain ⟨p, l, e, R, s, m, args, below, meth, c, cells, slots, Q⟩ := k
  obtain ⟨hx, hb, hml, hown, hts, hr, hlocks, hK, hRO, hDD, hR1, hR2, hc1, hc2⟩ := o
  intro H locs ls hN hP hS hl
  rcases qsw_is (x := x) (D := D) cs with ⟨n, q, h1, h2, h3⟩ | ⟨h1, h2⟩
  · obtain ⟨off, t, q1, q2, q3⟩ := hB n q h1
    have hn := hcs n q h1
    have hl2 := (List.getElem?_eq_some_iff.mp h1).1
    rw [← h2] at hn
    rw [h3] at e0
    refine lv_tableIn hx hb hdg (by omega) (by omega) (off := off) (tgt := t) ?_ q2 (q3 v0 M0 e0 r0 H locs ls hN hP hS hl)
    rw [show (x.toInt - lo).toNat = n by omega]
    exact q1
  · rw [h2] at e0
    by_cases hin : x.toInt < lo ∨ hi < x.toInt
    · exact lv_tableOut hx hb hdg hin ht (hD v0 M0 e0 r0 H locs ls hN hP hS hl)
    · have hlt : (x.toInt - lo).toNat < cs.length := by omega
      have h9 := List.getElem?_eq_getElem hlt
      have hn := hcs _ _ h9
      exact absurd (Int32.toInt_inj.mp (by rw [hn]; omega)) (h1 _ _ h9)
theorem qr_lookup {g : qG} {k : qK} {d : Nat} {y : qMY} {pc : Nat} {Z X : List qSh} {L : List (Option qV)} {S : List qV} {M : qM} (o : qOk g d y k) {x : Int32} {dflt : Int} {ps : Array (Int × Int)} {len tgt : Nat} {cs : List (Int32 × qR)} {D : qR} (hdg : decode y.2.1 pc = .ok (.lookupswitch dflt ps, len)) (hp : (ps.toList.zip (ps.toList.drop 1)).all (fun (a, next) => a.1 < next.1) = true) (hcs : cs.map (fun q => q.1.toInt) = ps.toList.map (fun q => q.1)) (ht : (pc : Int) + dflt = (tgt : Int)) (hD : qAE g k y Z tgt L S (X, M) D)
    (hB : ∀ (n : Nat) (q : Int32 × qR), cs[n]? = some q → ∃ (t : Nat), (pc : Int) + (ps.toList[n]?.getD (0, 0)).2 = (t : Int) ∧ qAE g k y Z t L S (X, M) q.2) : qAE g k y Z pc L (.inl x :: S) (X, M) (qsw x cs D) := by
  intro v0 M0 e0 r0
  obtain ⟨p, l, e, R, s, m, args, below, meth, c, cells, slots, Q⟩ := k
  obtain ⟨hx, hb, hml, hown, hts, hr, hlocks, hK, hRO, hDD, hR1, hR2, hc1, hc2⟩ := o
  intro H locs ls hN hP hS hl
  have key : ∀ (ws : List (Int × Int)) (zs : List (Int32 × qR)), zs.map (fun q => q.1.toInt) = ws.map (fun q => q.1) → (∀ (n : Nat) (q : Int32 × qR), zs[n]? = some q → ∃ (t : Nat), (pc : Int) + (ws[n]?.getD (0, 0)).2 = (t : Int) ∧ qAE g (p, l, e, R, s, m, args, below, meth, c, cells, slots, Q) y Z t L S (X, M) q.2) → ∃ t : Nat, (pc : Int) + Op.lookupswitch.offset ws dflt x.toInt = (t : Int) ∧ qAE g (p, l, e, R, s, m, args, below, meth, c, cells, slots, Q) y Z t L S (X, M) (qsw x zs D) := by
    intro ws
    induction ws with
    | nil =>
      intro zs h1 _
      have : zs = [] := by simpa using h1
      subst this
      exact ⟨tgt, ht, hD⟩
    | cons w ws ih =>
      intro zs h1 h2
      cases zs with
      | nil => simp at h1
      | cons z zs =>
        simp only [List.map_cons, List.cons.injEq] at h1
        obtain ⟨a, b⟩ := w
        rw [Op.lookupswitch.offset_cons]
        by_cases hz : x = z.1
        · obtain ⟨t, q1, q2⟩ := h2 0 z rfl
          refine ⟨t, ?_, ?_⟩
          · rw [if_pos (by rw [hz]; exact h1.1.symm)]
            simpa using q1
          · show qAE _ _ _ _ _ _ _ _ (if x = z.1 then z.2 else qsw x zs D)
            rw [if_pos hz]
            exact q2
        · rw [if_neg (fun q => hz (Int32.toInt_inj.mp (by rw [← q]; exact h1.1.symm)))]
          obtain ⟨t, q1, q2⟩ := ih zs h1.2 (fun n q hq => by simpa using h2 (n + 1) q (by simpa using hq))
          refine ⟨t, q1, ?_⟩
          show qAE _ _ _ _ _ _ _ _ (if x = z.1 then z.2 else qsw x zs D)
          rw [if_neg hz]
          exact q2
  obtain ⟨t, q1, q2⟩ := key ps.toList cs hcs hB
  exact lv_lookup hx hb hdg hp rfl q1 (q2 v0 M0 e0 r0 H locs ls hN hP hS hl)
/-- System.arraycopy between rows of ints -/
theorem qr_copy {g : qG} {k : qK} {d : Nat} {y : qMY} {pc : Nat} {Z X : List qSh} {L : List (Option qV)} {S : List qV} {M : qM} {E : qR} (o : qOk g d y k) {i j n0 n1 idx : Nat} {sp dp n : Int32} (h0 : X[i]? = some (.inl (0, n0))) (h1 : X[j]? = some (.inl (0, n1))) (hlk : Cond.methodLink y.1.cls idx arraycopyName ∈ q_tbl) (hnat : Cond.native arraycopyName ∈ q_tbl) (hstat : Cond.static arraycopyName ∈ q_tbl) (hini : Cond.initialized "java/lang/System" ∈ q_tbl) (hd : 1 ≤ d) (hw : S.length + (nativeFrameWords "java/lang/System" "arraycopy" 5 + 11) ≤ 64) (hdg : decode y.2.1 pc = .ok (.invokestatic idx, 3))
    (h : qAE g k y Z (pc + 3) L S (X, mr M j (va_cpy (M i) (M j) sp.toNatClampNeg dp.toNatClampNeg n.toNatClampNeg)) E) :
    qAE g k y Z pc L (.inl n :: .inl dp :: .inr (some j) :: .inl sp :: .inr (some i) :: S) (X, M) (if sp < 0 ∨ dp < 0 ∨ n < 0 ∨ n0 < sp.toNatClampNeg + n.toNatClampNeg ∨ n1 < dp.toNatClampNeg + n.toNatClampNeg then none else E) := by
  intro v0 M0 e0 r0
  obtain ⟨p, l, e, R, s, m, args, below, meth, c, cells, slots, Q⟩ := k
  obtain ⟨hx, hb, hml, hown, hts, hr, hlocks, hK, hRO, hDD, hR1, hR2, hc1, hc2⟩ := o
  intro H locs ls hN hP hS hl
  split at e0
  · cases e0
  · rename_i hn
    have hcat : ∀ S1 : List qV, ((S1.map (q_v g.2.2.1)).map fun v => v.category).sum = S1.length := by
      intro S1
      induction S1 with
      | nil => rfl
      | cons a r ih => simp only [List.map_cons, List.sum_cons, List.length_cons, ih, q_v_cat]; omega
    refine va_copyi hx hb (by rw [hml, hl.1]) hown (hts _ hlk) (hts _ hnat) (hts _ hstat) (hts _ hini) hK hP (q_D hDD hN) hS i j 0 0 (q_w_at (g := g) (st := (X, M)) h0) (q_w_at (g := g) (st := (X, M)) h1) rfl rfl rfl (fun z => hn (Or.inl z)) (fun z => hn (Or.inr (Or.inl z))) (fun z => hn (Or.inr (Or.inr (Or.inl z)))) (by omega) (by omega) (fun _ _ => rfl) (by omega) (by rw [hcat]; omega) hdg (fun H1 locs1 hP1 _ hS1 => ?_)
    exact h v0 M0 e0 r0 H1 locs1 ls hN (by rw [← q_w_setm (g := g) (st := (X, M)) h1]; exact hP1) hS1 hl

theorem q_args {ad : Nat → Nat} : ∀ (As : List qV) (i : Nat), lv_args i (As.map (q_v ad)) = q_l ad i (As.map some)
  | [], _ => rfl
  | a :: r, i => by
    simp only [List.map_cons, lv_args, q_l, q_v_cat]
    rw [if_neg (by decide), q_args r (i + 1)]
theorem q_l_none {ad : Nat → Nat} : ∀ (n i : Nat), q_l ad i (List.replicate n none) = []
  | 0, _ => rfl
  | n + 1, i => by simp only [List.replicate_succ, q_l]; exact q_l_none n (i + 1)
theorem q_l_app {ad : Nat → Nat} : ∀ (a b : List (Option qV)) (i : Nat), q_l ad i (a ++ b) = q_l ad i a ++ q_l ad (i + a.length) b
  | [], b, i => by simp [q_l]
  | none :: r, b, i => by
    simp only [List.cons_append, q_l, List.length_cons]
    rw [q_l_app r b (i + 1), show i + (r.length + 1) = i + 1 + r.length by omega]
  | some x :: r, b, i => by
    simp only [List.cons_append, q_l, List.length_cons]
    rw [q_l_app r b (i + 1), show i + (r.length + 1) = i + 1 + r.length by omega]
theorem q_sl_len {ad : Nat → Nat} : ∀ (As : List qV), (lg_sl (As.map (q_v ad))).length = As.length
  | [] => rfl
  | a :: r => by
    have := q_sl_len (ad := ad) r
    simp only [lg_sl, List.map_cons, List.flatMap_cons, q_v_cat, List.length_append, List.length_cons] at *
    rw [if_neg (by decide)]
    simp [this]
    omega
/-- a contract out of a walk from the entry -/
theorem qAM.of {g : qG} {l : Launch} {d n : Nat} {y : qMY} {Z : List qSh} {As : List qV} {st : qSt} {E : qR} (hZ : qZ y n) (hlen : As.length ≤ y.2.2.1)
    (h : ∀ k : qK, k.2.1 = l → qOk g d y k → qAE g k y Z 0 (As.map some ++ List.replicate (y.2.2.1 - As.length) none) [] st E) : qAM g l d y Z As st E := by
  intro v M' hE
  refine Met.ofW (cc := y.2.1) (maxL := y.2.2.1) (ret := y.2.2.2) hZ.2.2.1 rfl ?_
  intro p e s m args below meth c s₁ B hml hv
  obtain ⟨rfl, hN, hP, hK, hRO, hDD⟩ := hv
  have hts := atoms_spec (ws := q_wy y) B.pre
  have hown : s.vm.findClass y.1.cls = some m.cls := findClass_of_methodNamed B.named
  have hlocks := B.notSynchronized
  have hr := B.returns
  have hl := lv_entry (As.map (q_v g.2.2.1)) (n := y.2.2.1) (by rw [q_sl_len]; exact hlen)
  rw [lg_entry_eq]
  generalize (lg_sl (As.map (q_v g.2.2.1)) ++ List.replicate (y.2.2.1 - (lg_sl (As.map (q_v g.2.2.1))).length) Slot.unset).toArray = ls at hl ⊢
  have hl2 : lv_has ls y.2.2.1 (q_l g.2.2.1 0 (As.map some ++ List.replicate (y.2.2.1 - As.length) none)) := by
    rw [q_l_app, q_l_none, List.append_nil, ← q_args]
    exact hl
  refine h (p, l, e, (headSpec (q_wy y) (q_rm d)).room, s, m, _, below, meth, c, 0, 0, _) rfl ⟨B.exec, B.bytes, hml, hown, fun w hw => hts w (List.mem_cons_of_mem _ hw), hr, hlocks, hK, hRO, hDD, Nat.le_refl _, Nat.le_refl _, Nat.le_refl _, Nat.le_refl _⟩ v M' hE ?_ s.heap [] ls hN hP va_S.rf hl2
  intro H locs ls2 pc hN2 hP2 hS2
  cases hy : y.2.2.2 with
  | none =>
    simp only
    intro hdg
    exact W.vret B.exec B.bytes (by rw [hr, hy]) (fun t ht hW => ⟨⟨by simp only [q_rv, hy], hN2, by rw [ht]; exact hP2⟩, hS2.F ht⟩) hS2.2.2 hdg
  | some ty =>
    simp only
    intro hn hdg
    exact W.zret B.exec B.bytes (by rw [hr, hy]) hn (fun t ht hW => ⟨⟨by simp only [q_rv, hy], hN2, by rw [ht]; exact hP2⟩, hS2.F ht⟩) hS2.2.2 hdg
end
section
/-! the cells of both objects, by number -/
def qL (j r : Nat) : List qSh := [.inr (11, [some (some 1), some (some 3), some (some 7), some (some 16), some (some 25), some (some 34), some (some 51), some (some 52), some (some 53), some (some 56), some (some 64), some (some 70), none]), .inr (9, [some (some 2), none, none, none, none]), .inl (0, 260), .inr (2, [some (some 4), some (some 5), some (some 6), none]), .inl (0, 12), .inl (0, 12), .inl (0, 12), .inr (10, [some (some 8), some (some 9), some (some 10), some (some 11), some (some 12), some (some 13), some (some 14), some (some 15), none, none]), .inl (0, 8), .inl (0, 96), .inl (0, 96), .inl (0, 96), .inl (0, 320), .inl (0, 320), .inl (0, 8), .inl (0, 8), .inr (10, [some (some 17), some (some 18), some (some 19), some (some 20), some (some 21), some (some 22), some (some 23), some (some 24), none, none]), .inl (0, 8), .inl (0, 96), .inl (0, 96), .inl (0, 96), .inl (0, 320), .inl (0, 320), .inl (0, 8), .inl (0, 8), .inr (10, [some (some 26), some (some 27), some (some 28), some (some 29), some (some 30), some (some 31), some (some 32), some (some 33), none, none]), .inl (0, 8), .inl (0, 96), .inl (0, 96), .inl (0, 96), .inl (0, 320), .inl (0, 320), .inl (0, 8), .inl (0, 8), .inr (1, [some (some 3), some (some 35), some (some 36), some (some j), none]), .inl (0, 12), .inl (0, 64), .inr (3, [some (some 38), some (some 39), some (some 40), some (some 41), some (some 42), some (some 43), none, none]), .inl (0, 240), .inl (0, 240), .inl (0, 16), .inl (0, 16), .inl (0, 16), .inl (0, 16), .inr (3, [some (some 45), some (some 46), some (some 47), some (some 48), some (some 49), some (some 50), none, none]), .inl (0, 240), .inl (0, 240), .inl (0, 16), .inl (0, 16), .inl (0, 16), .inl (0, 16), .inr (0, [some (some 3), some (some 34), none, none, none, none, none, none, none, none]), .inr (4, [some (some 1), some (some r)]), .inr (6, [some (some 1), some (some 54), some (some 55), none]), .inl (0, 40), .inl (0, 40), .inr (7, [some (some 3), some (some 34), some (some 51), some (some 57), some (some 58), some (some 59), some (some 60), some (some 61), some (some 62), some (some 63), none, none, none, none]), .inl (0, 4), .inl (0, 4), .inl (0, 4), .inl (0, 4), .inl (0, 4), .inl (0, 16), .inl (0, 16384), .inr (5, [some (some 3), some (some 34), some (some 51), some (some 65), some (some 66), some (some 67), some (some 68), some (some 69), some (some 25), none, none, none, none]), .inl (0, 8), .inl (0, 3), .inl (0, 768), .inl (0, 12), .inl (0, 3), .inr (8, [some (some 3), some (some 34), some (some 71), some (some 72), some (some 73), some (some 74), some (some 75), some (some 76), none, none, none, none]), .inl (0, 4), .inl (0, 4), .inl (0, 10), .inl (0, 10), .inl (0, 4), .inl (0, 4), .inr (12, [some (some 78), some (some 79), some (some 80), some (some 81), some (some 82), some (some 83), none, some (some 84), none, none, none, none, none, none, none, none, none, none, some (some 85), some (some 86), some (some 87), some (some 88), some (some 89), some (some 90), some (some 91), some (some 92), some (some 93), some (some 94), some (some 95), some (some 96), some (some 97), some (some 98), some (some 99), some (some 100), some (some 101), none, none, none, none, none, none, none, none, none, none, some (some 102), some (some 103), some (some 104), some (some 105), some (some 106), some (some 107), some (some 108), some (some 109), some (some 110), some (some 111), some (some 112), some (some 113), some (some 114), some (some 115), none, none, none, some (some 116), some (some 117), some (some 118), some (some 119), some (some 120), none]), .inl (0, 954), .inl (0, 954), .inl (0, 954), .inl (0, 13), .inl (0, 13), .inl (0, 13), .inl (1, 260), .inl (0, 260), .inl (0, 260), .inl (0, 16), .inl (0, 16), .inl (0, 16), .inl (0, 16), .inl (0, 260), .inl (0, 16), .inl (0, 16), .inl (0, 16), .inl (0, 16), .inl (0, 260), .inl (0, 12), .inl (0, 40), .inl (0, 40), .inl (0, 3), .inl (0, 3), .inl (0, 20), .inl (0, 20), .inl (0, 20), .inl (0, 4), .inl (0, 4), .inl (0, 4), .inl (0, 4), .inl (0, 4), .inl (2, 160000), .inl (0, 8), .inl (0, 3), .inl (0, 12), .inl (0, 12), .inl (0, 12), .inl (0, 4), .inl (0, 4), .inl (0, 4), .inl (2, 256), .inl (2, 2048)]
theorem qL_len (j r : Nat) : (qL j r).length = 121 := rfl
theorem sh0 (j r : Nat) : (qL j r)[0]? = some (.inr (11, [some (some 1), some (some 3), some (some 7), some (some 16), some (some 25), some (some 34), some (some 51), some (some 52), some (some 53), some (some 56), some (some 64), some (some 70), none])) := rfl
theorem sh1 (j r : Nat) : (qL j r)[1]? = some (.inr (9, [some (some 2), none, none, none, none])) := rfl
theorem sh2 (j r : Nat) : (qL j r)[2]? = some (.inl (0, 260)) := rfl
theorem sh3 (j r : Nat) : (qL j r)[3]? = some (.inr (2, [some (some 4), some (some 5), some (some 6), none])) := rfl
theorem sh4 (j r : Nat) : (qL j r)[4]? = some (.inl (0, 12)) := rfl
theorem sh5 (j r : Nat) : (qL j r)[5]? = some (.inl (0, 12)) := rfl
theorem sh6 (j r : Nat) : (qL j r)[6]? = some (.inl (0, 12)) := rfl
theorem sh7 (j r : Nat) : (qL j r)[7]? = some (.inr (10, [some (some 8), some (some 9), some (some 10), some (some 11), some (some 12), some (some 13), some (some 14), some (some 15), none, none])) := rfl
theorem sh8 (j r : Nat) : (qL j r)[8]? = some (.inl (0, 8)) := rfl
theorem sh9 (j r : Nat) : (qL j r)[9]? = some (.inl (0, 96)) := rfl
theorem sh10 (j r : Nat) : (qL j r)[10]? = some (.inl (0, 96)) := rfl
theorem sh11 (j r : Nat) : (qL j r)[11]? = some (.inl (0, 96)) := rfl
theorem sh12 (j r : Nat) : (qL j r)[12]? = some (.inl (0, 320)) := rfl
theorem sh13 (j r : Nat) : (qL j r)[13]? = some (.inl (0, 320)) := rfl
theorem sh14 (j r : Nat) : (qL j r)[14]? = some (.inl (0, 8)) := rfl
theorem sh15 (j r : Nat) : (qL j r)[15]? = some (.inl (0, 8)) := rfl
theorem sh16 (j r : Nat) : (qL j r)[16]? = some (.inr (10, [some (some 17), some (some 18), some (some 19), some (some 20), some (some 21), some (some 22), some (some 23), some (some 24), none, none])) := rfl
theorem sh17 (j r : Nat) : (qL j r)[17]? = some (.inl (0, 8)) := rfl
theorem sh18 (j r : Nat) : (qL j r)[18]? = some (.inl (0, 96)) := rfl
theorem sh19 (j r : Nat) : (qL j r)[19]? = some (.inl (0, 96)) := rfl
theorem sh20 (j r : Nat) : (qL j r)[20]? = some (.inl (0, 96)) := rfl
theorem sh21 (j r : Nat) : (qL j r)[21]? = some (.inl (0, 320)) := rfl
theorem sh22 (j r : Nat) : (qL j r)[22]? = some (.inl (0, 320)) := rfl
theorem sh23 (j r : Nat) : (qL j r)[23]? = some (.inl (0, 8)) := rfl
theorem sh24 (j r : Nat) : (qL j r)[24]? = some (.inl (0, 8)) := rfl
theorem sh25 (j r : Nat) : (qL j r)[25]? = some (.inr (10, [some (some 26), some (some 27), some (some 28), some (some 29), some (some 30), some (some 31), some (some 32), some (some 33), none, none])) := rfl
theorem sh26 (j r : Nat) : (qL j r)[26]? = some (.inl (0, 8)) := rfl
theorem sh27 (j r : Nat) : (qL j r)[27]? = some (.inl (0, 96)) := rfl
theorem sh28 (j r : Nat) : (qL j r)[28]? = some (.inl (0, 96)) := rfl
theorem sh29 (j r : Nat) : (qL j r)[29]? = some (.inl (0, 96)) := rfl
theorem sh30 (j r : Nat) : (qL j r)[30]? = some (.inl (0, 320)) := rfl
theorem sh31 (j r : Nat) : (qL j r)[31]? = some (.inl (0, 320)) := rfl
theorem sh32 (j r : Nat) : (qL j r)[32]? = some (.inl (0, 8)) := rfl
theorem sh33 (j r : Nat) : (qL j r)[33]? = some (.inl (0, 8)) := rfl
theorem sh34 (j r : Nat) : (qL j r)[34]? = some (.inr (1, [some (some 3), some (some 35), some (some 36), some (some j), none])) := rfl
theorem sh35 (j r : Nat) : (qL j r)[35]? = some (.inl (0, 12)) := rfl
theorem sh36 (j r : Nat) : (qL j r)[36]? = some (.inl (0, 64)) := rfl
theorem sh37 (j r : Nat) : (qL j r)[37]? = some (.inr (3, [some (some 38), some (some 39), some (some 40), some (some 41), some (some 42), some (some 43), none, none])) := rfl
theorem sh38 (j r : Nat) : (qL j r)[38]? = some (.inl (0, 240)) := rfl
theorem sh39 (j r : Nat) : (qL j r)[39]? = some (.inl (0, 240)) := rfl
theorem sh40 (j r : Nat) : (qL j r)[40]? = some (.inl (0, 16)) := rfl
theorem sh41 (j r : Nat) : (qL j r)[41]? = some (.inl (0, 16)) := rfl
theorem sh42 (j r : Nat) : (qL j r)[42]? = some (.inl (0, 16)) := rfl
theorem sh43 (j r : Nat) : (qL j r)[43]? = some (.inl (0, 16)) := rfl
theorem sh44 (j r : Nat) : (qL j r)[44]? = some (.inr (3, [some (some 45), some (some 46), some (some 47), some (some 48), some (some 49), some (some 50), none, none])) := rfl
theorem sh45 (j r : Nat) : (qL j r)[45]? = some (.inl (0, 240)) := rfl
theorem sh46 (j r : Nat) : (qL j r)[46]? = some (.inl (0, 240)) := rfl
theorem sh47 (j r : Nat) : (qL j r)[47]? = some (.inl (0, 16)) := rfl
theorem sh48 (j r : Nat) : (qL j r)[48]? = some (.inl (0, 16)) := rfl
theorem sh49 (j r : Nat) : (qL j r)[49]? = some (.inl (0, 16)) := rfl
theorem sh50 (j r : Nat) : (qL j r)[50]? = some (.inl (0, 16)) := rfl
theorem sh51 (j r : Nat) : (qL j r)[51]? = some (.inr (0, [some (some 3), some (some 34), none, none, none, none, none, none, none, none])) := rfl
theorem sh52 (j r : Nat) : (qL j r)[52]? = some (.inr (4, [some (some 1), some (some r)])) := rfl
theorem sh53 (j r : Nat) : (qL j r)[53]? = some (.inr (6, [some (some 1), some (some 54), some (some 55), none])) := rfl
theorem sh54 (j r : Nat) : (qL j r)[54]? = some (.inl (0, 40)) := rfl
theorem sh55 (j r : Nat) : (qL j r)[55]? = some (.inl (0, 40)) := rfl
theorem sh56 (j r : Nat) : (qL j r)[56]? = some (.inr (7, [some (some 3), some (some 34), some (some 51), some (some 57), some (some 58), some (some 59), some (some 60), some (some 61), some (some 62), some (some 63), none, none, none, none])) := rfl
theorem sh57 (j r : Nat) : (qL j r)[57]? = some (.inl (0, 4)) := rfl
theorem sh58 (j r : Nat) : (qL j r)[58]? = some (.inl (0, 4)) := rfl
theorem sh59 (j r : Nat) : (qL j r)[59]? = some (.inl (0, 4)) := rfl
theorem sh60 (j r : Nat) : (qL j r)[60]? = some (.inl (0, 4)) := rfl
theorem sh61 (j r : Nat) : (qL j r)[61]? = some (.inl (0, 4)) := rfl
theorem sh62 (j r : Nat) : (qL j r)[62]? = some (.inl (0, 16)) := rfl
theorem sh63 (j r : Nat) : (qL j r)[63]? = some (.inl (0, 16384)) := rfl
theorem sh64 (j r : Nat) : (qL j r)[64]? = some (.inr (5, [some (some 3), some (some 34), some (some 51), some (some 65), some (some 66), some (some 67), some (some 68), some (some 69), some (some 25), none, none, none, none])) := rfl
theorem sh65 (j r : Nat) : (qL j r)[65]? = some (.inl (0, 8)) := rfl
theorem sh66 (j r : Nat) : (qL j r)[66]? = some (.inl (0, 3)) := rfl
theorem sh67 (j r : Nat) : (qL j r)[67]? = some (.inl (0, 768)) := rfl
theorem sh68 (j r : Nat) : (qL j r)[68]? = some (.inl (0, 12)) := rfl
theorem sh69 (j r : Nat) : (qL j r)[69]? = some (.inl (0, 3)) := rfl
theorem sh70 (j r : Nat) : (qL j r)[70]? = some (.inr (8, [some (some 3), some (some 34), some (some 71), some (some 72), some (some 73), some (some 74), some (some 75), some (some 76), none, none, none, none])) := rfl
theorem sh71 (j r : Nat) : (qL j r)[71]? = some (.inl (0, 4)) := rfl
theorem sh72 (j r : Nat) : (qL j r)[72]? = some (.inl (0, 4)) := rfl
theorem sh73 (j r : Nat) : (qL j r)[73]? = some (.inl (0, 10)) := rfl
theorem sh74 (j r : Nat) : (qL j r)[74]? = some (.inl (0, 10)) := rfl
theorem sh75 (j r : Nat) : (qL j r)[75]? = some (.inl (0, 4)) := rfl
theorem sh76 (j r : Nat) : (qL j r)[76]? = some (.inl (0, 4)) := rfl
theorem sh77 (j r : Nat) : (qL j r)[77]? = some (.inr (12, [some (some 78), some (some 79), some (some 80), some (some 81), some (some 82), some (some 83), none, some (some 84), none, none, none, none, none, none, none, none, none, none, some (some 85), some (some 86), some (some 87), some (some 88), some (some 89), some (some 90), some (some 91), some (some 92), some (some 93), some (some 94), some (some 95), some (some 96), some (some 97), some (some 98), some (some 99), some (some 100), some (some 101), none, none, none, none, none, none, none, none, none, none, some (some 102), some (some 103), some (some 104), some (some 105), some (some 106), some (some 107), some (some 108), some (some 109), some (some 110), some (some 111), some (some 112), some (some 113), some (some 114), some (some 115), none, none, none, some (some 116), some (some 117), some (some 118), some (some 119), some (some 120), none])) := rfl
theorem sh78 (j r : Nat) : (qL j r)[78]? = some (.inl (0, 954)) := rfl
theorem sh79 (j r : Nat) : (qL j r)[79]? = some (.inl (0, 954)) := rfl
theorem sh80 (j r : Nat) : (qL j r)[80]? = some (.inl (0, 954)) := rfl
theorem sh81 (j r : Nat) : (qL j r)[81]? = some (.inl (0, 13)) := rfl
theorem sh82 (j r : Nat) : (qL j r)[82]? = some (.inl (0, 13)) := rfl
theorem sh83 (j r : Nat) : (qL j r)[83]? = some (.inl (0, 13)) := rfl
theorem sh84 (j r : Nat) : (qL j r)[84]? = some (.inl (1, 260)) := rfl
theorem sh85 (j r : Nat) : (qL j r)[85]? = some (.inl (0, 260)) := rfl
theorem sh86 (j r : Nat) : (qL j r)[86]? = some (.inl (0, 260)) := rfl
theorem sh87 (j r : Nat) : (qL j r)[87]? = some (.inl (0, 16)) := rfl
theorem sh88 (j r : Nat) : (qL j r)[88]? = some (.inl (0, 16)) := rfl
theorem sh89 (j r : Nat) : (qL j r)[89]? = some (.inl (0, 16)) := rfl
theorem sh90 (j r : Nat) : (qL j r)[90]? = some (.inl (0, 16)) := rfl
theorem sh91 (j r : Nat) : (qL j r)[91]? = some (.inl (0, 260)) := rfl
theorem sh92 (j r : Nat) : (qL j r)[92]? = some (.inl (0, 16)) := rfl
theorem sh93 (j r : Nat) : (qL j r)[93]? = some (.inl (0, 16)) := rfl
theorem sh94 (j r : Nat) : (qL j r)[94]? = some (.inl (0, 16)) := rfl
theorem sh95 (j r : Nat) : (qL j r)[95]? = some (.inl (0, 16)) := rfl
theorem sh96 (j r : Nat) : (qL j r)[96]? = some (.inl (0, 260)) := rfl
theorem sh97 (j r : Nat) : (qL j r)[97]? = some (.inl (0, 12)) := rfl
theorem sh98 (j r : Nat) : (qL j r)[98]? = some (.inl (0, 40)) := rfl
theorem sh99 (j r : Nat) : (qL j r)[99]? = some (.inl (0, 40)) := rfl
theorem sh100 (j r : Nat) : (qL j r)[100]? = some (.inl (0, 3)) := rfl
theorem sh101 (j r : Nat) : (qL j r)[101]? = some (.inl (0, 3)) := rfl
theorem sh102 (j r : Nat) : (qL j r)[102]? = some (.inl (0, 20)) := rfl
theorem sh103 (j r : Nat) : (qL j r)[103]? = some (.inl (0, 20)) := rfl
theorem sh104 (j r : Nat) : (qL j r)[104]? = some (.inl (0, 20)) := rfl
theorem sh105 (j r : Nat) : (qL j r)[105]? = some (.inl (0, 4)) := rfl
theorem sh106 (j r : Nat) : (qL j r)[106]? = some (.inl (0, 4)) := rfl
theorem sh107 (j r : Nat) : (qL j r)[107]? = some (.inl (0, 4)) := rfl
theorem sh108 (j r : Nat) : (qL j r)[108]? = some (.inl (0, 4)) := rfl
theorem sh109 (j r : Nat) : (qL j r)[109]? = some (.inl (0, 4)) := rfl
theorem sh110 (j r : Nat) : (qL j r)[110]? = some (.inl (2, 160000)) := rfl
theorem sh111 (j r : Nat) : (qL j r)[111]? = some (.inl (0, 8)) := rfl
theorem sh112 (j r : Nat) : (qL j r)[112]? = some (.inl (0, 3)) := rfl
theorem sh113 (j r : Nat) : (qL j r)[113]? = some (.inl (0, 12)) := rfl
theorem sh114 (j r : Nat) : (qL j r)[114]? = some (.inl (0, 12)) := rfl
theorem sh115 (j r : Nat) : (qL j r)[115]? = some (.inl (0, 12)) := rfl
theorem sh116 (j r : Nat) : (qL j r)[116]? = some (.inl (0, 4)) := rfl
theorem sh117 (j r : Nat) : (qL j r)[117]? = some (.inl (0, 4)) := rfl
theorem sh118 (j r : Nat) : (qL j r)[118]? = some (.inl (0, 4)) := rfl
theorem sh119 (j r : Nat) : (qL j r)[119]? = some (.inl (2, 256)) := rfl
theorem sh120 (j r : Nat) : (qL j r)[120]? = some (.inl (2, 2048)) := rfl
def q_isTown (t : Nat) : Prop := t = 7 ∨ t = 16 ∨ t = 25
def q_isLaw (w : Nat) : Prop := w = 37 ∨ w = 44
theorem shT0 (j r : Nat) {t : Nat} (h : q_isTown t) : (qL j r)[t]? = some (.inr (10, [some (some (t + 1)), some (some (t + 2)), some (some (t + 3)), some (some (t + 4)), some (some (t + 5)), some (some (t + 6)), some (some (t + 7)), some (some (t + 8)), none, none])) := by rcases h with rfl | rfl | rfl <;> rfl
theorem shT1 (j r : Nat) {t : Nat} (h : q_isTown t) : (qL j r)[t + 1]? = some (.inl (0, 8)) := by rcases h with rfl | rfl | rfl <;> rfl
theorem shT2 (j r : Nat) {t : Nat} (h : q_isTown t) : (qL j r)[t + 2]? = some (.inl (0, 96)) := by rcases h with rfl | rfl | rfl <;> rfl
theorem shT3 (j r : Nat) {t : Nat} (h : q_isTown t) : (qL j r)[t + 3]? = some (.inl (0, 96)) := by rcases h with rfl | rfl | rfl <;> rfl
theorem shT4 (j r : Nat) {t : Nat} (h : q_isTown t) : (qL j r)[t + 4]? = some (.inl (0, 96)) := by rcases h with rfl | rfl | rfl <;> rfl
theorem shT5 (j r : Nat) {t : Nat} (h : q_isTown t) : (qL j r)[t + 5]? = some (.inl (0, 320)) := by rcases h with rfl | rfl | rfl <;> rfl
theorem shT6 (j r : Nat) {t : Nat} (h : q_isTown t) : (qL j r)[t + 6]? = some (.inl (0, 320)) := by rcases h with rfl | rfl | rfl <;> rfl
theorem shT7 (j r : Nat) {t : Nat} (h : q_isTown t) : (qL j r)[t + 7]? = some (.inl (0, 8)) := by rcases h with rfl | rfl | rfl <;> rfl
theorem shT8 (j r : Nat) {t : Nat} (h : q_isTown t) : (qL j r)[t + 8]? = some (.inl (0, 8)) := by rcases h with rfl | rfl | rfl <;> rfl
theorem shW0 (j r : Nat) {w : Nat} (h : q_isLaw w) : (qL j r)[w]? = some (.inr (3, [some (some (w + 1)), some (some (w + 2)), some (some (w + 3)), some (some (w + 4)), some (some (w + 5)), some (some (w + 6)), none, none])) := by rcases h with rfl | rfl <;> rfl
theorem shW1 (j r : Nat) {w : Nat} (h : q_isLaw w) : (qL j r)[w + 1]? = some (.inl (0, 240)) := by rcases h with rfl | rfl <;> rfl
theorem shW2 (j r : Nat) {w : Nat} (h : q_isLaw w) : (qL j r)[w + 2]? = some (.inl (0, 240)) := by rcases h with rfl | rfl <;> rfl
theorem shW3 (j r : Nat) {w : Nat} (h : q_isLaw w) : (qL j r)[w + 3]? = some (.inl (0, 16)) := by rcases h with rfl | rfl <;> rfl
theorem shW4 (j r : Nat) {w : Nat} (h : q_isLaw w) : (qL j r)[w + 4]? = some (.inl (0, 16)) := by rcases h with rfl | rfl <;> rfl
theorem shW5 (j r : Nat) {w : Nat} (h : q_isLaw w) : (qL j r)[w + 5]? = some (.inl (0, 16)) := by rcases h with rfl | rfl <;> rfl
theorem shW6 (j r : Nat) {w : Nat} (h : q_isLaw w) : (qL j r)[w + 6]? = some (.inl (0, 16)) := by rcases h with rfl | rfl <;> rfl
end
section
theorem cf_X0 : qC 0 RX0 TX0 10 := ⟨rfl, (by decide +kernel), ⟨tyX0, tyX0_ok⟩, nmX0⟩
theorem cf_X1 : qC 1 RX1 TX1 5 := ⟨rfl, (by decide +kernel), ⟨tyX1, tyX1_ok⟩, nmX1⟩
theorem cf_X2 : qC 2 RX2 TX2 4 := ⟨rfl, (by decide +kernel), ⟨tyX2, tyX2_ok⟩, nmX2⟩
theorem cf_X3 : qC 3 RX3 TX3 8 := ⟨rfl, (by decide +kernel), ⟨tyX3, tyX3_ok⟩, nmX3⟩
theorem cf_X4 : qC 4 RX4 TX4 2 := ⟨rfl, (by decide +kernel), ⟨tyX4, tyX4_ok⟩, nmX4⟩
theorem cf_X5 : qC 5 RX5 TX5 13 := ⟨rfl, (by decide +kernel), ⟨tyX5, tyX5_ok⟩, nmX5⟩
theorem cf_X6 : qC 6 RX6 TX6 4 := ⟨rfl, (by decide +kernel), ⟨tyX6, tyX6_ok⟩, nmX6⟩
theorem cf_X7 : qC 7 RX7 TX7 14 := ⟨rfl, (by decide +kernel), ⟨tyX7, tyX7_ok⟩, nmX7⟩
theorem cf_X8 : qC 8 RX8 TX8 12 := ⟨rfl, (by decide +kernel), ⟨tyX8, tyX8_ok⟩, nmX8⟩
theorem cf_X9 : qC 9 RX9 TX9 5 := ⟨rfl, (by decide +kernel), ⟨tyX9, tyX9_ok⟩, nmX9⟩
theorem cf_X10 : qC 10 RX10 TX10 10 := ⟨rfl, (by decide +kernel), ⟨tyX10, tyX10_ok⟩, nmX10⟩
theorem cf_X11 : qC 11 RX11 TX11 13 := ⟨rfl, (by decide +kernel), ⟨tyX11, tyX11_ok⟩, nmX11⟩
theorem cf_X12 : qC 12 RX12 TX12 68 := ⟨rfl, (by decide +kernel), ⟨tyX12, tyX12_ok⟩, nmX12⟩
end
section
set_option maxRecDepth 100000 in
theorem fl_X11_10 : Cond.fieldLink RX11 10 "SecondTry" "tape" "LSecondTry$Tape;" ∈ q_tbl := q_in 432 rfl rfl
set_option maxRecDepth 100000 in
theorem fl_X11_19 : Cond.fieldLink RX11 19 "SecondTry" "kinds" "LSecondTry$Kinds;" ∈ q_tbl := q_in 433 rfl rfl
set_option maxRecDepth 100000 in
theorem fl_X11_26 : Cond.fieldLink RX11 26 "SecondTry" "town" "LSecondTry$Town;" ∈ q_tbl := q_in 434 rfl rfl
set_option maxRecDepth 100000 in
theorem fl_X11_30 : Cond.fieldLink RX11 30 "SecondTry" "keptTown" "LSecondTry$Town;" ∈ q_tbl := q_in 435 rfl rfl
set_option maxRecDepth 100000 in
theorem fl_X11_33 : Cond.fieldLink RX11 33 "SecondTry" "triedTown" "LSecondTry$Town;" ∈ q_tbl := q_in 436 rfl rfl
set_option maxRecDepth 100000 in
theorem fl_X11_41 : Cond.fieldLink RX11 41 "SecondTry" "judge" "LSecondTry$Judge;" ∈ q_tbl := q_in 437 rfl rfl
set_option maxRecDepth 100000 in
theorem fl_X11_50 : Cond.fieldLink RX11 50 "SecondTry" "clerk" "LSecondTry$Clerk;" ∈ q_tbl := q_in 438 rfl rfl
set_option maxRecDepth 100000 in
theorem fl_X11_59 : Cond.fieldLink RX11 59 "SecondTry" "lawReader" "LSecondTry$LawReader;" ∈ q_tbl := q_in 439 rfl rfl
set_option maxRecDepth 100000 in
theorem fl_X11_66 : Cond.fieldLink RX11 66 "SecondTry" "planReader" "LSecondTry$PlanReader;" ∈ q_tbl := q_in 440 rfl rfl
set_option maxRecDepth 100000 in
theorem fl_X11_75 : Cond.fieldLink RX11 75 "SecondTry" "search" "LSecondTry$Search;" ∈ q_tbl := q_in 441 rfl rfl
set_option maxRecDepth 100000 in
theorem fl_X11_84 : Cond.fieldLink RX11 84 "SecondTry" "parting" "LSecondTry$Parting;" ∈ q_tbl := q_in 442 rfl rfl
set_option maxRecDepth 100000 in
theorem fl_X11_91 : Cond.fieldLink RX11 91 "SecondTry" "stranger" "LSecondTry$Stranger;" ∈ q_tbl := q_in 443 rfl rfl
set_option maxRecDepth 100000 in
theorem fl_X11_95 : Cond.fieldLink RX11 95 "SecondTry" "isKept" "Z" ∈ q_tbl := q_in 444 rfl rfl
set_option maxRecDepth 100000 in
theorem fl_X11_104 : Cond.fieldLink RX11 104 "SecondTry$Town" "people" "I" ∈ q_tbl := q_in 118 rfl rfl
set_option maxRecDepth 100000 in
theorem fl_X11_108 : Cond.fieldLink RX11 108 "SecondTry$Town" "coins" "[I" ∈ q_tbl := q_in 94 rfl rfl
set_option maxRecDepth 100000 in
theorem fl_X11_112 : Cond.fieldLink RX11 112 "SecondTry$Tape" "size" "I" ∈ q_tbl := q_in 34 rfl rfl
set_option maxRecDepth 100000 in
theorem fl_X11_126 : Cond.fieldLink RX11 126 "SecondTry$Judge" "law" "LSecondTry$Law;" ∈ q_tbl := q_in 198 rfl rfl
set_option maxRecDepth 100000 in
theorem fl_X11_130 : Cond.fieldLink RX11 130 "SecondTry$LawReader" "law" "LSecondTry$Law;" ∈ q_tbl := q_in 261 rfl rfl
set_option maxRecDepth 100000 in
theorem fl_X11_156 : Cond.fieldLink RX11 156 "SecondTry$Clerk" "daysCounted" "I" ∈ q_tbl := q_in 225 rfl rfl
set_option maxRecDepth 100000 in
theorem fl_X11_169 : Cond.fieldLink RX11 169 "SecondTry$Town" "tries" "[I" ∈ q_tbl := q_in 100 rfl rfl
set_option maxRecDepth 100000 in
theorem fl_X11_172 : Cond.fieldLink RX11 172 "SecondTry$Town" "counted" "[I" ∈ q_tbl := q_in 108 rfl rfl
set_option maxRecDepth 100000 in
theorem fl_X11_175 : Cond.fieldLink RX11 175 "SecondTry$Town" "last" "[I" ∈ q_tbl := q_in 103 rfl rfl
set_option maxRecDepth 100000 in
theorem fl_X11_178 : Cond.fieldLink RX11 178 "SecondTry$Clerk" "foundOld" "I" ∈ q_tbl := q_in 220 rfl rfl
set_option maxRecDepth 100000 in
theorem fl_X11_181 : Cond.fieldLink RX11 181 "SecondTry$Clerk" "foundVoid" "I" ∈ q_tbl := q_in 222 rfl rfl
set_option maxRecDepth 100000 in
theorem fl_X11_184 : Cond.fieldLink RX11 184 "SecondTry$Town" "day" "I" ∈ q_tbl := q_in 123 rfl rfl
set_option maxRecDepth 100000 in
theorem fl_X11_208 : Cond.fieldLink RX11 208 "SecondTry$Search" "bestCoins" "I" ∈ q_tbl := q_in 308 rfl rfl
set_option maxRecDepth 100000 in
theorem fl_X11_211 : Cond.fieldLink RX11 211 "SecondTry$Search" "bestHours" "I" ∈ q_tbl := q_in 310 rfl rfl
set_option maxRecDepth 100000 in
theorem fl_X11_235 : Cond.fieldLink RX11 235 "SecondTry$Parting" "bestHours" "I" ∈ q_tbl := q_in 358 rfl rfl
set_option maxRecDepth 100000 in
theorem fl_X11_249 : Cond.fieldLink RX11 249 "SecondTry$Stranger" "fitting" "I" ∈ q_tbl := q_in 404 rfl rfl
set_option maxRecDepth 100000 in
theorem fl_X11_252 : Cond.fieldLink RX11 252 "SecondTry$Stranger" "first" "I" ∈ q_tbl := q_in 406 rfl rfl
set_option maxRecDepth 100000 in
theorem fl_X11_269 : Cond.fieldLink RX11 269 "SecondTry$Kinds" "told" "I" ∈ q_tbl := q_in 77 rfl rfl
set_option maxRecDepth 100000 in
theorem fl_X11_272 : Cond.fieldLink RX11 272 "SecondTry$Law" "clauses" "I" ∈ q_tbl := q_in 176 rfl rfl
set_option maxRecDepth 100000 in
theorem fl_X11_283 : Cond.fieldLink RX11 283 "SecondTry$Kinds" "hours" "[I" ∈ q_tbl := q_in 65 rfl rfl
set_option maxRecDepth 100000 in
theorem fl_X11_286 : Cond.fieldLink RX11 286 "SecondTry$Kinds" "marks" "[I" ∈ q_tbl := q_in 70 rfl rfl
set_option maxRecDepth 100000 in
theorem fl_X11_289 : Cond.fieldLink RX11 289 "SecondTry$Kinds" "needs" "[I" ∈ q_tbl := q_in 75 rfl rfl
set_option maxRecDepth 100000 in
theorem fl_X0_9 : Cond.fieldLink RX0 9 "SecondTry$Clerk" "kinds" "LSecondTry$Kinds;" ∈ q_tbl := q_in 217 rfl rfl
set_option maxRecDepth 100000 in
theorem fl_X0_15 : Cond.fieldLink RX0 15 "SecondTry$Clerk" "judge" "LSecondTry$Judge;" ∈ q_tbl := q_in 218 rfl rfl
set_option maxRecDepth 100000 in
theorem fl_X0_19 : Cond.fieldLink RX0 19 "SecondTry$Town" "day" "I" ∈ q_tbl := q_in 119 rfl rfl
set_option maxRecDepth 100000 in
theorem fl_X0_38 : Cond.fieldLink RX0 38 "SecondTry$Clerk" "foundOld" "I" ∈ q_tbl := q_in 219 rfl rfl
set_option maxRecDepth 100000 in
theorem fl_X0_49 : Cond.fieldLink RX0 49 "SecondTry$Clerk" "foundVoid" "I" ∈ q_tbl := q_in 221 rfl rfl
set_option maxRecDepth 100000 in
theorem fl_X0_56 : Cond.fieldLink RX0 56 "SecondTry$Kinds" "needs" "[I" ∈ q_tbl := q_in 72 rfl rfl
set_option maxRecDepth 100000 in
theorem fl_X0_73 : Cond.fieldLink RX0 73 "SecondTry$Town" "tries" "[I" ∈ q_tbl := q_in 97 rfl rfl
set_option maxRecDepth 100000 in
theorem fl_X0_80 : Cond.fieldLink RX0 80 "SecondTry$Town" "coins" "[I" ∈ q_tbl := q_in 95 rfl rfl
set_option maxRecDepth 100000 in
theorem fl_X0_89 : Cond.fieldLink RX0 89 "SecondTry$Clerk" "daysTries" "I" ∈ q_tbl := q_in 223 rfl rfl
set_option maxRecDepth 100000 in
theorem fl_X0_92 : Cond.fieldLink RX0 92 "SecondTry$Clerk" "daysCounted" "I" ∈ q_tbl := q_in 224 rfl rfl
set_option maxRecDepth 100000 in
theorem fl_X0_95 : Cond.fieldLink RX0 95 "SecondTry$Clerk" "daysHours" "I" ∈ q_tbl := q_in 226 rfl rfl
set_option maxRecDepth 100000 in
theorem fl_X0_98 : Cond.fieldLink RX0 98 "SecondTry$Clerk" "stallDay" "I" ∈ q_tbl := q_in 227 rfl rfl
set_option maxRecDepth 100000 in
theorem fl_X0_101 : Cond.fieldLink RX0 101 "SecondTry$Clerk" "stallPerson" "I" ∈ q_tbl := q_in 228 rfl rfl
set_option maxRecDepth 100000 in
theorem fl_X0_104 : Cond.fieldLink RX0 104 "SecondTry$Clerk" "stallKind" "I" ∈ q_tbl := q_in 229 rfl rfl
set_option maxRecDepth 100000 in
theorem fl_X0_115 : Cond.fieldLink RX0 115 "SecondTry$Town" "done" "[I" ∈ q_tbl := q_in 116 rfl rfl
set_option maxRecDepth 100000 in
theorem fl_X0_118 : Cond.fieldLink RX0 118 "SecondTry$Town" "steps" "[I" ∈ q_tbl := q_in 114 rfl rfl
set_option maxRecDepth 100000 in
theorem fl_X0_121 : Cond.fieldLink RX0 121 "SecondTry$Town" "stepKinds" "[I" ∈ q_tbl := q_in 110 rfl rfl
set_option maxRecDepth 100000 in
theorem fl_X0_124 : Cond.fieldLink RX0 124 "SecondTry$Town" "stepWith" "[I" ∈ q_tbl := q_in 112 rfl rfl
set_option maxRecDepth 100000 in
theorem fl_X0_128 : Cond.fieldLink RX0 128 "SecondTry$Kinds" "hours" "[I" ∈ q_tbl := q_in 63 rfl rfl
set_option maxRecDepth 100000 in
theorem fl_X0_138 : Cond.fieldLink RX0 138 "SecondTry$Town" "last" "[I" ∈ q_tbl := q_in 102 rfl rfl
set_option maxRecDepth 100000 in
theorem fl_X0_141 : Cond.fieldLink RX0 141 "SecondTry$Kinds" "marks" "[I" ∈ q_tbl := q_in 69 rfl rfl
set_option maxRecDepth 100000 in
theorem fl_X0_151 : Cond.fieldLink RX0 151 "SecondTry$Town" "counted" "[I" ∈ q_tbl := q_in 107 rfl rfl
set_option maxRecDepth 100000 in
theorem fl_X1_13 : Cond.fieldLink RX1 13 "SecondTry$Judge" "told" "[I" ∈ q_tbl := q_in 195 rfl rfl
set_option maxRecDepth 100000 in
theorem fl_X1_18 : Cond.fieldLink RX1 18 "SecondTry$Judge" "stack" "[I" ∈ q_tbl := q_in 196 rfl rfl
set_option maxRecDepth 100000 in
theorem fl_X1_24 : Cond.fieldLink RX1 24 "SecondTry$Judge" "law" "LSecondTry$Law;" ∈ q_tbl := q_in 197 rfl rfl
set_option maxRecDepth 100000 in
theorem fl_X1_28 : Cond.fieldLink RX1 28 "SecondTry$Judge" "kinds" "LSecondTry$Kinds;" ∈ q_tbl := q_in 194 rfl rfl
set_option maxRecDepth 100000 in
theorem fl_X1_32 : Cond.fieldLink RX1 32 "SecondTry$Kinds" "hours" "[I" ∈ q_tbl := q_in 61 rfl rfl
set_option maxRecDepth 100000 in
theorem fl_X1_37 : Cond.fieldLink RX1 37 "SecondTry$Kinds" "marks" "[I" ∈ q_tbl := q_in 67 rfl rfl
set_option maxRecDepth 100000 in
theorem fl_X1_61 : Cond.fieldLink RX1 61 "SecondTry$Law" "clauses" "I" ∈ q_tbl := q_in 175 rfl rfl
set_option maxRecDepth 100000 in
theorem fl_X1_65 : Cond.fieldLink RX1 65 "SecondTry$Law" "letters" "[I" ∈ q_tbl := q_in 164 rfl rfl
set_option maxRecDepth 100000 in
theorem fl_X1_68 : Cond.fieldLink RX1 68 "SecondTry$Law" "conditionAt" "[I" ∈ q_tbl := q_in 168 rfl rfl
set_option maxRecDepth 100000 in
theorem fl_X1_71 : Cond.fieldLink RX1 71 "SecondTry$Law" "endAt" "[I" ∈ q_tbl := q_in 170 rfl rfl
set_option maxRecDepth 100000 in
theorem fl_X1_78 : Cond.fieldLink RX1 78 "SecondTry$Law" "sumAt" "[I" ∈ q_tbl := q_in 166 rfl rfl
set_option maxRecDepth 100000 in
theorem fl_X1_95 : Cond.fieldLink RX1 95 "SecondTry$Judge" "isRefused" "Z" ∈ q_tbl := q_in 199 rfl rfl
set_option maxRecDepth 100000 in
theorem fl_X1_99 : Cond.fieldLink RX1 99 "SecondTry$Law" "ops" "[I" ∈ q_tbl := q_in 160 rfl rfl
set_option maxRecDepth 100000 in
theorem fl_X1_102 : Cond.fieldLink RX1 102 "SecondTry$Law" "args" "[I" ∈ q_tbl := q_in 162 rfl rfl
set_option maxRecDepth 100000 in
theorem fl_X2_9 : Cond.fieldLink RX2 9 "SecondTry$Kinds" "hours" "[I" ∈ q_tbl := q_in 60 rfl rfl
set_option maxRecDepth 100000 in
theorem fl_X2_15 : Cond.fieldLink RX2 15 "SecondTry$Kinds" "marks" "[I" ∈ q_tbl := q_in 66 rfl rfl
set_option maxRecDepth 100000 in
theorem fl_X2_18 : Cond.fieldLink RX2 18 "SecondTry$Kinds" "needs" "[I" ∈ q_tbl := q_in 71 rfl rfl
set_option maxRecDepth 100000 in
theorem fl_X2_21 : Cond.fieldLink RX2 21 "SecondTry$Kinds" "told" "I" ∈ q_tbl := q_in 76 rfl rfl
set_option maxRecDepth 100000 in
theorem fl_X3_9 : Cond.fieldLink RX3 9 "SecondTry$Law" "ops" "[I" ∈ q_tbl := q_in 159 rfl rfl
set_option maxRecDepth 100000 in
theorem fl_X3_15 : Cond.fieldLink RX3 15 "SecondTry$Law" "args" "[I" ∈ q_tbl := q_in 161 rfl rfl
set_option maxRecDepth 100000 in
theorem fl_X3_18 : Cond.fieldLink RX3 18 "SecondTry$Law" "letters" "[I" ∈ q_tbl := q_in 163 rfl rfl
set_option maxRecDepth 100000 in
theorem fl_X3_21 : Cond.fieldLink RX3 21 "SecondTry$Law" "sumAt" "[I" ∈ q_tbl := q_in 165 rfl rfl
set_option maxRecDepth 100000 in
theorem fl_X3_24 : Cond.fieldLink RX3 24 "SecondTry$Law" "conditionAt" "[I" ∈ q_tbl := q_in 167 rfl rfl
set_option maxRecDepth 100000 in
theorem fl_X3_27 : Cond.fieldLink RX3 27 "SecondTry$Law" "endAt" "[I" ∈ q_tbl := q_in 169 rfl rfl
set_option maxRecDepth 100000 in
theorem fl_X3_30 : Cond.fieldLink RX3 30 "SecondTry$Law" "codes" "I" ∈ q_tbl := q_in 171 rfl rfl
set_option maxRecDepth 100000 in
theorem fl_X3_34 : Cond.fieldLink RX3 34 "SecondTry$Law" "clauses" "I" ∈ q_tbl := q_in 173 rfl rfl
set_option maxRecDepth 100000 in
theorem fl_X4_12 : Cond.fieldLink RX4 12 "SecondTry$LawReader" "law" "LSecondTry$Law;" ∈ q_tbl := q_in 260 rfl rfl
set_option maxRecDepth 100000 in
theorem fl_X4_18 : Cond.fieldLink RX4 18 "SecondTry$LawReader" "text" "LSecondTry$Tape;" ∈ q_tbl := q_in 259 rfl rfl
set_option maxRecDepth 100000 in
theorem fl_X4_42 : Cond.fieldLink RX4 42 "SecondTry$Law" "clauses" "I" ∈ q_tbl := q_in 174 rfl rfl
set_option maxRecDepth 100000 in
theorem fl_X4_46 : Cond.fieldLink RX4 46 "SecondTry$Tape" "fault" "I" ∈ q_tbl := q_in 40 rfl rfl
set_option maxRecDepth 100000 in
theorem fl_X4_53 : Cond.fieldLink RX4 53 "SecondTry$Tape" "place" "I" ∈ q_tbl := q_in 36 rfl rfl
set_option maxRecDepth 100000 in
theorem fl_X4_60 : Cond.fieldLink RX4 60 "SecondTry$Law" "codes" "I" ∈ q_tbl := q_in 172 rfl rfl
set_option maxRecDepth 100000 in
theorem fl_X5_9 : Cond.fieldLink RX5 9 "SecondTry$Parting" "row" "[I" ∈ q_tbl := q_in 349 rfl rfl
set_option maxRecDepth 100000 in
theorem fl_X5_15 : Cond.fieldLink RX5 15 "SecondTry$Parting" "workers" "[I" ∈ q_tbl := q_in 350 rfl rfl
set_option maxRecDepth 100000 in
theorem fl_X5_18 : Cond.fieldLink RX5 18 "SecondTry$Parting" "setHours" "[I" ∈ q_tbl := q_in 351 rfl rfl
set_option maxRecDepth 100000 in
theorem fl_X5_21 : Cond.fieldLink RX5 21 "SecondTry$Parting" "alikes" "[I" ∈ q_tbl := q_in 352 rfl rfl
set_option maxRecDepth 100000 in
theorem fl_X5_24 : Cond.fieldLink RX5 24 "SecondTry$Parting" "sets" "[I" ∈ q_tbl := q_in 353 rfl rfl
set_option maxRecDepth 100000 in
theorem fl_X5_27 : Cond.fieldLink RX5 27 "SecondTry$Parting" "kinds" "LSecondTry$Kinds;" ∈ q_tbl := q_in 346 rfl rfl
set_option maxRecDepth 100000 in
theorem fl_X5_31 : Cond.fieldLink RX5 31 "SecondTry$Parting" "judge" "LSecondTry$Judge;" ∈ q_tbl := q_in 347 rfl rfl
set_option maxRecDepth 100000 in
theorem fl_X5_35 : Cond.fieldLink RX5 35 "SecondTry$Parting" "clerk" "LSecondTry$Clerk;" ∈ q_tbl := q_in 348 rfl rfl
set_option maxRecDepth 100000 in
theorem fl_X5_39 : Cond.fieldLink RX5 39 "SecondTry$Parting" "trial" "LSecondTry$Town;" ∈ q_tbl := q_in 354 rfl rfl
set_option maxRecDepth 100000 in
theorem fl_X5_49 : Cond.fieldLink RX5 49 "SecondTry$Parting" "jobCount" "I" ∈ q_tbl := q_in 355 rfl rfl
set_option maxRecDepth 100000 in
theorem fl_X5_65 : Cond.fieldLink RX5 65 "SecondTry$Parting" "workerCount" "I" ∈ q_tbl := q_in 356 rfl rfl
set_option maxRecDepth 100000 in
theorem fl_X5_79 : Cond.fieldLink RX5 79 "SecondTry$Town" "day" "I" ∈ q_tbl := q_in 122 rfl rfl
set_option maxRecDepth 100000 in
theorem fl_X5_93 : Cond.fieldLink RX5 93 "SecondTry$Parting" "bestRow" "I" ∈ q_tbl := q_in 359 rfl rfl
set_option maxRecDepth 100000 in
theorem fl_X5_96 : Cond.fieldLink RX5 96 "SecondTry$Town" "tries" "[I" ∈ q_tbl := q_in 99 rfl rfl
set_option maxRecDepth 100000 in
theorem fl_X5_99 : Cond.fieldLink RX5 99 "SecondTry$Town" "counted" "[I" ∈ q_tbl := q_in 106 rfl rfl
set_option maxRecDepth 100000 in
theorem fl_X5_106 : Cond.fieldLink RX5 106 "SecondTry$Kinds" "needs" "[I" ∈ q_tbl := q_in 74 rfl rfl
set_option maxRecDepth 100000 in
theorem fl_X5_133 : Cond.fieldLink RX5 133 "SecondTry$Kinds" "hours" "[I" ∈ q_tbl := q_in 64 rfl rfl
set_option maxRecDepth 100000 in
theorem fl_X5_136 : Cond.fieldLink RX5 136 "SecondTry$Parting" "bestHours" "I" ∈ q_tbl := q_in 357 rfl rfl
set_option maxRecDepth 100000 in
theorem fl_X6_9 : Cond.fieldLink RX6 9 "SecondTry$PlanReader" "stepKinds" "[I" ∈ q_tbl := q_in 274 rfl rfl
set_option maxRecDepth 100000 in
theorem fl_X6_15 : Cond.fieldLink RX6 15 "SecondTry$PlanReader" "stepWith" "[I" ∈ q_tbl := q_in 276 rfl rfl
set_option maxRecDepth 100000 in
theorem fl_X6_18 : Cond.fieldLink RX6 18 "SecondTry$PlanReader" "text" "LSecondTry$Tape;" ∈ q_tbl := q_in 273 rfl rfl
set_option maxRecDepth 100000 in
theorem fl_X6_28 : Cond.fieldLink RX6 28 "SecondTry$PlanReader" "steps" "I" ∈ q_tbl := q_in 278 rfl rfl
set_option maxRecDepth 100000 in
theorem fl_X6_40 : Cond.fieldLink RX6 40 "SecondTry$Tape" "fault" "I" ∈ q_tbl := q_in 39 rfl rfl
set_option maxRecDepth 100000 in
theorem fl_X6_56 : Cond.fieldLink RX6 56 "SecondTry$Tape" "place" "I" ∈ q_tbl := q_in 37 rfl rfl
set_option maxRecDepth 100000 in
theorem fl_X7_9 : Cond.fieldLink RX7 9 "SecondTry$Search" "choice" "[I" ∈ q_tbl := q_in 298 rfl rfl
set_option maxRecDepth 100000 in
theorem fl_X7_15 : Cond.fieldLink RX7 15 "SecondTry$Search" "hasOld" "[I" ∈ q_tbl := q_in 299 rfl rfl
set_option maxRecDepth 100000 in
theorem fl_X7_18 : Cond.fieldLink RX7 18 "SecondTry$Search" "alikes" "[I" ∈ q_tbl := q_in 300 rfl rfl
set_option maxRecDepth 100000 in
theorem fl_X7_21 : Cond.fieldLink RX7 21 "SecondTry$Search" "lacks" "[I" ∈ q_tbl := q_in 301 rfl rfl
set_option maxRecDepth 100000 in
theorem fl_X7_24 : Cond.fieldLink RX7 24 "SecondTry$Search" "prices" "[I" ∈ q_tbl := q_in 302 rfl rfl
set_option maxRecDepth 100000 in
theorem fl_X7_27 : Cond.fieldLink RX7 27 "SecondTry$Search" "voids" "[I" ∈ q_tbl := q_in 303 rfl rfl
set_option maxRecDepth 100000 in
theorem fl_X7_30 : Cond.fieldLink RX7 30 "SecondTry$Search" "ways" "[I" ∈ q_tbl := q_in 304 rfl rfl
set_option maxRecDepth 100000 in
theorem fl_X7_33 : Cond.fieldLink RX7 33 "SecondTry$Search" "kinds" "LSecondTry$Kinds;" ∈ q_tbl := q_in 295 rfl rfl
set_option maxRecDepth 100000 in
theorem fl_X7_37 : Cond.fieldLink RX7 37 "SecondTry$Search" "judge" "LSecondTry$Judge;" ∈ q_tbl := q_in 296 rfl rfl
set_option maxRecDepth 100000 in
theorem fl_X7_41 : Cond.fieldLink RX7 41 "SecondTry$Search" "clerk" "LSecondTry$Clerk;" ∈ q_tbl := q_in 297 rfl rfl
set_option maxRecDepth 100000 in
theorem fl_X7_45 : Cond.fieldLink RX7 45 "SecondTry$Search" "size" "I" ∈ q_tbl := q_in 305 rfl rfl
set_option maxRecDepth 100000 in
theorem fl_X7_49 : Cond.fieldLink RX7 49 "SecondTry$Search" "aim" "I" ∈ q_tbl := q_in 306 rfl rfl
set_option maxRecDepth 100000 in
theorem fl_X7_52 : Cond.fieldLink RX7 52 "SecondTry$Town" "day" "I" ∈ q_tbl := q_in 120 rfl rfl
set_option maxRecDepth 100000 in
theorem fl_X7_69 : Cond.fieldLink RX7 69 "SecondTry$Kinds" "needs" "[I" ∈ q_tbl := q_in 73 rfl rfl
set_option maxRecDepth 100000 in
theorem fl_X7_96 : Cond.fieldLink RX7 96 "SecondTry$Search" "bestCoins" "I" ∈ q_tbl := q_in 307 rfl rfl
set_option maxRecDepth 100000 in
theorem fl_X7_99 : Cond.fieldLink RX7 99 "SecondTry$Search" "bestHours" "I" ∈ q_tbl := q_in 309 rfl rfl
set_option maxRecDepth 100000 in
theorem fl_X7_109 : Cond.fieldLink RX7 109 "SecondTry$Kinds" "hours" "[I" ∈ q_tbl := q_in 62 rfl rfl
set_option maxRecDepth 100000 in
theorem fl_X7_112 : Cond.fieldLink RX7 112 "SecondTry$Kinds" "marks" "[I" ∈ q_tbl := q_in 68 rfl rfl
set_option maxRecDepth 100000 in
theorem fl_X7_119 : Cond.fieldLink RX7 119 "SecondTry$Town" "tries" "[I" ∈ q_tbl := q_in 98 rfl rfl
set_option maxRecDepth 100000 in
theorem fl_X7_122 : Cond.fieldLink RX7 122 "SecondTry$Town" "counted" "[I" ∈ q_tbl := q_in 105 rfl rfl
set_option maxRecDepth 100000 in
theorem fl_X8_9 : Cond.fieldLink RX8 9 "SecondTry$Stranger" "row" "[I" ∈ q_tbl := q_in 395 rfl rfl
set_option maxRecDepth 100000 in
theorem fl_X8_15 : Cond.fieldLink RX8 15 "SecondTry$Stranger" "alikes" "[I" ∈ q_tbl := q_in 396 rfl rfl
set_option maxRecDepth 100000 in
theorem fl_X8_18 : Cond.fieldLink RX8 18 "SecondTry$Stranger" "places" "[I" ∈ q_tbl := q_in 397 rfl rfl
set_option maxRecDepth 100000 in
theorem fl_X8_21 : Cond.fieldLink RX8 21 "SecondTry$Stranger" "outcomes" "[I" ∈ q_tbl := q_in 398 rfl rfl
set_option maxRecDepth 100000 in
theorem fl_X8_24 : Cond.fieldLink RX8 24 "SecondTry$Stranger" "now" "[I" ∈ q_tbl := q_in 399 rfl rfl
set_option maxRecDepth 100000 in
theorem fl_X8_27 : Cond.fieldLink RX8 27 "SecondTry$Stranger" "nextCounts" "[I" ∈ q_tbl := q_in 400 rfl rfl
set_option maxRecDepth 100000 in
theorem fl_X8_30 : Cond.fieldLink RX8 30 "SecondTry$Stranger" "kinds" "LSecondTry$Kinds;" ∈ q_tbl := q_in 393 rfl rfl
set_option maxRecDepth 100000 in
theorem fl_X8_34 : Cond.fieldLink RX8 34 "SecondTry$Stranger" "judge" "LSecondTry$Judge;" ∈ q_tbl := q_in 394 rfl rfl
set_option maxRecDepth 100000 in
theorem fl_X8_44 : Cond.fieldLink RX8 44 "SecondTry$Stranger" "size" "I" ∈ q_tbl := q_in 401 rfl rfl
set_option maxRecDepth 100000 in
theorem fl_X8_48 : Cond.fieldLink RX8 48 "SecondTry$Stranger" "triesTold" "I" ∈ q_tbl := q_in 402 rfl rfl
set_option maxRecDepth 100000 in
theorem fl_X8_63 : Cond.fieldLink RX8 63 "SecondTry$Stranger" "fitting" "I" ∈ q_tbl := q_in 403 rfl rfl
set_option maxRecDepth 100000 in
theorem fl_X8_66 : Cond.fieldLink RX8 66 "SecondTry$Stranger" "first" "I" ∈ q_tbl := q_in 405 rfl rfl
set_option maxRecDepth 100000 in
theorem fl_X9_9 : Cond.fieldLink RX9 9 "SecondTry$Tape" "bytes" "[I" ∈ q_tbl := q_in 32 rfl rfl
set_option maxRecDepth 100000 in
theorem fl_X9_15 : Cond.fieldLink RX9 15 "SecondTry$Tape" "size" "I" ∈ q_tbl := q_in 33 rfl rfl
set_option maxRecDepth 100000 in
theorem fl_X9_29 : Cond.fieldLink RX9 29 "SecondTry$Tape" "textSize" "I" ∈ q_tbl := q_in 35 rfl rfl
set_option maxRecDepth 100000 in
theorem fl_X9_32 : Cond.fieldLink RX9 32 "SecondTry$Tape" "place" "I" ∈ q_tbl := q_in 38 rfl rfl
set_option maxRecDepth 100000 in
theorem fl_X9_35 : Cond.fieldLink RX9 35 "SecondTry$Tape" "fault" "I" ∈ q_tbl := q_in 41 rfl rfl
set_option maxRecDepth 100000 in
theorem fl_X10_9 : Cond.fieldLink RX10 9 "SecondTry$Town" "coins" "[I" ∈ q_tbl := q_in 93 rfl rfl
set_option maxRecDepth 100000 in
theorem fl_X10_15 : Cond.fieldLink RX10 15 "SecondTry$Town" "tries" "[I" ∈ q_tbl := q_in 96 rfl rfl
set_option maxRecDepth 100000 in
theorem fl_X10_18 : Cond.fieldLink RX10 18 "SecondTry$Town" "last" "[I" ∈ q_tbl := q_in 101 rfl rfl
set_option maxRecDepth 100000 in
theorem fl_X10_21 : Cond.fieldLink RX10 21 "SecondTry$Town" "counted" "[I" ∈ q_tbl := q_in 104 rfl rfl
set_option maxRecDepth 100000 in
theorem fl_X10_24 : Cond.fieldLink RX10 24 "SecondTry$Town" "stepKinds" "[I" ∈ q_tbl := q_in 109 rfl rfl
set_option maxRecDepth 100000 in
theorem fl_X10_27 : Cond.fieldLink RX10 27 "SecondTry$Town" "stepWith" "[I" ∈ q_tbl := q_in 111 rfl rfl
set_option maxRecDepth 100000 in
theorem fl_X10_30 : Cond.fieldLink RX10 30 "SecondTry$Town" "steps" "[I" ∈ q_tbl := q_in 113 rfl rfl
set_option maxRecDepth 100000 in
theorem fl_X10_33 : Cond.fieldLink RX10 33 "SecondTry$Town" "done" "[I" ∈ q_tbl := q_in 115 rfl rfl
set_option maxRecDepth 100000 in
theorem fl_X10_42 : Cond.fieldLink RX10 42 "SecondTry$Town" "people" "I" ∈ q_tbl := q_in 117 rfl rfl
set_option maxRecDepth 100000 in
theorem fl_X10_46 : Cond.fieldLink RX10 46 "SecondTry$Town" "day" "I" ∈ q_tbl := q_in 121 rfl rfl
set_option maxRecDepth 100000 in
theorem fl_X10_49 : Cond.fieldLink RX10 49 "SecondTry$PlanReader" "stepKinds" "[I" ∈ q_tbl := q_in 275 rfl rfl
set_option maxRecDepth 100000 in
theorem fl_X10_52 : Cond.fieldLink RX10 52 "SecondTry$PlanReader" "stepWith" "[I" ∈ q_tbl := q_in 277 rfl rfl
set_option maxRecDepth 100000 in
theorem fl_X10_53 : Cond.fieldLink RX10 53 "SecondTry$PlanReader" "steps" "I" ∈ q_tbl := q_in 279 rfl rfl
set_option maxRecDepth 100000 in
theorem fl_X12_7 : Cond.fieldLink RX12 7 "SecondTryModel" "now" "[I" ∈ q_tbl := q_in 1043 rfl rfl
set_option maxRecDepth 100000 in
theorem fl_X12_13 : Cond.fieldLink RX12 13 "SecondTryModel" "aside" "[I" ∈ q_tbl := q_in 1044 rfl rfl
set_option maxRecDepth 100000 in
theorem fl_X12_16 : Cond.fieldLink RX12 16 "SecondTryModel" "kept" "[I" ∈ q_tbl := q_in 1045 rfl rfl
set_option maxRecDepth 100000 in
theorem fl_X12_19 : Cond.fieldLink RX12 19 "SecondTryModel" "hoursOf" "[I" ∈ q_tbl := q_in 1046 rfl rfl
set_option maxRecDepth 100000 in
theorem fl_X12_22 : Cond.fieldLink RX12 22 "SecondTryModel" "marksOf" "[I" ∈ q_tbl := q_in 1047 rfl rfl
set_option maxRecDepth 100000 in
theorem fl_X12_25 : Cond.fieldLink RX12 25 "SecondTryModel" "needsOf" "[I" ∈ q_tbl := q_in 1048 rfl rfl
set_option maxRecDepth 100000 in
theorem fl_X12_28 : Cond.fieldLink RX12 28 "SecondTryModel" "tape" "[B" ∈ q_tbl := q_in 1050 rfl rfl
set_option maxRecDepth 100000 in
theorem fl_X12_32 : Cond.fieldLink RX12 32 "SecondTryModel" "said" "[I" ∈ q_tbl := q_in 1061 rfl rfl
set_option maxRecDepth 100000 in
theorem fl_X12_35 : Cond.fieldLink RX12 35 "SecondTryModel" "waitsAt" "[I" ∈ q_tbl := q_in 1062 rfl rfl
set_option maxRecDepth 100000 in
theorem fl_X12_38 : Cond.fieldLink RX12 38 "SecondTryModel" "saidLetter" "[I" ∈ q_tbl := q_in 1063 rfl rfl
set_option maxRecDepth 100000 in
theorem fl_X12_41 : Cond.fieldLink RX12 41 "SecondTryModel" "saidFrom" "[I" ∈ q_tbl := q_in 1064 rfl rfl
set_option maxRecDepth 100000 in
theorem fl_X12_44 : Cond.fieldLink RX12 44 "SecondTryModel" "saidHalf" "[I" ∈ q_tbl := q_in 1065 rfl rfl
set_option maxRecDepth 100000 in
theorem fl_X12_47 : Cond.fieldLink RX12 47 "SecondTryModel" "saidTo" "[I" ∈ q_tbl := q_in 1066 rfl rfl
set_option maxRecDepth 100000 in
theorem fl_X12_50 : Cond.fieldLink RX12 50 "SecondTryModel" "codes" "[I" ∈ q_tbl := q_in 1067 rfl rfl
set_option maxRecDepth 100000 in
theorem fl_X12_53 : Cond.fieldLink RX12 53 "SecondTryModel" "clauseOf" "[I" ∈ q_tbl := q_in 1068 rfl rfl
set_option maxRecDepth 100000 in
theorem fl_X12_56 : Cond.fieldLink RX12 56 "SecondTryModel" "codeFrom" "[I" ∈ q_tbl := q_in 1069 rfl rfl
set_option maxRecDepth 100000 in
theorem fl_X12_59 : Cond.fieldLink RX12 59 "SecondTryModel" "codeHalf" "[I" ∈ q_tbl := q_in 1070 rfl rfl
set_option maxRecDepth 100000 in
theorem fl_X12_62 : Cond.fieldLink RX12 62 "SecondTryModel" "codeTo" "[I" ∈ q_tbl := q_in 1071 rfl rfl
set_option maxRecDepth 100000 in
theorem fl_X12_65 : Cond.fieldLink RX12 65 "SecondTryModel" "stack" "[I" ∈ q_tbl := q_in 1072 rfl rfl
set_option maxRecDepth 100000 in
theorem fl_X12_68 : Cond.fieldLink RX12 68 "SecondTryModel" "facts" "[I" ∈ q_tbl := q_in 1073 rfl rfl
set_option maxRecDepth 100000 in
theorem fl_X12_71 : Cond.fieldLink RX12 71 "SecondTryModel" "newKind" "[I" ∈ q_tbl := q_in 1074 rfl rfl
set_option maxRecDepth 100000 in
theorem fl_X12_74 : Cond.fieldLink RX12 74 "SecondTryModel" "newWith" "[I" ∈ q_tbl := q_in 1075 rfl rfl
set_option maxRecDepth 100000 in
theorem fl_X12_77 : Cond.fieldLink RX12 77 "SecondTryModel" "roundFrom" "[I" ∈ q_tbl := q_in 1076 rfl rfl
set_option maxRecDepth 100000 in
theorem fl_X12_80 : Cond.fieldLink RX12 80 "SecondTryModel" "roundAt" "[I" ∈ q_tbl := q_in 1077 rfl rfl
set_option maxRecDepth 100000 in
theorem fl_X12_83 : Cond.fieldLink RX12 83 "SecondTryModel" "wayMade" "[I" ∈ q_tbl := q_in 1088 rfl rfl
set_option maxRecDepth 100000 in
theorem fl_X12_86 : Cond.fieldLink RX12 86 "SecondTryModel" "wayGoes" "[I" ∈ q_tbl := q_in 1089 rfl rfl
set_option maxRecDepth 100000 in
theorem fl_X12_89 : Cond.fieldLink RX12 89 "SecondTryModel" "wayCounted" "[I" ∈ q_tbl := q_in 1090 rfl rfl
set_option maxRecDepth 100000 in
theorem fl_X12_92 : Cond.fieldLink RX12 92 "SecondTryModel" "ownKind" "[I" ∈ q_tbl := q_in 1091 rfl rfl
set_option maxRecDepth 100000 in
theorem fl_X12_95 : Cond.fieldLink RX12 95 "SecondTryModel" "oldBase" "[I" ∈ q_tbl := q_in 1092 rfl rfl
set_option maxRecDepth 100000 in
theorem fl_X12_98 : Cond.fieldLink RX12 98 "SecondTryModel" "likeSet" "[I" ∈ q_tbl := q_in 1093 rfl rfl
set_option maxRecDepth 100000 in
theorem fl_X12_101 : Cond.fieldLink RX12 101 "SecondTryModel" "wayNow" "[I" ∈ q_tbl := q_in 1094 rfl rfl
set_option maxRecDepth 100000 in
theorem fl_X12_104 : Cond.fieldLink RX12 104 "SecondTryModel" "priceOf" "[I" ∈ q_tbl := q_in 1095 rfl rfl
set_option maxRecDepth 100000 in
theorem fl_X12_108 : Cond.fieldLink RX12 108 "SecondTryModel" "canStand" "[Z" ∈ q_tbl := q_in 1096 rfl rfl
set_option maxRecDepth 100000 in
theorem fl_X12_112 : Cond.fieldLink RX12 112 "SecondTryModel" "jobKind" "[I" ∈ q_tbl := q_in 1097 rfl rfl
set_option maxRecDepth 100000 in
theorem fl_X12_115 : Cond.fieldLink RX12 115 "SecondTryModel" "jobPerson" "[I" ∈ q_tbl := q_in 1098 rfl rfl
set_option maxRecDepth 100000 in
theorem fl_X12_118 : Cond.fieldLink RX12 118 "SecondTryModel" "likeAll" "[I" ∈ q_tbl := q_in 1099 rfl rfl
set_option maxRecDepth 100000 in
theorem fl_X12_121 : Cond.fieldLink RX12 121 "SecondTryModel" "moreTries" "[I" ∈ q_tbl := q_in 1100 rfl rfl
set_option maxRecDepth 100000 in
theorem fl_X12_124 : Cond.fieldLink RX12 124 "SecondTryModel" "moreCounted" "[I" ∈ q_tbl := q_in 1101 rfl rfl
set_option maxRecDepth 100000 in
theorem fl_X12_127 : Cond.fieldLink RX12 127 "SecondTryModel" "pastKind" "[I" ∈ q_tbl := q_in 1105 rfl rfl
set_option maxRecDepth 100000 in
theorem fl_X12_130 : Cond.fieldLink RX12 130 "SecondTryModel" "pastLike" "[I" ∈ q_tbl := q_in 1106 rfl rfl
set_option maxRecDepth 100000 in
theorem fl_X12_133 : Cond.fieldLink RX12 133 "SecondTryModel" "pastTries" "[I" ∈ q_tbl := q_in 1107 rfl rfl
set_option maxRecDepth 100000 in
theorem fl_X12_136 : Cond.fieldLink RX12 136 "SecondTryModel" "pastFits" "[Z" ∈ q_tbl := q_in 1108 rfl rfl
set_option maxRecDepth 100000 in
theorem fl_X12_139 : Cond.fieldLink RX12 139 "SecondTryModel" "winsAt" "[Z" ∈ q_tbl := q_in 1109 rfl rfl
set_option maxRecDepth 100000 in
theorem fl_X12_145 : Cond.fieldLink RX12 145 "SecondTryModel" "kinds0" "I" ∈ q_tbl := q_in 1049 rfl rfl
set_option maxRecDepth 100000 in
theorem fl_X12_162 : Cond.fieldLink RX12 162 "SecondTryModel" "taped" "I" ∈ q_tbl := q_in 1051 rfl rfl
set_option maxRecDepth 100000 in
theorem fl_X12_169 : Cond.fieldLink RX12 169 "SecondTryModel" "place0" "I" ∈ q_tbl := q_in 1052 rfl rfl
set_option maxRecDepth 100000 in
theorem fl_X12_172 : Cond.fieldLink RX12 172 "SecondTryModel" "length0" "I" ∈ q_tbl := q_in 1053 rfl rfl
set_option maxRecDepth 100000 in
theorem fl_X12_179 : Cond.fieldLink RX12 179 "SecondTryModel" "fault" "I" ∈ q_tbl := q_in 1054 rfl rfl
set_option maxRecDepth 100000 in
theorem fl_X12_185 : Cond.fieldLink RX12 185 "SecondTryModel" "number0" "I" ∈ q_tbl := q_in 1055 rfl rfl
set_option maxRecDepth 100000 in
theorem fl_X12_192 : Cond.fieldLink RX12 192 "SecondTryModel" "codeMany" "I" ∈ q_tbl := q_in 1057 rfl rfl
set_option maxRecDepth 100000 in
theorem fl_X12_196 : Cond.fieldLink RX12 196 "SecondTryModel" "open" "I" ∈ q_tbl := q_in 1056 rfl rfl
set_option maxRecDepth 100000 in
theorem fl_X12_199 : Cond.fieldLink RX12 199 "SecondTryModel" "waiting" "I" ∈ q_tbl := q_in 1058 rfl rfl
set_option maxRecDepth 100000 in
theorem fl_X12_250 : Cond.fieldLink RX12 250 "SecondTryModel" "saidMany" "I" ∈ q_tbl := q_in 1059 rfl rfl
set_option maxRecDepth 100000 in
theorem fl_X12_262 : Cond.fieldLink RX12 262 "SecondTryModel" "clauses" "I" ∈ q_tbl := q_in 1060 rfl rfl
set_option maxRecDepth 100000 in
theorem fl_X12_323 : Cond.fieldLink RX12 323 "SecondTryModel" "rounds" "I" ∈ q_tbl := q_in 1079 rfl rfl
set_option maxRecDepth 100000 in
theorem fl_X12_326 : Cond.fieldLink RX12 326 "SecondTryModel" "newMany" "I" ∈ q_tbl := q_in 1078 rfl rfl
set_option maxRecDepth 100000 in
theorem fl_X12_335 : Cond.fieldLink RX12 335 "SecondTryModel" "triesMade" "I" ∈ q_tbl := q_in 1080 rfl rfl
set_option maxRecDepth 100000 in
theorem fl_X12_338 : Cond.fieldLink RX12 338 "SecondTryModel" "hoursSpent" "I" ∈ q_tbl := q_in 1082 rfl rfl
set_option maxRecDepth 100000 in
theorem fl_X12_341 : Cond.fieldLink RX12 341 "SecondTryModel" "triesCounted" "I" ∈ q_tbl := q_in 1081 rfl rfl
set_option maxRecDepth 100000 in
theorem fl_X12_344 : Cond.fieldLink RX12 344 "SecondTryModel" "stallDay" "I" ∈ q_tbl := q_in 1083 rfl rfl
set_option maxRecDepth 100000 in
theorem fl_X12_347 : Cond.fieldLink RX12 347 "SecondTryModel" "stallPerson" "I" ∈ q_tbl := q_in 1084 rfl rfl
set_option maxRecDepth 100000 in
theorem fl_X12_350 : Cond.fieldLink RX12 350 "SecondTryModel" "stallKind" "I" ∈ q_tbl := q_in 1085 rfl rfl
set_option maxRecDepth 100000 in
theorem fl_X12_362 : Cond.fieldLink RX12 362 "SecondTryModel" "soonPerson" "I" ∈ q_tbl := q_in 1087 rfl rfl
set_option maxRecDepth 100000 in
theorem fl_X12_365 : Cond.fieldLink RX12 365 "SecondTryModel" "ownMany" "I" ∈ q_tbl := q_in 1086 rfl rfl
set_option maxRecDepth 100000 in
theorem fl_X12_423 : Cond.fieldLink RX12 423 "SecondTryModel" "jobMany" "I" ∈ q_tbl := q_in 1102 rfl rfl
set_option maxRecDepth 100000 in
theorem fl_X12_435 : Cond.fieldLink RX12 435 "SecondTryModel" "workers" "I" ∈ q_tbl := q_in 1103 rfl rfl
set_option maxRecDepth 100000 in
theorem fl_X12_454 : Cond.fieldLink RX12 454 "SecondTryModel" "pastMany" "I" ∈ q_tbl := q_in 1104 rfl rfl
set_option maxRecDepth 100000 in
theorem fl_X12_489 : Cond.fieldLink RX12 489 "SecondTryModel" "isKept" "Z" ∈ q_tbl := q_in 1110 rfl rfl
set_option maxRecDepth 100000 in
theorem ml_X11_99 : Cond.methodLink RX11 99 yX2_tell ∈ q_tbl := q_in 476 rfl rfl
set_option maxRecDepth 100000 in
theorem ml_X11_115 : Cond.methodLink RX11 115 yX9_put ∈ q_tbl := q_in 497 rfl rfl
set_option maxRecDepth 100000 in
theorem ml_X11_119 : Cond.methodLink RX11 119 yX4_read ∈ q_tbl := q_in 505 rfl rfl
set_option maxRecDepth 100000 in
theorem ml_X11_123 : Cond.methodLink RX11 123 yX9_clear ∈ q_tbl := q_in 596 rfl rfl
set_option maxRecDepth 100000 in
theorem ml_X11_131 : Cond.methodLink RX11 131 yX10_knows ∈ q_tbl := q_in 604 rfl rfl
set_option maxRecDepth 100000 in
theorem ml_X11_135 : Cond.methodLink RX11 135 yX6_read ∈ q_tbl := q_in 608 rfl rfl
set_option maxRecDepth 100000 in
theorem ml_X11_136 : Cond.methodLink RX11 136 yX10_takePlan ∈ q_tbl := q_in 639 rfl rfl
set_option maxRecDepth 100000 in
theorem ml_X11_140 : Cond.methodLink RX11 140 yX2_knows ∈ q_tbl := q_in 650 rfl rfl
set_option maxRecDepth 100000 in
theorem ml_X11_141 : Cond.methodLink RX11 141 yX0_attempt ∈ q_tbl := q_in 651 rfl rfl
set_option maxRecDepth 100000 in
theorem ml_X11_145 : Cond.methodLink RX11 145 yX11_canDeal ∈ q_tbl := q_in 736 rfl rfl
set_option maxRecDepth 100000 in
theorem ml_X11_149 : Cond.methodLink RX11 149 yX0_buyGo ∈ q_tbl := q_in 740 rfl rfl
set_option maxRecDepth 100000 in
theorem ml_X11_152 : Cond.methodLink RX11 152 yX0_goDays ∈ q_tbl := q_in 754 rfl rfl
set_option maxRecDepth 100000 in
theorem ml_X11_159 : Cond.methodLink RX11 159 yX10_copy ∈ q_tbl := q_in 773 rfl rfl
set_option maxRecDepth 100000 in
theorem ml_X11_163 : Cond.methodLink RX11 163 yX10_stepsLeft ∈ q_tbl := q_in 777 rfl rfl
set_option maxRecDepth 100000 in
theorem ml_X11_166 : Cond.methodLink RX11 166 yX0_cameOfDays ∈ q_tbl := q_in 781 rfl rfl
set_option maxRecDepth 100000 in
theorem ml_X11_187 : Cond.methodLink RX11 187 yX1_findsAlike ∈ q_tbl := q_in 793 rfl rfl
set_option maxRecDepth 100000 in
theorem ml_X11_190 : Cond.methodLink RX11 190 yX0_price ∈ q_tbl := q_in 801 rfl rfl
set_option maxRecDepth 100000 in
theorem ml_X11_193 : Cond.methodLink RX11 193 yX11_canChoose ∈ q_tbl := q_in 806 rfl rfl
set_option maxRecDepth 100000 in
theorem ml_X11_196 : Cond.methodLink RX11 196 yX7_prepare ∈ q_tbl := q_in 812 rfl rfl
set_option maxRecDepth 100000 in
theorem ml_X11_200 : Cond.methodLink RX11 200 yX7_soonestWay ∈ q_tbl := q_in 836 rfl rfl
set_option maxRecDepth 100000 in
theorem ml_X11_204 : Cond.methodLink RX11 204 yX7_findCheapest ∈ q_tbl := q_in 858 rfl rfl
set_option maxRecDepth 100000 in
theorem ml_X11_214 : Cond.methodLink RX11 214 yX2_knowsAll ∈ q_tbl := q_in 811 rfl rfl
set_option maxRecDepth 100000 in
theorem ml_X11_217 : Cond.methodLink RX11 217 yX1_isLoophole ∈ q_tbl := q_in 876 rfl rfl
set_option maxRecDepth 100000 in
theorem ml_X11_220 : Cond.methodLink RX11 220 yJ6_bitCount_0f7a4 ∈ q_tbl := q_in 810 rfl rfl
set_option maxRecDepth 100000 in
theorem ml_X11_225 : Cond.methodLink RX11 225 yX5_read ∈ q_tbl := q_in 884 rfl rfl
set_option maxRecDepth 100000 in
theorem ml_X11_228 : Cond.methodLink RX11 228 yX10_knowsAll ∈ q_tbl := q_in 894 rfl rfl
set_option maxRecDepth 100000 in
theorem ml_X11_229 : Cond.methodLink RX11 229 yX5_takeWorkers ∈ q_tbl := q_in 898 rfl rfl
set_option maxRecDepth 100000 in
theorem ml_X11_232 : Cond.methodLink RX11 232 yX5_solve ∈ q_tbl := q_in 903 rfl rfl
set_option maxRecDepth 100000 in
theorem ml_X11_236 : Cond.methodLink RX11 236 yX5_workerOf ∈ q_tbl := q_in 934 rfl rfl
set_option maxRecDepth 100000 in
theorem ml_X11_239 : Cond.methodLink RX11 239 yX11_isSettled ∈ q_tbl := q_in 942 rfl rfl
set_option maxRecDepth 100000 in
theorem ml_X11_242 : Cond.methodLink RX11 242 yX8_read ∈ q_tbl := q_in 952 rfl rfl
set_option maxRecDepth 100000 in
theorem ml_X11_245 : Cond.methodLink RX11 245 yX8_goThrough ∈ q_tbl := q_in 959 rfl rfl
set_option maxRecDepth 100000 in
theorem ml_X11_255 : Cond.methodLink RX11 255 yX8_tellingPlace ∈ q_tbl := q_in 973 rfl rfl
set_option maxRecDepth 100000 in
theorem ml_X11_259 : Cond.methodLink RX11 259 yX11_isHeap ∈ q_tbl := q_in 986 rfl rfl
set_option maxRecDepth 100000 in
theorem ml_X11_262 : Cond.methodLink RX11 262 yX11_bestMove ∈ q_tbl := q_in 989 rfl rfl
set_option maxRecDepth 100000 in
theorem ml_X11_266 : Cond.methodLink RX11 266 yX9_word ∈ q_tbl := q_in 1011 rfl rfl
set_option maxRecDepth 100000 in
theorem ml_X11_277 : Cond.methodLink RX11 277 yX11_countOfKind ∈ q_tbl := q_in 1020 rfl rfl
set_option maxRecDepth 100000 in
theorem ml_X11_280 : Cond.methodLink RX11 280 yX11_countOfPerson ∈ q_tbl := q_in 1024 rfl rfl
set_option maxRecDepth 100000 in
theorem ml_X11_292 : Cond.methodLink RX11 292 yX10_sumOf ∈ q_tbl := q_in 1028 rfl rfl
set_option maxRecDepth 100000 in
theorem ml_X11_296 : Cond.methodLink RX11 296 yX11_pence ∈ q_tbl := q_in 945 rfl rfl
set_option maxRecDepth 100000 in
theorem ml_X11_300 : Cond.methodLink RX11 300 yX11_nextOneWins ∈ q_tbl := q_in 992 rfl rfl
set_option maxRecDepth 100000 in
theorem ml_X0_25 : Cond.methodLink RX0 25 yX1_alikes ∈ q_tbl := q_in 655 rfl rfl
set_option maxRecDepth 100000 in
theorem ml_X0_31 : Cond.methodLink RX0 31 yX0_forget ∈ q_tbl := q_in 688 rfl rfl
set_option maxRecDepth 100000 in
theorem ml_X0_35 : Cond.methodLink RX0 35 yX10_triesAmong ∈ q_tbl := q_in 710 rfl rfl
set_option maxRecDepth 100000 in
theorem ml_X0_41 : Cond.methodLink RX0 41 yX0_tellAll ∈ q_tbl := q_in 692 rfl rfl
set_option maxRecDepth 100000 in
theorem ml_X0_45 : Cond.methodLink RX0 45 yX1_voidTries ∈ q_tbl := q_in 714 rfl rfl
set_option maxRecDepth 100000 in
theorem ml_X0_52 : Cond.methodLink RX0 52 yX10_addTry ∈ q_tbl := q_in 719 rfl rfl
set_option maxRecDepth 100000 in
theorem ml_X0_62 : Cond.methodLink RX0 62 yX10_hasCounted ∈ q_tbl := q_in 724 rfl rfl
set_option maxRecDepth 100000 in
theorem ml_X0_66 : Cond.methodLink RX0 66 yX10_addCounted ∈ q_tbl := q_in 728 rfl rfl
set_option maxRecDepth 100000 in
theorem ml_X0_69 : Cond.methodLink RX0 69 yX1_amount ∈ q_tbl := q_in 705 rfl rfl
set_option maxRecDepth 100000 in
theorem ml_X0_76 : Cond.methodLink RX0 76 yX0_price ∈ q_tbl := q_in 744 rfl rfl
set_option maxRecDepth 100000 in
theorem ml_X0_84 : Cond.methodLink RX0 84 Lib.Math.min.name ∈ q_tbl := q_in 749 rfl rfl
set_option maxRecDepth 100000 in
theorem ml_X0_107 : Cond.methodLink RX0 107 yX10_knows ∈ q_tbl := q_in 758 rfl rfl
set_option maxRecDepth 100000 in
theorem ml_X0_111 : Cond.methodLink RX0 111 yX0_doSteps ∈ q_tbl := q_in 759 rfl rfl
set_option maxRecDepth 100000 in
theorem ml_X0_127 : Cond.methodLink RX0 127 yX2_knows ∈ q_tbl := q_in 763 rfl rfl
set_option maxRecDepth 100000 in
theorem ml_X0_131 : Cond.methodLink RX0 131 yX0_attempt ∈ q_tbl := q_in 764 rfl rfl
set_option maxRecDepth 100000 in
theorem ml_X0_134 : Cond.methodLink RX0 134 yX0_noteOutcome ∈ q_tbl := q_in 765 rfl rfl
set_option maxRecDepth 100000 in
theorem ml_X0_144 : Cond.methodLink RX0 144 yX1_tellDeed ∈ q_tbl := q_in 696 rfl rfl
set_option maxRecDepth 100000 in
theorem ml_X0_147 : Cond.methodLink RX0 147 yX10_triesByAll ∈ q_tbl := q_in 697 rfl rfl
set_option maxRecDepth 100000 in
theorem ml_X0_154 : Cond.methodLink RX0 154 yX1_tellTry ∈ q_tbl := q_in 701 rfl rfl
set_option maxRecDepth 100000 in
theorem ml_X1_40 : Cond.methodLink RX1 40 yX1_tellDeed ∈ q_tbl := q_in 659 rfl rfl
set_option maxRecDepth 100000 in
theorem ml_X1_44 : Cond.methodLink RX1 44 yX1_isAlike ∈ q_tbl := q_in 667 rfl rfl
set_option maxRecDepth 100000 in
theorem ml_X1_48 : Cond.methodLink RX1 48 yX2_knows ∈ q_tbl := q_in 666 rfl rfl
set_option maxRecDepth 100000 in
theorem ml_X1_51 : Cond.methodLink RX1 51 yJ7_fill_53178 ∈ q_tbl := q_in 663 rfl rfl
set_option maxRecDepth 100000 in
theorem ml_X1_57 : Cond.methodLink RX1 57 yX1_amount ∈ q_tbl := q_in 718 rfl rfl
set_option maxRecDepth 100000 in
theorem ml_X1_74 : Cond.methodLink RX1 74 yX1_run ∈ q_tbl := q_in 677 rfl rfl
set_option maxRecDepth 100000 in
theorem ml_X1_81 : Cond.methodLink RX1 81 Lib.Math.min.name ∈ q_tbl := q_in 709 rfl rfl
set_option maxRecDepth 100000 in
theorem ml_X1_86 : Cond.methodLink RX1 86 Lib.Math.max.name ∈ q_tbl := q_in 685 rfl rfl
set_option maxRecDepth 100000 in
theorem ml_X1_89 : Cond.methodLink RX1 89 yJ6_bitCount_0f7a4 ∈ q_tbl := q_in 671 rfl rfl
set_option maxRecDepth 100000 in
theorem ml_X1_105 : Cond.methodLink RX1 105 yX1_reckon ∈ q_tbl := q_in 681 rfl rfl
set_option maxRecDepth 100000 in
theorem ml_X2_25 : Cond.methodLink RX2 25 yX2_knows ∈ q_tbl := q_in 480 rfl rfl
set_option maxRecDepth 100000 in
theorem ml_X2_29 : Cond.methodLink RX2 29 yX2_knowsAll ∈ q_tbl := q_in 484 rfl rfl
set_option maxRecDepth 100000 in
theorem ml_X4_22 : Cond.methodLink RX4 22 yX3_clear ∈ q_tbl := q_in 509 rfl rfl
set_option maxRecDepth 100000 in
theorem ml_X4_25 : Cond.methodLink RX4 25 yX9_openText ∈ q_tbl := q_in 513 rfl rfl
set_option maxRecDepth 100000 in
theorem ml_X4_31 : Cond.methodLink RX4 31 yX4_readClause ∈ q_tbl := q_in 520 rfl rfl
set_option maxRecDepth 100000 in
theorem ml_X4_35 : Cond.methodLink RX4 35 yX9_takes ∈ q_tbl := q_in 583 rfl rfl
set_option maxRecDepth 100000 in
theorem ml_X4_39 : Cond.methodLink RX4 39 yX9_mustEnd ∈ q_tbl := q_in 592 rfl rfl
set_option maxRecDepth 100000 in
theorem ml_X4_49 : Cond.methodLink RX4 49 yX9_sign ∈ q_tbl := q_in 524 rfl rfl
set_option maxRecDepth 100000 in
theorem ml_X4_56 : Cond.methodLink RX4 56 yX9_fails ∈ q_tbl := q_in 528 rfl rfl
set_option maxRecDepth 100000 in
theorem ml_X4_63 : Cond.methodLink RX4 63 yX4_readSum ∈ q_tbl := q_in 532 rfl rfl
set_option maxRecDepth 100000 in
theorem ml_X4_66 : Cond.methodLink RX4 66 yX9_mustTake ∈ q_tbl := q_in 548 rfl rfl
set_option maxRecDepth 100000 in
theorem ml_X4_69 : Cond.methodLink RX4 69 yX4_readCondition ∈ q_tbl := q_in 571 rfl rfl
set_option maxRecDepth 100000 in
theorem ml_X4_72 : Cond.methodLink RX4 72 yX3_addClause ∈ q_tbl := q_in 588 rfl rfl
set_option maxRecDepth 100000 in
theorem ml_X4_76 : Cond.methodLink RX4 76 yX4_readPart ∈ q_tbl := q_in 575 rfl rfl
set_option maxRecDepth 100000 in
theorem ml_X4_79 : Cond.methodLink RX4 79 yX3_add ∈ q_tbl := q_in 566 rfl rfl
set_option maxRecDepth 100000 in
theorem ml_X4_83 : Cond.methodLink RX4 83 yX3_skipToHere ∈ q_tbl := q_in 584 rfl rfl
set_option maxRecDepth 100000 in
theorem ml_X4_86 : Cond.methodLink RX4 86 yX4_readPiece ∈ q_tbl := q_in 579 rfl rfl
set_option maxRecDepth 100000 in
theorem ml_X4_89 : Cond.methodLink RX4 89 yX4_opens ∈ q_tbl := q_in 544 rfl rfl
set_option maxRecDepth 100000 in
theorem ml_X4_92 : Cond.methodLink RX4 92 yX4_readProduct ∈ q_tbl := q_in 536 rfl rfl
set_option maxRecDepth 100000 in
theorem ml_X4_95 : Cond.methodLink RX4 95 yX4_readFactor ∈ q_tbl := q_in 540 rfl rfl
set_option maxRecDepth 100000 in
theorem ml_X4_98 : Cond.methodLink RX4 98 yX9_digit ∈ q_tbl := q_in 558 rfl rfl
set_option maxRecDepth 100000 in
theorem ml_X4_101 : Cond.methodLink RX4 101 yX4_readNumber ∈ q_tbl := q_in 562 rfl rfl
set_option maxRecDepth 100000 in
theorem ml_X5_43 : Cond.methodLink RX5 43 Lib.Math.min.name ∈ q_tbl := q_in 888 rfl rfl
set_option maxRecDepth 100000 in
theorem ml_X5_53 : Cond.methodLink RX5 53 yX9_at ∈ q_tbl := q_in 889 rfl rfl
set_option maxRecDepth 100000 in
theorem ml_X5_59 : Cond.methodLink RX5 59 yX2_knows ∈ q_tbl := q_in 893 rfl rfl
set_option maxRecDepth 100000 in
theorem ml_X5_68 : Cond.methodLink RX5 68 yJ6_bitCount_0f7a4 ∈ q_tbl := q_in 902 rfl rfl
set_option maxRecDepth 100000 in
theorem ml_X5_73 : Cond.methodLink RX5 73 yX10_copy ∈ q_tbl := q_in 907 rfl rfl
set_option maxRecDepth 100000 in
theorem ml_X5_82 : Cond.methodLink RX5 82 yX1_alikes ∈ q_tbl := q_in 908 rfl rfl
set_option maxRecDepth 100000 in
theorem ml_X5_86 : Cond.methodLink RX5 86 yX5_goThroughSets ∈ q_tbl := q_in 909 rfl rfl
set_option maxRecDepth 100000 in
theorem ml_X5_90 : Cond.methodLink RX5 90 yX5_findBestRow ∈ q_tbl := q_in 924 rfl rfl
set_option maxRecDepth 100000 in
theorem ml_X5_103 : Cond.methodLink RX5 103 yX5_hoursFor ∈ q_tbl := q_in 914 rfl rfl
set_option maxRecDepth 100000 in
theorem ml_X5_109 : Cond.methodLink RX5 109 yX10_hasCounted ∈ q_tbl := q_in 918 rfl rfl
set_option maxRecDepth 100000 in
theorem ml_X5_113 : Cond.methodLink RX5 113 yX10_triesAmong ∈ q_tbl := q_in 919 rfl rfl
set_option maxRecDepth 100000 in
theorem ml_X5_116 : Cond.methodLink RX5 116 yX0_tellAll ∈ q_tbl := q_in 920 rfl rfl
set_option maxRecDepth 100000 in
theorem ml_X5_122 : Cond.methodLink RX5 122 yX1_voidTries ∈ q_tbl := q_in 921 rfl rfl
set_option maxRecDepth 100000 in
theorem ml_X5_126 : Cond.methodLink RX5 126 yX10_addTry ∈ q_tbl := q_in 922 rfl rfl
set_option maxRecDepth 100000 in
theorem ml_X5_130 : Cond.methodLink RX5 130 yX10_addCounted ∈ q_tbl := q_in 923 rfl rfl
set_option maxRecDepth 100000 in
theorem ml_X5_139 : Cond.methodLink RX5 139 yX5_longestOf ∈ q_tbl := q_in 928 rfl rfl
set_option maxRecDepth 100000 in
theorem ml_X5_142 : Cond.methodLink RX5 142 yJ7_fill_53178 ∈ q_tbl := q_in 932 rfl rfl
set_option maxRecDepth 100000 in
theorem ml_X5_148 : Cond.methodLink RX5 148 Lib.Math.max.name ∈ q_tbl := q_in 933 rfl rfl
set_option maxRecDepth 100000 in
theorem ml_X6_22 : Cond.methodLink RX6 22 yX9_openText ∈ q_tbl := q_in 612 rfl rfl
set_option maxRecDepth 100000 in
theorem ml_X6_32 : Cond.methodLink RX6 32 yX6_readSteps ∈ q_tbl := q_in 613 rfl rfl
set_option maxRecDepth 100000 in
theorem ml_X6_36 : Cond.methodLink RX6 36 yX9_mustEnd ∈ q_tbl := q_in 638 rfl rfl
set_option maxRecDepth 100000 in
theorem ml_X6_43 : Cond.methodLink RX6 43 yX6_readStep ∈ q_tbl := q_in 617 rfl rfl
set_option maxRecDepth 100000 in
theorem ml_X6_46 : Cond.methodLink RX6 46 yX9_takes ∈ q_tbl := q_in 628 rfl rfl
set_option maxRecDepth 100000 in
theorem ml_X6_49 : Cond.methodLink RX6 49 yX9_sign ∈ q_tbl := q_in 621 rfl rfl
set_option maxRecDepth 100000 in
theorem ml_X6_53 : Cond.methodLink RX6 53 yX6_readTry ∈ q_tbl := q_in 622 rfl rfl
set_option maxRecDepth 100000 in
theorem ml_X6_59 : Cond.methodLink RX6 59 yX9_fails ∈ q_tbl := q_in 627 rfl rfl
set_option maxRecDepth 100000 in
theorem ml_X6_63 : Cond.methodLink RX6 63 yX9_mustTake ∈ q_tbl := q_in 633 rfl rfl
set_option maxRecDepth 100000 in
theorem ml_X6_66 : Cond.methodLink RX6 66 yX9_digit ∈ q_tbl := q_in 626 rfl rfl
set_option maxRecDepth 100000 in
theorem ml_X6_69 : Cond.methodLink RX6 69 yX6_repeatSteps ∈ q_tbl := q_in 634 rfl rfl
set_option maxRecDepth 100000 in
theorem ml_X6_72 : Cond.methodLink RX6 72 yX6_addStep ∈ q_tbl := q_in 629 rfl rfl
set_option maxRecDepth 100000 in
theorem ml_X7_57 : Cond.methodLink RX7 57 yX1_alikes ∈ q_tbl := q_in 816 rfl rfl
set_option maxRecDepth 100000 in
theorem ml_X7_62 : Cond.methodLink RX7 62 yX10_triesAmong ∈ q_tbl := q_in 817 rfl rfl
set_option maxRecDepth 100000 in
theorem ml_X7_65 : Cond.methodLink RX7 65 yX7_toPlaces ∈ q_tbl := q_in 818 rfl rfl
set_option maxRecDepth 100000 in
theorem ml_X7_74 : Cond.methodLink RX7 74 yX7_lackedPlaces ∈ q_tbl := q_in 822 rfl rfl
set_option maxRecDepth 100000 in
theorem ml_X7_78 : Cond.methodLink RX7 78 yX7_askVoids ∈ q_tbl := q_in 827 rfl rfl
set_option maxRecDepth 100000 in
theorem ml_X7_82 : Cond.methodLink RX7 82 yJ7_fill_53178 ∈ q_tbl := q_in 835 rfl rfl
set_option maxRecDepth 100000 in
theorem ml_X7_88 : Cond.methodLink RX7 88 yX7_bestWay ∈ q_tbl := q_in 840 rfl rfl
set_option maxRecDepth 100000 in
theorem ml_X7_92 : Cond.methodLink RX7 92 yX7_leastPrice ∈ q_tbl := q_in 862 rfl rfl
set_option maxRecDepth 100000 in
theorem ml_X7_102 : Cond.methodLink RX7 102 yX7_tryGoes ∈ q_tbl := q_in 868 rfl rfl
set_option maxRecDepth 100000 in
theorem ml_X7_106 : Cond.methodLink RX7 106 yX10_triesByAll ∈ q_tbl := q_in 831 rfl rfl
set_option maxRecDepth 100000 in
theorem ml_X7_115 : Cond.methodLink RX7 115 yX1_tellDeed ∈ q_tbl := q_in 832 rfl rfl
set_option maxRecDepth 100000 in
theorem ml_X7_125 : Cond.methodLink RX7 125 yX1_tellTry ∈ q_tbl := q_in 833 rfl rfl
set_option maxRecDepth 100000 in
theorem ml_X7_128 : Cond.methodLink RX7 128 yX1_voidTries ∈ q_tbl := q_in 834 rfl rfl
set_option maxRecDepth 100000 in
theorem ml_X7_132 : Cond.methodLink RX7 132 yX10_hasCounted ∈ q_tbl := q_in 826 rfl rfl
set_option maxRecDepth 100000 in
theorem ml_X7_136 : Cond.methodLink RX7 136 yX10_knows ∈ q_tbl := q_in 866 rfl rfl
set_option maxRecDepth 100000 in
theorem ml_X7_140 : Cond.methodLink RX7 140 yX0_price ∈ q_tbl := q_in 867 rfl rfl
set_option maxRecDepth 100000 in
theorem ml_X7_146 : Cond.methodLink RX7 146 Lib.Math.min.name ∈ q_tbl := q_in 852 rfl rfl
set_option maxRecDepth 100000 in
theorem ml_X7_151 : Cond.methodLink RX7 151 yX7_extraAt ∈ q_tbl := q_in 845 rfl rfl
set_option maxRecDepth 100000 in
theorem ml_X7_154 : Cond.methodLink RX7 154 yX7_wouldCount ∈ q_tbl := q_in 848 rfl rfl
set_option maxRecDepth 100000 in
theorem ml_X8_38 : Cond.methodLink RX8 38 Lib.Math.min.name ∈ q_tbl := q_in 956 rfl rfl
set_option maxRecDepth 100000 in
theorem ml_X8_51 : Cond.methodLink RX8 51 yX9_at ∈ q_tbl := q_in 957 rfl rfl
set_option maxRecDepth 100000 in
theorem ml_X8_57 : Cond.methodLink RX8 57 yX2_knows ∈ q_tbl := q_in 958 rfl rfl
set_option maxRecDepth 100000 in
theorem ml_X8_69 : Cond.methodLink RX8 69 yJ7_fill_53178 ∈ q_tbl := q_in 963 rfl rfl
set_option maxRecDepth 100000 in
theorem ml_X8_75 : Cond.methodLink RX8 75 yX1_alikes ∈ q_tbl := q_in 964 rfl rfl
set_option maxRecDepth 100000 in
theorem ml_X8_79 : Cond.methodLink RX8 79 yX8_fits ∈ q_tbl := q_in 965 rfl rfl
set_option maxRecDepth 100000 in
theorem ml_X8_83 : Cond.methodLink RX8 83 yX8_old ∈ q_tbl := q_in 969 rfl rfl
set_option maxRecDepth 100000 in
theorem ml_X8_86 : Cond.methodLink RX8 86 yX8_greaterPart ∈ q_tbl := q_in 977 rfl rfl
set_option maxRecDepth 100000 in
theorem ml_X8_89 : Cond.methodLink RX8 89 Lib.Math.max.name ∈ q_tbl := q_in 981 rfl rfl
set_option maxRecDepth 100000 in
theorem ml_X9_19 : Cond.methodLink RX9 19 yX9_at ∈ q_tbl := q_in 1015 rfl rfl
set_option maxRecDepth 100000 in
theorem ml_X9_23 : Cond.methodLink RX9 23 Lib.Math.min.name ∈ q_tbl := q_in 517 rfl rfl
set_option maxRecDepth 100000 in
theorem ml_X9_38 : Cond.methodLink RX9 38 yX9_sign ∈ q_tbl := q_in 556 rfl rfl
set_option maxRecDepth 100000 in
theorem ml_X9_42 : Cond.methodLink RX9 42 yX9_takes ∈ q_tbl := q_in 552 rfl rfl
set_option maxRecDepth 100000 in
theorem ml_X9_46 : Cond.methodLink RX9 46 yX9_fails ∈ q_tbl := q_in 557 rfl rfl
set_option maxRecDepth 100000 in
theorem ml_X10_36 : Cond.methodLink RX10 36 arraycopyName ∈ q_tbl := q_in 643 rfl rfl
set_option maxRecDepth 100000 in
theorem ml_X10_55 : Cond.methodLink RX10 55 Lib.Math.min.name ∈ q_tbl := q_in 723 rfl rfl
set_option maxRecDepth 100000 in
theorem ml_L_13 : Cond.methodLink RL 13 yX11_kind ∈ q_tbl := q_in 472 rfl rfl
set_option maxRecDepth 100000 in
theorem ml_L_17 : Cond.methodLink RL 17 yX12_kind ∈ q_tbl := q_in 1250 rfl rfl
set_option maxRecDepth 100000 in
theorem ml_L_18 : Cond.methodLink RL 18 yX11_person ∈ q_tbl := q_in 488 rfl rfl
set_option maxRecDepth 100000 in
theorem ml_L_22 : Cond.methodLink RL 22 yX12_person ∈ q_tbl := q_in 1264 rfl rfl
set_option maxRecDepth 100000 in
theorem ml_L_23 : Cond.methodLink RL 23 yX11_feed ∈ q_tbl := q_in 493 rfl rfl
set_option maxRecDepth 100000 in
theorem ml_L_27 : Cond.methodLink RL 27 yX12_feed ∈ q_tbl := q_in 1269 rfl rfl
set_option maxRecDepth 100000 in
theorem ml_L_28 : Cond.methodLink RL 28 yX11_law ∈ q_tbl := q_in 501 rfl rfl
set_option maxRecDepth 100000 in
theorem ml_L_32 : Cond.methodLink RL 32 yX12_law ∈ q_tbl := q_in 1277 rfl rfl
set_option maxRecDepth 100000 in
theorem ml_L_33 : Cond.methodLink RL 33 yX11_plan ∈ q_tbl := q_in 600 rfl rfl
set_option maxRecDepth 100000 in
theorem ml_L_37 : Cond.methodLink RL 37 yX12_plan ∈ q_tbl := q_in 1450 rfl rfl
set_option maxRecDepth 100000 in
theorem ml_L_38 : Cond.methodLink RL 38 yX11_tries ∈ q_tbl := q_in 646 rfl rfl
set_option maxRecDepth 100000 in
theorem ml_L_42 : Cond.methodLink RL 42 yX12_tries ∈ q_tbl := q_in 1385 rfl rfl
set_option maxRecDepth 100000 in
theorem ml_L_43 : Cond.methodLink RL 43 yX11_buys ∈ q_tbl := q_in 732 rfl rfl
set_option maxRecDepth 100000 in
theorem ml_L_46 : Cond.methodLink RL 46 yX12_buys ∈ q_tbl := q_in 1439 rfl rfl
set_option maxRecDepth 100000 in
theorem ml_L_47 : Cond.methodLink RL 47 yX11_days ∈ q_tbl := q_in 750 rfl rfl
set_option maxRecDepth 100000 in
theorem ml_L_50 : Cond.methodLink RL 50 yX12_days ∈ q_tbl := q_in 1462 rfl rfl
set_option maxRecDepth 100000 in
theorem ml_L_51 : Cond.methodLink RL 51 yX11_tried ∈ q_tbl := q_in 769 rfl rfl
set_option maxRecDepth 100000 in
theorem ml_L_54 : Cond.methodLink RL 54 yX12_tried ∈ q_tbl := q_in 1478 rfl rfl
set_option maxRecDepth 100000 in
theorem ml_L_55 : Cond.methodLink RL 55 yX11_has ∈ q_tbl := q_in 785 rfl rfl
set_option maxRecDepth 100000 in
theorem ml_L_58 : Cond.methodLink RL 58 yX12_has ∈ q_tbl := q_in 1443 rfl rfl
set_option maxRecDepth 100000 in
theorem ml_L_59 : Cond.methodLink RL 59 yX11_alike ∈ q_tbl := q_in 789 rfl rfl
set_option maxRecDepth 100000 in
theorem ml_L_62 : Cond.methodLink RL 62 yX12_alike ∈ q_tbl := q_in 1363 rfl rfl
set_option maxRecDepth 100000 in
theorem ml_L_63 : Cond.methodLink RL 63 yX11_cost ∈ q_tbl := q_in 797 rfl rfl
set_option maxRecDepth 100000 in
theorem ml_L_66 : Cond.methodLink RL 66 yX12_cost ∈ q_tbl := q_in 1431 rfl rfl
set_option maxRecDepth 100000 in
theorem ml_L_67 : Cond.methodLink RL 67 yX11_soonest ∈ q_tbl := q_in 802 rfl rfl
set_option maxRecDepth 100000 in
theorem ml_L_70 : Cond.methodLink RL 70 yX12_soonest ∈ q_tbl := q_in 1482 rfl rfl
set_option maxRecDepth 100000 in
theorem ml_L_71 : Cond.methodLink RL 71 yX11_cheapest ∈ q_tbl := q_in 854 rfl rfl
set_option maxRecDepth 100000 in
theorem ml_L_74 : Cond.methodLink RL 74 yX12_cheapest ∈ q_tbl := q_in 1543 rfl rfl
set_option maxRecDepth 100000 in
theorem ml_L_75 : Cond.methodLink RL 75 yX11_loophole ∈ q_tbl := q_in 872 rfl rfl
set_option maxRecDepth 100000 in
theorem ml_L_78 : Cond.methodLink RL 78 yX12_loophole ∈ q_tbl := q_in 1559 rfl rfl
set_option maxRecDepth 100000 in
theorem ml_L_79 : Cond.methodLink RL 79 yX11_jobs ∈ q_tbl := q_in 880 rfl rfl
set_option maxRecDepth 100000 in
theorem ml_L_82 : Cond.methodLink RL 82 yX12_jobs ∈ q_tbl := q_in 1567 rfl rfl
set_option maxRecDepth 100000 in
theorem ml_L_83 : Cond.methodLink RL 83 yX11_rivals ∈ q_tbl := q_in 938 rfl rfl
set_option maxRecDepth 100000 in
theorem ml_L_86 : Cond.methodLink RL 86 yX12_rivals ∈ q_tbl := q_in 1598 rfl rfl
set_option maxRecDepth 100000 in
theorem ml_L_87 : Cond.methodLink RL 87 yX11_histories ∈ q_tbl := q_in 948 rfl rfl
set_option maxRecDepth 100000 in
theorem ml_L_91 : Cond.methodLink RL 91 yX12_histories ∈ q_tbl := q_in 1605 rfl rfl
set_option maxRecDepth 100000 in
theorem ml_L_92 : Cond.methodLink RL 92 yX11_game ∈ q_tbl := q_in 982 rfl rfl
set_option maxRecDepth 100000 in
theorem ml_L_96 : Cond.methodLink RL 96 yX12_game ∈ q_tbl := q_in 1629 rfl rfl
set_option maxRecDepth 100000 in
theorem ml_L_97 : Cond.methodLink RL 97 yX11_court ∈ q_tbl := q_in 995 rfl rfl
set_option maxRecDepth 100000 in
theorem ml_L_101 : Cond.methodLink RL 101 yX12_court ∈ q_tbl := q_in 1650 rfl rfl
set_option maxRecDepth 100000 in
theorem ml_L_102 : Cond.methodLink RL 102 yX11_keep ∈ q_tbl := q_in 999 rfl rfl
set_option maxRecDepth 100000 in
theorem ml_L_106 : Cond.methodLink RL 106 yX12_keep ∈ q_tbl := q_in 1654 rfl rfl
set_option maxRecDepth 100000 in
theorem ml_L_107 : Cond.methodLink RL 107 yX11_undo ∈ q_tbl := q_in 1003 rfl rfl
set_option maxRecDepth 100000 in
theorem ml_L_111 : Cond.methodLink RL 111 yX12_undo ∈ q_tbl := q_in 1658 rfl rfl
set_option maxRecDepth 100000 in
theorem ml_L_112 : Cond.methodLink RL 112 yX11_check ∈ q_tbl := q_in 1007 rfl rfl
set_option maxRecDepth 100000 in
theorem ml_L_115 : Cond.methodLink RL 115 yX12_check ∈ q_tbl := q_in 1662 rfl rfl
set_option maxRecDepth 100000 in
theorem ml_L_116 : Cond.methodLink RL 116 yX11_count ∈ q_tbl := q_in 1016 rfl rfl
set_option maxRecDepth 100000 in
theorem ml_L_119 : Cond.methodLink RL 119 yX12_count ∈ q_tbl := q_in 1670 rfl rfl
set_option maxRecDepth 100000 in
theorem ml_X12_142 : Cond.methodLink RX12 142 yX12_laysWays ∈ q_tbl := q_in 1039 rfl rfl
set_option maxRecDepth 100000 in
theorem ml_X12_149 : Cond.methodLink RX12 149 yX12_has0 ∈ q_tbl := q_in 1261 rfl rfl
set_option maxRecDepth 100000 in
theorem ml_X12_153 : Cond.methodLink RX12 153 yX12_in ∈ q_tbl := q_in 1254 rfl rfl
set_option maxRecDepth 100000 in
theorem ml_X12_157 : Cond.methodLink RX12 157 yX12_isKind ∈ q_tbl := q_in 1257 rfl rfl
set_option maxRecDepth 100000 in
theorem ml_X12_165 : Cond.methodLink RX12 165 yX12_types ∈ q_tbl := q_in 1273 rfl rfl
set_option maxRecDepth 100000 in
theorem ml_X12_175 : Cond.methodLink RX12 175 yX12_here ∈ q_tbl := q_in 1285 rfl rfl
set_option maxRecDepth 100000 in
theorem ml_X12_182 : Cond.methodLink RX12 182 yX12_wrongAt ∈ q_tbl := q_in 1292 rfl rfl
set_option maxRecDepth 100000 in
theorem ml_X12_188 : Cond.methodLink RX12 188 yX12_isDigit ∈ q_tbl := q_in 1309 rfl rfl
set_option maxRecDepth 100000 in
theorem ml_X12_202 : Cond.methodLink RX12 202 yX12_waitTop ∈ q_tbl := q_in 1331 rfl rfl
set_option maxRecDepth 100000 in
theorem ml_X12_205 : Cond.methodLink RX12 205 yX12_notes ∈ q_tbl := q_in 1317 rfl rfl
set_option maxRecDepth 100000 in
theorem ml_X12_209 : Cond.methodLink RX12 209 yX12_opens ∈ q_tbl := q_in 1304 rfl rfl
set_option maxRecDepth 100000 in
theorem ml_X12_212 : Cond.methodLink RX12 212 yX12_readsNumber ∈ q_tbl := q_in 1313 rfl rfl
set_option maxRecDepth 100000 in
theorem ml_X12_215 : Cond.methodLink RX12 215 yX12_factOf ∈ q_tbl := q_in 1321 rfl rfl
set_option maxRecDepth 100000 in
theorem ml_X12_219 : Cond.methodLink RX12 219 yX12_readsFactor ∈ q_tbl := q_in 1300 rfl rfl
set_option maxRecDepth 100000 in
theorem ml_X12_222 : Cond.methodLink RX12 222 yX12_sumSign ∈ q_tbl := q_in 1324 rfl rfl
set_option maxRecDepth 100000 in
theorem ml_X12_225 : Cond.methodLink RX12 225 yX12_closesSums ∈ q_tbl := q_in 1327 rfl rfl
set_option maxRecDepth 100000 in
theorem ml_X12_229 : Cond.methodLink RX12 229 yX12_hasOpenSum ∈ q_tbl := q_in 1335 rfl rfl
set_option maxRecDepth 100000 in
theorem ml_X12_232 : Cond.methodLink RX12 232 yX12_readsSum ∈ q_tbl := q_in 1296 rfl rfl
set_option maxRecDepth 100000 in
theorem ml_X12_235 : Cond.methodLink RX12 235 yX12_endsPiece ∈ q_tbl := q_in 1347 rfl rfl
set_option maxRecDepth 100000 in
theorem ml_X12_238 : Cond.methodLink RX12 238 yX12_readsCompared ∈ q_tbl := q_in 1343 rfl rfl
set_option maxRecDepth 100000 in
theorem ml_X12_241 : Cond.methodLink RX12 241 yX12_lands ∈ q_tbl := q_in 1351 rfl rfl
set_option maxRecDepth 100000 in
theorem ml_X12_244 : Cond.methodLink RX12 244 yX12_jumps ∈ q_tbl := q_in 1355 rfl rfl
set_option maxRecDepth 100000 in
theorem ml_X12_247 : Cond.methodLink RX12 247 yX12_isClause ∈ q_tbl := q_in 1289 rfl rfl
set_option maxRecDepth 100000 in
theorem ml_X12_253 : Cond.methodLink RX12 253 yX12_readsCondition ∈ q_tbl := q_in 1339 rfl rfl
set_option maxRecDepth 100000 in
theorem ml_X12_256 : Cond.methodLink RX12 256 yX12_readsClause ∈ q_tbl := q_in 1281 rfl rfl
set_option maxRecDepth 100000 in
theorem ml_X12_259 : Cond.methodLink RX12 259 yX12_takes ∈ q_tbl := q_in 1359 rfl rfl
set_option maxRecDepth 100000 in
theorem ml_X12_265 : Cond.methodLink RX12 265 yX12_reckon ∈ q_tbl := q_in 1382 rfl rfl
set_option maxRecDepth 100000 in
theorem ml_X12_269 : Cond.methodLink RX12 269 yX12_comesTo ∈ q_tbl := q_in 1378 rfl rfl
set_option maxRecDepth 100000 in
theorem ml_X12_273 : Cond.methodLink RX12 273 yX12_feelsKind ∈ q_tbl := q_in 1371 rfl rfl
set_option maxRecDepth 100000 in
theorem ml_X12_276 : Cond.methodLink RX12 276 yX12_bits ∈ q_tbl := q_in 1375 rfl rfl
set_option maxRecDepth 100000 in
theorem ml_X12_279 : Cond.methodLink RX12 279 yX12_isLike ∈ q_tbl := q_in 1367 rfl rfl
set_option maxRecDepth 100000 in
theorem ml_X12_282 : Cond.methodLink RX12 282 yX12_at ∈ q_tbl := q_in 1401 rfl rfl
set_option maxRecDepth 100000 in
theorem ml_X12_285 : Cond.methodLink RX12 285 yX12_allTries ∈ q_tbl := q_in 1408 rfl rfl
set_option maxRecDepth 100000 in
theorem ml_X12_288 : Cond.methodLink RX12 288 yX12_feels ∈ q_tbl := q_in 1404 rfl rfl
set_option maxRecDepth 100000 in
theorem ml_X12_292 : Cond.methodLink RX12 292 yX12_byLaw ∈ q_tbl := q_in 1412 rfl rfl
set_option maxRecDepth 100000 in
theorem ml_X12_295 : Cond.methodLink RX12 295 yX12_forgets ∈ q_tbl := q_in 1397 rfl rfl
set_option maxRecDepth 100000 in
theorem ml_X12_298 : Cond.methodLink RX12 298 yX12_oldOnes ∈ q_tbl := q_in 1416 rfl rfl
set_option maxRecDepth 100000 in
theorem ml_X12_301 : Cond.methodLink RX12 301 yX12_voidFor ∈ q_tbl := q_in 1420 rfl rfl
set_option maxRecDepth 100000 in
theorem ml_X12_304 : Cond.methodLink RX12 304 yX12_hasNeeds ∈ q_tbl := q_in 1424 rfl rfl
set_option maxRecDepth 100000 in
theorem ml_X12_307 : Cond.methodLink RX12 307 yX12_min ∈ q_tbl := q_in 1428 rfl rfl
set_option maxRecDepth 100000 in
theorem ml_X12_310 : Cond.methodLink RX12 310 yX12_isPerson ∈ q_tbl := q_in 1389 rfl rfl
set_option maxRecDepth 100000 in
theorem ml_X12_313 : Cond.methodLink RX12 313 yX12_triesNow ∈ q_tbl := q_in 1393 rfl rfl
set_option maxRecDepth 100000 in
theorem ml_X12_316 : Cond.methodLink RX12 316 yX12_costOf ∈ q_tbl := q_in 1435 rfl rfl
set_option maxRecDepth 100000 in
theorem ml_X12_319 : Cond.methodLink RX12 319 yX12_copies ∈ q_tbl := q_in 1447 rfl rfl
set_option maxRecDepth 100000 in
theorem ml_X12_329 : Cond.methodLink RX12 329 yX12_endsRound ∈ q_tbl := q_in 1458 rfl rfl
set_option maxRecDepth 100000 in
theorem ml_X12_332 : Cond.methodLink RX12 332 yX12_readsStep ∈ q_tbl := q_in 1454 rfl rfl
set_option maxRecDepth 100000 in
theorem ml_X12_353 : Cond.methodLink RX12 353 yX12_notesTry ∈ q_tbl := q_in 1474 rfl rfl
set_option maxRecDepth 100000 in
theorem ml_X12_356 : Cond.methodLink RX12 356 yX12_dayOf ∈ q_tbl := q_in 1470 rfl rfl
set_option maxRecDepth 100000 in
theorem ml_X12_359 : Cond.methodLink RX12 359 yX12_daysGo ∈ q_tbl := q_in 1466 rfl rfl
set_option maxRecDepth 100000 in
theorem ml_X12_368 : Cond.methodLink RX12 368 yX12_areCounted ∈ q_tbl := q_in 1527 rfl rfl
set_option maxRecDepth 100000 in
theorem ml_X12_371 : Cond.methodLink RX12 371 yX12_stateNow ∈ q_tbl := q_in 1539 rfl rfl
set_option maxRecDepth 100000 in
theorem ml_X12_374 : Cond.methodLink RX12 374 yX12_goesNow ∈ q_tbl := q_in 1519 rfl rfl
set_option maxRecDepth 100000 in
theorem ml_X12_377 : Cond.methodLink RX12 377 yX12_wouldCount ∈ q_tbl := q_in 1523 rfl rfl
set_option maxRecDepth 100000 in
theorem ml_X12_380 : Cond.methodLink RX12 380 yX12_wayWith ∈ q_tbl := q_in 1531 rfl rfl
set_option maxRecDepth 100000 in
theorem ml_X12_383 : Cond.methodLink RX12 383 yX12_marks ∈ q_tbl := q_in 1535 rfl rfl
set_option maxRecDepth 100000 in
theorem ml_X12_386 : Cond.methodLink RX12 386 yX12_areSome ∈ q_tbl := q_in 1486 rfl rfl
set_option maxRecDepth 100000 in
theorem ml_X12_389 : Cond.methodLink RX12 389 yX12_laysOwn ∈ q_tbl := q_in 1490 rfl rfl
set_option maxRecDepth 100000 in
theorem ml_X12_392 : Cond.methodLink RX12 392 yX12_statesAll ∈ q_tbl := q_in 1494 rfl rfl
set_option maxRecDepth 100000 in
theorem ml_X12_395 : Cond.methodLink RX12 395 yX12_placeOf ∈ q_tbl := q_in 1498 rfl rfl
set_option maxRecDepth 100000 in
theorem ml_X12_399 : Cond.methodLink RX12 399 yX12_takesState ∈ q_tbl := q_in 1503 rfl rfl
set_option maxRecDepth 100000 in
theorem ml_X12_402 : Cond.methodLink RX12 402 yX12_hoursNow ∈ q_tbl := q_in 1507 rfl rfl
set_option maxRecDepth 100000 in
theorem ml_X12_405 : Cond.methodLink RX12 405 yX12_madeNow ∈ q_tbl := q_in 1511 rfl rfl
set_option maxRecDepth 100000 in
theorem ml_X12_408 : Cond.methodLink RX12 408 yX12_spreads ∈ q_tbl := q_in 1515 rfl rfl
set_option maxRecDepth 100000 in
theorem ml_X12_411 : Cond.methodLink RX12 411 yX12_leastPrice ∈ q_tbl := q_in 1547 rfl rfl
set_option maxRecDepth 100000 in
theorem ml_X12_414 : Cond.methodLink RX12 414 yX12_marksBought ∈ q_tbl := q_in 1551 rfl rfl
set_option maxRecDepth 100000 in
theorem ml_X12_417 : Cond.methodLink RX12 417 yX12_coinsNow ∈ q_tbl := q_in 1555 rfl rfl
set_option maxRecDepth 100000 in
theorem ml_X12_420 : Cond.methodLink RX12 420 yX12_finds ∈ q_tbl := q_in 1563 rfl rfl
set_option maxRecDepth 100000 in
theorem ml_X12_426 : Cond.methodLink RX12 426 yX12_whoDoes ∈ q_tbl := q_in 1583 rfl rfl
set_option maxRecDepth 100000 in
theorem ml_X12_429 : Cond.methodLink RX12 429 yX12_jobNeeds ∈ q_tbl := q_in 1587 rfl rfl
set_option maxRecDepth 100000 in
theorem ml_X12_432 : Cond.methodLink RX12 432 yX12_jobCounts ∈ q_tbl := q_in 1591 rfl rfl
set_option maxRecDepth 100000 in
theorem ml_X12_438 : Cond.methodLink RX12 438 yX12_hoursBy ∈ q_tbl := q_in 1579 rfl rfl
set_option maxRecDepth 100000 in
theorem ml_X12_441 : Cond.methodLink RX12 441 yX12_max ∈ q_tbl := q_in 1595 rfl rfl
set_option maxRecDepth 100000 in
theorem ml_X12_444 : Cond.methodLink RX12 444 yX12_takesJobs ∈ q_tbl := q_in 1571 rfl rfl
set_option maxRecDepth 100000 in
theorem ml_X12_447 : Cond.methodLink RX12 447 yX12_longestBy ∈ q_tbl := q_in 1575 rfl rfl
set_option maxRecDepth 100000 in
theorem ml_X12_450 : Cond.methodLink RX12 450 yX12_gainOf ∈ q_tbl := q_in 1602 rfl rfl
set_option maxRecDepth 100000 in
theorem ml_X12_457 : Cond.methodLink RX12 457 yX12_begins ∈ q_tbl := q_in 1617 rfl rfl
set_option maxRecDepth 100000 in
theorem ml_X12_460 : Cond.methodLink RX12 460 yX12_pastCounts ∈ q_tbl := q_in 1621 rfl rfl
set_option maxRecDepth 100000 in
theorem ml_X12_463 : Cond.methodLink RX12 463 yX12_goesWith ∈ q_tbl := q_in 1613 rfl rfl
set_option maxRecDepth 100000 in
theorem ml_X12_466 : Cond.methodLink RX12 466 yX12_takesPast ∈ q_tbl := q_in 1609 rfl rfl
set_option maxRecDepth 100000 in
theorem ml_X12_469 : Cond.methodLink RX12 469 yX12_greaterBy ∈ q_tbl := q_in 1625 rfl rfl
set_option maxRecDepth 100000 in
theorem ml_X12_472 : Cond.methodLink RX12 472 yX12_heapUnit ∈ q_tbl := q_in 1647 rfl rfl
set_option maxRecDepth 100000 in
theorem ml_X12_475 : Cond.methodLink RX12 475 yX12_gameState ∈ q_tbl := q_in 1633 rfl rfl
set_option maxRecDepth 100000 in
theorem ml_X12_479 : Cond.methodLink RX12 479 yX12_heapIn ∈ q_tbl := q_in 1640 rfl rfl
set_option maxRecDepth 100000 in
theorem ml_X12_482 : Cond.methodLink RX12 482 yX12_wins ∈ q_tbl := q_in 1643 rfl rfl
set_option maxRecDepth 100000 in
theorem ml_X12_486 : Cond.methodLink RX12 486 yX12_winningMove ∈ q_tbl := q_in 1636 rfl rfl
set_option maxRecDepth 100000 in
theorem ml_X12_493 : Cond.methodLink RX12 493 yX12_tapeNumber ∈ q_tbl := q_in 1666 rfl rfl
set_option maxRecDepth 100000 in
theorem ml_X12_496 : Cond.methodLink RX12 496 yX12_sumOf ∈ q_tbl := q_in 1674 rfl rfl
set_option maxRecDepth 100000 in
theorem kc_X11_103 : Cond.constant RX11 103 99999 ∈ q_tbl := q_in 492 rfl rfl
set_option maxRecDepth 100000 in
theorem kc_X11_203 : Cond.constant RX11 203 1048576 ∈ q_tbl := q_in 853 rfl rfl
set_option maxRecDepth 100000 in
theorem kc_X0_83 : Cond.constant RX0 83 99999 ∈ q_tbl := q_in 748 rfl rfl
set_option maxRecDepth 100000 in
theorem kc_X5_102 : Cond.constant RX5 102 1048576 ∈ q_tbl := q_in 913 rfl rfl
set_option maxRecDepth 100000 in
theorem kc_X7_95 : Cond.constant RX7 95 1048576 ∈ q_tbl := q_in 844 rfl rfl
set_option maxRecDepth 100000 in
theorem kc_X12_107 : Cond.constant RX12 107 160000 ∈ q_tbl := q_in 1038 rfl rfl
set_option maxRecDepth 100000 in
theorem kc_X12_161 : Cond.constant RX12 161 99999 ∈ q_tbl := q_in 1268 rfl rfl
set_option maxRecDepth 100000 in
theorem kc_X12_195 : Cond.constant RX12 195 1048576 ∈ q_tbl := q_in 1308 rfl rfl
set_option maxRecDepth 100000 in
theorem kc_X12_398 : Cond.constant RX12 398 1000000000 ∈ q_tbl := q_in 1502 rfl rfl
set_option maxRecDepth 100000 in
theorem kc_J6_265 : Cond.constant RJ6 265 1431655765 ∈ q_tbl := q_in 674 rfl rfl
set_option maxRecDepth 100000 in
theorem kc_J6_266 : Cond.constant RJ6 266 858993459 ∈ q_tbl := q_in 675 rfl rfl
set_option maxRecDepth 100000 in
theorem kc_J6_267 : Cond.constant RJ6 267 252645135 ∈ q_tbl := q_in 676 rfl rfl
set_option maxRecDepth 100000 in
theorem ac_nat : Cond.native arraycopyName ∈ q_tbl := q_in 645 rfl rfl
set_option maxRecDepth 100000 in
theorem ac_stat : Cond.static arraycopyName ∈ q_tbl := q_in 644 rfl rfl
set_option maxRecDepth 100000 in
theorem ac_ini : Cond.initialized "java/lang/System" ∈ q_tbl := q_in 15 rfl rfl
set_option maxRecDepth 100000 in
theorem mm_max_c : Cond.code Lib.Math.max.name Lib.Math.max.code 2 (some .int) ∈ q_tbl := q_in 687 (by decide +kernel) rfl
set_option maxRecDepth 100000 in
theorem mm_max_s : Cond.static Lib.Math.max.name ∈ q_tbl := q_in 686 (by decide +kernel) rfl
set_option maxRecDepth 100000 in
theorem mm_min_c : Cond.code Lib.Math.min.name Lib.Math.min.code 2 (some .int) ∈ q_tbl := q_in 519 (by decide +kernel) rfl
set_option maxRecDepth 100000 in
theorem mm_min_s : Cond.static Lib.Math.min.name ∈ q_tbl := q_in 518 (by decide +kernel) rfl
set_option maxRecDepth 100000 in
theorem mm_i : Cond.initialized "java/lang/Math" ∈ q_tbl := q_in 14 (by decide +kernel) rfl
end
section
set_option maxRecDepth 100000 in
theorem zs_J6_bitCount_0f7a4 : qZS zJ6_bitCount_0f7a4 1 := ⟨⟨q_in 673 rfl rfl, q_in 17 rfl rfl, by decide +kernel, by decide +kernel, by decide +kernel, by decide +kernel, by decide⟩, q_in 672 rfl rfl⟩
set_option maxRecDepth 100000 in
theorem zs_J7_fill_53178 : qZS zJ7_fill_53178 2 := ⟨⟨q_in 665 rfl rfl, q_in 16 rfl rfl, by decide +kernel, by decide +kernel, by decide +kernel, by decide +kernel, by decide⟩, q_in 664 rfl rfl⟩
set_option maxRecDepth 100000 in
theorem zv_X0_attempt : qZV zX0_attempt 4 := ⟨⟨q_in 654 rfl rfl, q_in 7 rfl rfl, by decide +kernel, by decide +kernel, by decide +kernel, by decide +kernel, by decide⟩, q_in 652 rfl rfl, q_in 653 rfl rfl⟩
set_option maxRecDepth 100000 in
theorem zv_X0_buyGo : qZV zX0_buyGo 4 := ⟨⟨q_in 743 rfl rfl, q_in 7 rfl rfl, by decide +kernel, by decide +kernel, by decide +kernel, by decide +kernel, by decide⟩, q_in 741 rfl rfl, q_in 742 rfl rfl⟩
set_option maxRecDepth 100000 in
theorem zv_X0_cameOfDays : qZV zX0_cameOfDays 1 := ⟨⟨q_in 784 rfl rfl, q_in 7 rfl rfl, by decide +kernel, by decide +kernel, by decide +kernel, by decide +kernel, by decide⟩, q_in 782 rfl rfl, q_in 783 rfl rfl⟩
set_option maxRecDepth 100000 in
theorem zv_X0_doSteps : qZV zX0_doSteps 2 := ⟨⟨q_in 762 rfl rfl, q_in 7 rfl rfl, by decide +kernel, by decide +kernel, by decide +kernel, by decide +kernel, by decide⟩, q_in 761 rfl rfl, q_inS 19 rfl rfl⟩
set_option maxRecDepth 100000 in
theorem zv_X0_forget : qZV zX0_forget 3 := ⟨⟨q_in 691 rfl rfl, q_in 7 rfl rfl, by decide +kernel, by decide +kernel, by decide +kernel, by decide +kernel, by decide⟩, q_in 690 rfl rfl, q_inS 17 rfl rfl⟩
set_option maxRecDepth 100000 in
theorem zv_X0_goDays : qZV zX0_goDays 2 := ⟨⟨q_in 757 rfl rfl, q_in 7 rfl rfl, by decide +kernel, by decide +kernel, by decide +kernel, by decide +kernel, by decide⟩, q_in 755 rfl rfl, q_in 756 rfl rfl⟩
set_option maxRecDepth 100000 in
theorem zv_X0_noteOutcome : qZV zX0_noteOutcome 4 := ⟨⟨q_in 768 rfl rfl, q_in 7 rfl rfl, by decide +kernel, by decide +kernel, by decide +kernel, by decide +kernel, by decide⟩, q_in 767 rfl rfl, q_inS 20 rfl rfl⟩
set_option maxRecDepth 100000 in
theorem zv_X0_price : qZV zX0_price 4 := ⟨⟨q_in 747 rfl rfl, q_in 7 rfl rfl, by decide +kernel, by decide +kernel, by decide +kernel, by decide +kernel, by decide⟩, q_in 745 rfl rfl, q_in 746 rfl rfl⟩
set_option maxRecDepth 100000 in
theorem zv_X0_tellAll : qZV zX0_tellAll 4 := ⟨⟨q_in 695 rfl rfl, q_in 7 rfl rfl, by decide +kernel, by decide +kernel, by decide +kernel, by decide +kernel, by decide⟩, q_in 693 rfl rfl, q_in 694 rfl rfl⟩
set_option maxRecDepth 100000 in
theorem zv_X10_addCounted : qZV zX10_addCounted 2 := ⟨⟨q_in 731 rfl rfl, q_in 4 rfl rfl, by decide +kernel, by decide +kernel, by decide +kernel, by decide +kernel, by decide⟩, q_in 729 rfl rfl, q_in 730 rfl rfl⟩
set_option maxRecDepth 100000 in
theorem zv_X10_addTry : qZV zX10_addTry 2 := ⟨⟨q_in 722 rfl rfl, q_in 4 rfl rfl, by decide +kernel, by decide +kernel, by decide +kernel, by decide +kernel, by decide⟩, q_in 720 rfl rfl, q_in 721 rfl rfl⟩
set_option maxRecDepth 100000 in
theorem zv_X10_copy : qZV zX10_copy 1 := ⟨⟨q_in 776 rfl rfl, q_in 4 rfl rfl, by decide +kernel, by decide +kernel, by decide +kernel, by decide +kernel, by decide⟩, q_in 774 rfl rfl, q_in 775 rfl rfl⟩
set_option maxRecDepth 100000 in
theorem zv_X10_hasCounted : qZV zX10_hasCounted 2 := ⟨⟨q_in 727 rfl rfl, q_in 4 rfl rfl, by decide +kernel, by decide +kernel, by decide +kernel, by decide +kernel, by decide⟩, q_in 725 rfl rfl, q_in 726 rfl rfl⟩
set_option maxRecDepth 100000 in
theorem zv_X10_knows : qZV zX10_knows 1 := ⟨⟨q_in 607 rfl rfl, q_in 4 rfl rfl, by decide +kernel, by decide +kernel, by decide +kernel, by decide +kernel, by decide⟩, q_in 605 rfl rfl, q_in 606 rfl rfl⟩
set_option maxRecDepth 100000 in
theorem zv_X10_knowsAll : qZV zX10_knowsAll 1 := ⟨⟨q_in 897 rfl rfl, q_in 4 rfl rfl, by decide +kernel, by decide +kernel, by decide +kernel, by decide +kernel, by decide⟩, q_in 895 rfl rfl, q_in 896 rfl rfl⟩
set_option maxRecDepth 100000 in
theorem zv_X10_stepsLeft : qZV zX10_stepsLeft 1 := ⟨⟨q_in 780 rfl rfl, q_in 4 rfl rfl, by decide +kernel, by decide +kernel, by decide +kernel, by decide +kernel, by decide⟩, q_in 778 rfl rfl, q_in 779 rfl rfl⟩
set_option maxRecDepth 100000 in
theorem zv_X10_sumOf : qZV zX10_sumOf 2 := ⟨⟨q_in 1031 rfl rfl, q_in 4 rfl rfl, by decide +kernel, by decide +kernel, by decide +kernel, by decide +kernel, by decide⟩, q_in 1029 rfl rfl, q_in 1030 rfl rfl⟩
set_option maxRecDepth 100000 in
theorem zv_X10_takePlan : qZV zX10_takePlan 2 := ⟨⟨q_in 642 rfl rfl, q_in 4 rfl rfl, by decide +kernel, by decide +kernel, by decide +kernel, by decide +kernel, by decide⟩, q_in 640 rfl rfl, q_in 641 rfl rfl⟩
set_option maxRecDepth 100000 in
theorem zv_X10_triesAmong : qZV zX10_triesAmong 2 := ⟨⟨q_in 713 rfl rfl, q_in 4 rfl rfl, by decide +kernel, by decide +kernel, by decide +kernel, by decide +kernel, by decide⟩, q_in 711 rfl rfl, q_in 712 rfl rfl⟩
set_option maxRecDepth 100000 in
theorem zv_X10_triesByAll : qZV zX10_triesByAll 1 := ⟨⟨q_in 700 rfl rfl, q_in 4 rfl rfl, by decide +kernel, by decide +kernel, by decide +kernel, by decide +kernel, by decide⟩, q_in 698 rfl rfl, q_in 699 rfl rfl⟩
set_option maxRecDepth 100000 in
theorem zv_X11_alike : qZV zX11_alike 2 := ⟨⟨q_in 792 rfl rfl, q_in 1 rfl rfl, by decide +kernel, by decide +kernel, by decide +kernel, by decide +kernel, by decide⟩, q_in 790 rfl rfl, q_in 791 rfl rfl⟩
set_option maxRecDepth 100000 in
theorem zs_X11_bestMove : qZS zX11_bestMove 3 := ⟨⟨q_in 991 rfl rfl, q_in 1 rfl rfl, by decide +kernel, by decide +kernel, by decide +kernel, by decide +kernel, by decide⟩, q_in 990 rfl rfl⟩
set_option maxRecDepth 100000 in
theorem zv_X11_buys : qZV zX11_buys 3 := ⟨⟨q_in 735 rfl rfl, q_in 1 rfl rfl, by decide +kernel, by decide +kernel, by decide +kernel, by decide +kernel, by decide⟩, q_in 733 rfl rfl, q_in 734 rfl rfl⟩
set_option maxRecDepth 100000 in
theorem zv_X11_canChoose : qZV zX11_canChoose 3 := ⟨⟨q_in 809 rfl rfl, q_in 1 rfl rfl, by decide +kernel, by decide +kernel, by decide +kernel, by decide +kernel, by decide⟩, q_in 808 rfl rfl, q_inS 21 rfl rfl⟩
set_option maxRecDepth 100000 in
theorem zv_X11_canDeal : qZV zX11_canDeal 3 := ⟨⟨q_in 739 rfl rfl, q_in 1 rfl rfl, by decide +kernel, by decide +kernel, by decide +kernel, by decide +kernel, by decide⟩, q_in 738 rfl rfl, q_inS 18 rfl rfl⟩
set_option maxRecDepth 100000 in
theorem zv_X11_cheapest : qZV zX11_cheapest 5 := ⟨⟨q_in 857 rfl rfl, q_in 1 rfl rfl, by decide +kernel, by decide +kernel, by decide +kernel, by decide +kernel, by decide⟩, q_in 855 rfl rfl, q_in 856 rfl rfl⟩
set_option maxRecDepth 100000 in
theorem zv_X11_check : qZV zX11_check 2 := ⟨⟨q_in 1010 rfl rfl, q_in 1 rfl rfl, by decide +kernel, by decide +kernel, by decide +kernel, by decide +kernel, by decide⟩, q_in 1008 rfl rfl, q_in 1009 rfl rfl⟩
set_option maxRecDepth 100000 in
theorem zv_X11_cost : qZV zX11_cost 3 := ⟨⟨q_in 800 rfl rfl, q_in 1 rfl rfl, by decide +kernel, by decide +kernel, by decide +kernel, by decide +kernel, by decide⟩, q_in 798 rfl rfl, q_in 799 rfl rfl⟩
set_option maxRecDepth 100000 in
theorem zv_X11_count : qZV zX11_count 1 := ⟨⟨q_in 1019 rfl rfl, q_in 1 rfl rfl, by decide +kernel, by decide +kernel, by decide +kernel, by decide +kernel, by decide⟩, q_in 1017 rfl rfl, q_in 1018 rfl rfl⟩
set_option maxRecDepth 100000 in
theorem zv_X11_countOfKind : qZV zX11_countOfKind 1 := ⟨⟨q_in 1023 rfl rfl, q_in 1 rfl rfl, by decide +kernel, by decide +kernel, by decide +kernel, by decide +kernel, by decide⟩, q_in 1022 rfl rfl, q_inS 36 rfl rfl⟩
set_option maxRecDepth 100000 in
theorem zv_X11_countOfPerson : qZV zX11_countOfPerson 1 := ⟨⟨q_in 1027 rfl rfl, q_in 1 rfl rfl, by decide +kernel, by decide +kernel, by decide +kernel, by decide +kernel, by decide⟩, q_in 1026 rfl rfl, q_inS 37 rfl rfl⟩
set_option maxRecDepth 100000 in
theorem zv_X11_court : qZV zX11_court 6 := ⟨⟨q_in 998 rfl rfl, q_in 1 rfl rfl, by decide +kernel, by decide +kernel, by decide +kernel, by decide +kernel, by decide⟩, q_in 996 rfl rfl, q_in 997 rfl rfl⟩
set_option maxRecDepth 100000 in
theorem zv_X11_days : qZV zX11_days 1 := ⟨⟨q_in 753 rfl rfl, q_in 1 rfl rfl, by decide +kernel, by decide +kernel, by decide +kernel, by decide +kernel, by decide⟩, q_in 751 rfl rfl, q_in 752 rfl rfl⟩
set_option maxRecDepth 100000 in
theorem zv_X11_feed : qZV zX11_feed 5 := ⟨⟨q_in 496 rfl rfl, q_in 1 rfl rfl, by decide +kernel, by decide +kernel, by decide +kernel, by decide +kernel, by decide⟩, q_in 494 rfl rfl, q_in 495 rfl rfl⟩
set_option maxRecDepth 100000 in
theorem zv_X11_game : qZV zX11_game 6 := ⟨⟨q_in 985 rfl rfl, q_in 1 rfl rfl, by decide +kernel, by decide +kernel, by decide +kernel, by decide +kernel, by decide⟩, q_in 983 rfl rfl, q_in 984 rfl rfl⟩
set_option maxRecDepth 100000 in
theorem zv_X11_has : qZV zX11_has 3 := ⟨⟨q_in 788 rfl rfl, q_in 1 rfl rfl, by decide +kernel, by decide +kernel, by decide +kernel, by decide +kernel, by decide⟩, q_in 786 rfl rfl, q_in 787 rfl rfl⟩
set_option maxRecDepth 100000 in
theorem zv_X11_histories : qZV zX11_histories 4 := ⟨⟨q_in 951 rfl rfl, q_in 1 rfl rfl, by decide +kernel, by decide +kernel, by decide +kernel, by decide +kernel, by decide⟩, q_in 949 rfl rfl, q_in 950 rfl rfl⟩
set_option maxRecDepth 100000 in
theorem zs_X11_isHeap : qZS zX11_isHeap 1 := ⟨⟨q_in 988 rfl rfl, q_in 1 rfl rfl, by decide +kernel, by decide +kernel, by decide +kernel, by decide +kernel, by decide⟩, q_in 987 rfl rfl⟩
set_option maxRecDepth 100000 in
theorem zs_X11_isSettled : qZS zX11_isSettled 3 := ⟨⟨q_in 944 rfl rfl, q_in 1 rfl rfl, by decide +kernel, by decide +kernel, by decide +kernel, by decide +kernel, by decide⟩, q_in 943 rfl rfl⟩
set_option maxRecDepth 100000 in
theorem zv_X11_jobs : qZV zX11_jobs 3 := ⟨⟨q_in 883 rfl rfl, q_in 1 rfl rfl, by decide +kernel, by decide +kernel, by decide +kernel, by decide +kernel, by decide⟩, q_in 881 rfl rfl, q_in 882 rfl rfl⟩
set_option maxRecDepth 100000 in
theorem zv_X11_keep : qZV zX11_keep 0 := ⟨⟨q_in 1002 rfl rfl, q_in 1 rfl rfl, by decide +kernel, by decide +kernel, by decide +kernel, by decide +kernel, by decide⟩, q_in 1000 rfl rfl, q_in 1001 rfl rfl⟩
set_option maxRecDepth 100000 in
theorem zv_X11_kind : qZV zX11_kind 4 := ⟨⟨q_in 475 rfl rfl, q_in 1 rfl rfl, by decide +kernel, by decide +kernel, by decide +kernel, by decide +kernel, by decide⟩, q_in 473 rfl rfl, q_in 474 rfl rfl⟩
set_option maxRecDepth 100000 in
theorem zv_X11_law : qZV zX11_law 1 := ⟨⟨q_in 504 rfl rfl, q_in 1 rfl rfl, by decide +kernel, by decide +kernel, by decide +kernel, by decide +kernel, by decide⟩, q_in 502 rfl rfl, q_in 503 rfl rfl⟩
set_option maxRecDepth 100000 in
theorem zv_X11_loophole : qZV zX11_loophole 3 := ⟨⟨q_in 875 rfl rfl, q_in 1 rfl rfl, by decide +kernel, by decide +kernel, by decide +kernel, by decide +kernel, by decide⟩, q_in 873 rfl rfl, q_in 874 rfl rfl⟩
set_option maxRecDepth 100000 in
theorem zs_X11_nextOneWins : qZS zX11_nextOneWins 2 := ⟨⟨q_in 994 rfl rfl, q_in 1 rfl rfl, by decide +kernel, by decide +kernel, by decide +kernel, by decide +kernel, by decide⟩, q_in 993 rfl rfl⟩
set_option maxRecDepth 100000 in
theorem zs_X11_pence : qZS zX11_pence 4 := ⟨⟨q_in 947 rfl rfl, q_in 1 rfl rfl, by decide +kernel, by decide +kernel, by decide +kernel, by decide +kernel, by decide⟩, q_in 946 rfl rfl⟩
set_option maxRecDepth 100000 in
theorem zv_X11_person : qZV zX11_person 2 := ⟨⟨q_in 491 rfl rfl, q_in 1 rfl rfl, by decide +kernel, by decide +kernel, by decide +kernel, by decide +kernel, by decide⟩, q_in 489 rfl rfl, q_in 490 rfl rfl⟩
set_option maxRecDepth 100000 in
theorem zv_X11_plan : qZV zX11_plan 2 := ⟨⟨q_in 603 rfl rfl, q_in 1 rfl rfl, by decide +kernel, by decide +kernel, by decide +kernel, by decide +kernel, by decide⟩, q_in 601 rfl rfl, q_in 602 rfl rfl⟩
set_option maxRecDepth 100000 in
theorem zv_X11_rivals : qZV zX11_rivals 3 := ⟨⟨q_in 941 rfl rfl, q_in 1 rfl rfl, by decide +kernel, by decide +kernel, by decide +kernel, by decide +kernel, by decide⟩, q_in 939 rfl rfl, q_in 940 rfl rfl⟩
set_option maxRecDepth 100000 in
theorem zv_X11_soonest : qZV zX11_soonest 5 := ⟨⟨q_in 805 rfl rfl, q_in 1 rfl rfl, by decide +kernel, by decide +kernel, by decide +kernel, by decide +kernel, by decide⟩, q_in 803 rfl rfl, q_in 804 rfl rfl⟩
set_option maxRecDepth 100000 in
theorem zv_X11_tried : qZV zX11_tried 2 := ⟨⟨q_in 772 rfl rfl, q_in 1 rfl rfl, by decide +kernel, by decide +kernel, by decide +kernel, by decide +kernel, by decide⟩, q_in 770 rfl rfl, q_in 771 rfl rfl⟩
set_option maxRecDepth 100000 in
theorem zv_X11_tries : qZV zX11_tries 3 := ⟨⟨q_in 649 rfl rfl, q_in 1 rfl rfl, by decide +kernel, by decide +kernel, by decide +kernel, by decide +kernel, by decide⟩, q_in 647 rfl rfl, q_in 648 rfl rfl⟩
set_option maxRecDepth 100000 in
theorem zv_X11_undo : qZV zX11_undo 0 := ⟨⟨q_in 1006 rfl rfl, q_in 1 rfl rfl, by decide +kernel, by decide +kernel, by decide +kernel, by decide +kernel, by decide⟩, q_in 1004 rfl rfl, q_in 1005 rfl rfl⟩
set_option maxRecDepth 100000 in
theorem zv_X12_alike : qZV zX12_alike 2 := ⟨⟨q_in 1366 rfl rfl, q_in 13 rfl rfl, by decide +kernel, by decide +kernel, by decide +kernel, by decide +kernel, by decide⟩, q_in 1364 rfl rfl, q_in 1365 rfl rfl⟩
set_option maxRecDepth 100000 in
theorem zv_X12_allTries : qZV zX12_allTries 1 := ⟨⟨q_in 1411 rfl rfl, q_in 13 rfl rfl, by decide +kernel, by decide +kernel, by decide +kernel, by decide +kernel, by decide⟩, q_in 1410 rfl rfl, q_inS 66 rfl rfl⟩
set_option maxRecDepth 100000 in
theorem zv_X12_areCounted : qZV zX12_areCounted 1 := ⟨⟨q_in 1530 rfl rfl, q_in 13 rfl rfl, by decide +kernel, by decide +kernel, by decide +kernel, by decide +kernel, by decide⟩, q_in 1529 rfl rfl, q_inS 87 rfl rfl⟩
set_option maxRecDepth 100000 in
theorem zv_X12_areSome : qZV zX12_areSome 3 := ⟨⟨q_in 1489 rfl rfl, q_in 13 rfl rfl, by decide +kernel, by decide +kernel, by decide +kernel, by decide +kernel, by decide⟩, q_in 1488 rfl rfl, q_inS 77 rfl rfl⟩
set_option maxRecDepth 100000 in
theorem zs_X12_at : qZS zX12_at 2 := ⟨⟨q_in 1403 rfl rfl, q_in 13 rfl rfl, by decide +kernel, by decide +kernel, by decide +kernel, by decide +kernel, by decide⟩, q_in 1402 rfl rfl⟩
set_option maxRecDepth 100000 in
theorem zv_X12_begins : qZV zX12_begins 1 := ⟨⟨q_in 1620 rfl rfl, q_in 13 rfl rfl, by decide +kernel, by decide +kernel, by decide +kernel, by decide +kernel, by decide⟩, q_in 1619 rfl rfl, q_inS 103 rfl rfl⟩
set_option maxRecDepth 100000 in
theorem zs_X12_bits : qZS zX12_bits 1 := ⟨⟨q_in 1377 rfl rfl, q_in 13 rfl rfl, by decide +kernel, by decide +kernel, by decide +kernel, by decide +kernel, by decide⟩, q_in 1376 rfl rfl⟩
set_option maxRecDepth 100000 in
theorem zv_X12_buys : qZV zX12_buys 3 := ⟨⟨q_in 1442 rfl rfl, q_in 13 rfl rfl, by decide +kernel, by decide +kernel, by decide +kernel, by decide +kernel, by decide⟩, q_in 1440 rfl rfl, q_in 1441 rfl rfl⟩
set_option maxRecDepth 100000 in
theorem zv_X12_byLaw : qZV zX12_byLaw 3 := ⟨⟨q_in 1415 rfl rfl, q_in 13 rfl rfl, by decide +kernel, by decide +kernel, by decide +kernel, by decide +kernel, by decide⟩, q_in 1414 rfl rfl, q_inS 67 rfl rfl⟩
set_option maxRecDepth 100000 in
theorem zv_X12_cheapest : qZV zX12_cheapest 5 := ⟨⟨q_in 1546 rfl rfl, q_in 13 rfl rfl, by decide +kernel, by decide +kernel, by decide +kernel, by decide +kernel, by decide⟩, q_in 1544 rfl rfl, q_in 1545 rfl rfl⟩
set_option maxRecDepth 100000 in
theorem zv_X12_check : qZV zX12_check 2 := ⟨⟨q_in 1665 rfl rfl, q_in 13 rfl rfl, by decide +kernel, by decide +kernel, by decide +kernel, by decide +kernel, by decide⟩, q_in 1663 rfl rfl, q_in 1664 rfl rfl⟩
set_option maxRecDepth 100000 in
theorem zv_X12_closesSums : qZV zX12_closesSums 1 := ⟨⟨q_in 1330 rfl rfl, q_in 13 rfl rfl, by decide +kernel, by decide +kernel, by decide +kernel, by decide +kernel, by decide⟩, q_in 1329 rfl rfl, q_inS 50 rfl rfl⟩
set_option maxRecDepth 100000 in
theorem zv_X12_coinsNow : qZV zX12_coinsNow 0 := ⟨⟨q_in 1558 rfl rfl, q_in 13 rfl rfl, by decide +kernel, by decide +kernel, by decide +kernel, by decide +kernel, by decide⟩, q_in 1557 rfl rfl, q_inS 93 rfl rfl⟩
set_option maxRecDepth 100000 in
theorem zv_X12_comesTo : qZV zX12_comesTo 2 := ⟨⟨q_in 1381 rfl rfl, q_in 13 rfl rfl, by decide +kernel, by decide +kernel, by decide +kernel, by decide +kernel, by decide⟩, q_in 1380 rfl rfl, q_inS 61 rfl rfl⟩
set_option maxRecDepth 100000 in
theorem zs_X12_copies : qZS zX12_copies 2 := ⟨⟨q_in 1449 rfl rfl, q_in 13 rfl rfl, by decide +kernel, by decide +kernel, by decide +kernel, by decide +kernel, by decide⟩, q_in 1448 rfl rfl⟩
set_option maxRecDepth 100000 in
theorem zv_X12_cost : qZV zX12_cost 3 := ⟨⟨q_in 1434 rfl rfl, q_in 13 rfl rfl, by decide +kernel, by decide +kernel, by decide +kernel, by decide +kernel, by decide⟩, q_in 1432 rfl rfl, q_in 1433 rfl rfl⟩
set_option maxRecDepth 100000 in
theorem zv_X12_costOf : qZV zX12_costOf 3 := ⟨⟨q_in 1438 rfl rfl, q_in 13 rfl rfl, by decide +kernel, by decide +kernel, by decide +kernel, by decide +kernel, by decide⟩, q_in 1437 rfl rfl, q_inS 71 rfl rfl⟩
set_option maxRecDepth 100000 in
theorem zv_X12_count : qZV zX12_count 1 := ⟨⟨q_in 1673 rfl rfl, q_in 13 rfl rfl, by decide +kernel, by decide +kernel, by decide +kernel, by decide +kernel, by decide⟩, q_in 1671 rfl rfl, q_in 1672 rfl rfl⟩
set_option maxRecDepth 100000 in
theorem zv_X12_court : qZV zX12_court 6 := ⟨⟨q_in 1653 rfl rfl, q_in 13 rfl rfl, by decide +kernel, by decide +kernel, by decide +kernel, by decide +kernel, by decide⟩, q_in 1651 rfl rfl, q_in 1652 rfl rfl⟩
set_option maxRecDepth 100000 in
theorem zv_X12_dayOf : qZV zX12_dayOf 1 := ⟨⟨q_in 1473 rfl rfl, q_in 13 rfl rfl, by decide +kernel, by decide +kernel, by decide +kernel, by decide +kernel, by decide⟩, q_in 1472 rfl rfl, q_inS 75 rfl rfl⟩
set_option maxRecDepth 100000 in
theorem zv_X12_days : qZV zX12_days 1 := ⟨⟨q_in 1465 rfl rfl, q_in 13 rfl rfl, by decide +kernel, by decide +kernel, by decide +kernel, by decide +kernel, by decide⟩, q_in 1463 rfl rfl, q_in 1464 rfl rfl⟩
set_option maxRecDepth 100000 in
theorem zv_X12_daysGo : qZV zX12_daysGo 1 := ⟨⟨q_in 1469 rfl rfl, q_in 13 rfl rfl, by decide +kernel, by decide +kernel, by decide +kernel, by decide +kernel, by decide⟩, q_in 1468 rfl rfl, q_inS 74 rfl rfl⟩
set_option maxRecDepth 100000 in
theorem zv_X12_endsPiece : qZV zX12_endsPiece 0 := ⟨⟨q_in 1350 rfl rfl, q_in 13 rfl rfl, by decide +kernel, by decide +kernel, by decide +kernel, by decide +kernel, by decide⟩, q_in 1349 rfl rfl, q_inS 55 rfl rfl⟩
set_option maxRecDepth 100000 in
theorem zv_X12_endsRound : qZV zX12_endsRound 0 := ⟨⟨q_in 1461 rfl rfl, q_in 13 rfl rfl, by decide +kernel, by decide +kernel, by decide +kernel, by decide +kernel, by decide⟩, q_in 1460 rfl rfl, q_inS 73 rfl rfl⟩
set_option maxRecDepth 100000 in
theorem zs_X12_factOf : qZS zX12_factOf 1 := ⟨⟨q_in 1323 rfl rfl, q_in 13 rfl rfl, by decide +kernel, by decide +kernel, by decide +kernel, by decide +kernel, by decide⟩, q_in 1322 rfl rfl⟩
set_option maxRecDepth 100000 in
theorem zv_X12_feed : qZV zX12_feed 5 := ⟨⟨q_in 1272 rfl rfl, q_in 13 rfl rfl, by decide +kernel, by decide +kernel, by decide +kernel, by decide +kernel, by decide⟩, q_in 1270 rfl rfl, q_in 1271 rfl rfl⟩
set_option maxRecDepth 100000 in
theorem zv_X12_feels : qZV zX12_feels 3 := ⟨⟨q_in 1407 rfl rfl, q_in 13 rfl rfl, by decide +kernel, by decide +kernel, by decide +kernel, by decide +kernel, by decide⟩, q_in 1406 rfl rfl, q_inS 65 rfl rfl⟩
set_option maxRecDepth 100000 in
theorem zv_X12_feelsKind : qZV zX12_feelsKind 1 := ⟨⟨q_in 1374 rfl rfl, q_in 13 rfl rfl, by decide +kernel, by decide +kernel, by decide +kernel, by decide +kernel, by decide⟩, q_in 1373 rfl rfl, q_inS 60 rfl rfl⟩
set_option maxRecDepth 100000 in
theorem zv_X12_finds : qZV zX12_finds 2 := ⟨⟨q_in 1566 rfl rfl, q_in 13 rfl rfl, by decide +kernel, by decide +kernel, by decide +kernel, by decide +kernel, by decide⟩, q_in 1565 rfl rfl, q_inS 94 rfl rfl⟩
set_option maxRecDepth 100000 in
theorem zv_X12_forgets : qZV zX12_forgets 2 := ⟨⟨q_in 1400 rfl rfl, q_in 13 rfl rfl, by decide +kernel, by decide +kernel, by decide +kernel, by decide +kernel, by decide⟩, q_in 1399 rfl rfl, q_inS 64 rfl rfl⟩
set_option maxRecDepth 100000 in
theorem zs_X12_gainOf : qZS zX12_gainOf 4 := ⟨⟨q_in 1604 rfl rfl, q_in 13 rfl rfl, by decide +kernel, by decide +kernel, by decide +kernel, by decide +kernel, by decide⟩, q_in 1603 rfl rfl⟩
set_option maxRecDepth 100000 in
theorem zv_X12_game : qZV zX12_game 6 := ⟨⟨q_in 1632 rfl rfl, q_in 13 rfl rfl, by decide +kernel, by decide +kernel, by decide +kernel, by decide +kernel, by decide⟩, q_in 1630 rfl rfl, q_in 1631 rfl rfl⟩
set_option maxRecDepth 100000 in
theorem zs_X12_gameState : qZS zX12_gameState 3 := ⟨⟨q_in 1635 rfl rfl, q_in 13 rfl rfl, by decide +kernel, by decide +kernel, by decide +kernel, by decide +kernel, by decide⟩, q_in 1634 rfl rfl⟩
set_option maxRecDepth 100000 in
theorem zv_X12_goesNow : qZV zX12_goesNow 0 := ⟨⟨q_in 1522 rfl rfl, q_in 13 rfl rfl, by decide +kernel, by decide +kernel, by decide +kernel, by decide +kernel, by decide⟩, q_in 1521 rfl rfl, q_inS 85 rfl rfl⟩
set_option maxRecDepth 100000 in
theorem zv_X12_goesWith : qZV zX12_goesWith 3 := ⟨⟨q_in 1616 rfl rfl, q_in 13 rfl rfl, by decide +kernel, by decide +kernel, by decide +kernel, by decide +kernel, by decide⟩, q_in 1615 rfl rfl, q_inS 102 rfl rfl⟩
set_option maxRecDepth 100000 in
theorem zv_X12_greaterBy : qZV zX12_greaterBy 4 := ⟨⟨q_in 1628 rfl rfl, q_in 13 rfl rfl, by decide +kernel, by decide +kernel, by decide +kernel, by decide +kernel, by decide⟩, q_in 1627 rfl rfl, q_inS 105 rfl rfl⟩
set_option maxRecDepth 100000 in
theorem zv_X12_has : qZV zX12_has 3 := ⟨⟨q_in 1446 rfl rfl, q_in 13 rfl rfl, by decide +kernel, by decide +kernel, by decide +kernel, by decide +kernel, by decide⟩, q_in 1444 rfl rfl, q_in 1445 rfl rfl⟩
set_option maxRecDepth 100000 in
theorem zs_X12_has0 : qZS zX12_has0 2 := ⟨⟨q_in 1263 rfl rfl, q_in 13 rfl rfl, by decide +kernel, by decide +kernel, by decide +kernel, by decide +kernel, by decide⟩, q_in 1262 rfl rfl⟩
set_option maxRecDepth 100000 in
theorem zv_X12_hasNeeds : qZV zX12_hasNeeds 2 := ⟨⟨q_in 1427 rfl rfl, q_in 13 rfl rfl, by decide +kernel, by decide +kernel, by decide +kernel, by decide +kernel, by decide⟩, q_in 1426 rfl rfl, q_inS 70 rfl rfl⟩
set_option maxRecDepth 100000 in
theorem zv_X12_hasOpenSum : qZV zX12_hasOpenSum 1 := ⟨⟨q_in 1338 rfl rfl, q_in 13 rfl rfl, by decide +kernel, by decide +kernel, by decide +kernel, by decide +kernel, by decide⟩, q_in 1337 rfl rfl, q_inS 52 rfl rfl⟩
set_option maxRecDepth 100000 in
theorem zs_X12_heapIn : qZS zX12_heapIn 2 := ⟨⟨q_in 1642 rfl rfl, q_in 13 rfl rfl, by decide +kernel, by decide +kernel, by decide +kernel, by decide +kernel, by decide⟩, q_in 1641 rfl rfl⟩
set_option maxRecDepth 100000 in
theorem zs_X12_heapUnit : qZS zX12_heapUnit 1 := ⟨⟨q_in 1649 rfl rfl, q_in 13 rfl rfl, by decide +kernel, by decide +kernel, by decide +kernel, by decide +kernel, by decide⟩, q_in 1648 rfl rfl⟩
set_option maxRecDepth 100000 in
theorem zv_X12_here : qZV zX12_here 0 := ⟨⟨q_in 1288 rfl rfl, q_in 13 rfl rfl, by decide +kernel, by decide +kernel, by decide +kernel, by decide +kernel, by decide⟩, q_in 1287 rfl rfl, q_inS 42 rfl rfl⟩
set_option maxRecDepth 100000 in
theorem zv_X12_histories : qZV zX12_histories 4 := ⟨⟨q_in 1608 rfl rfl, q_in 13 rfl rfl, by decide +kernel, by decide +kernel, by decide +kernel, by decide +kernel, by decide⟩, q_in 1606 rfl rfl, q_in 1607 rfl rfl⟩
set_option maxRecDepth 100000 in
theorem zv_X12_hoursBy : qZV zX12_hoursBy 2 := ⟨⟨q_in 1582 rfl rfl, q_in 13 rfl rfl, by decide +kernel, by decide +kernel, by decide +kernel, by decide +kernel, by decide⟩, q_in 1581 rfl rfl, q_inS 97 rfl rfl⟩
set_option maxRecDepth 100000 in
theorem zv_X12_hoursNow : qZV zX12_hoursNow 0 := ⟨⟨q_in 1510 rfl rfl, q_in 13 rfl rfl, by decide +kernel, by decide +kernel, by decide +kernel, by decide +kernel, by decide⟩, q_in 1509 rfl rfl, q_inS 82 rfl rfl⟩
set_option maxRecDepth 100000 in
theorem zs_X12_in : qZS zX12_in 3 := ⟨⟨q_in 1256 rfl rfl, q_in 13 rfl rfl, by decide +kernel, by decide +kernel, by decide +kernel, by decide +kernel, by decide⟩, q_in 1255 rfl rfl⟩
set_option maxRecDepth 100000 in
theorem zs_X12_isClause : qZS zX12_isClause 1 := ⟨⟨q_in 1291 rfl rfl, q_in 13 rfl rfl, by decide +kernel, by decide +kernel, by decide +kernel, by decide +kernel, by decide⟩, q_in 1290 rfl rfl⟩
set_option maxRecDepth 100000 in
theorem zv_X12_isDigit : qZV zX12_isDigit 0 := ⟨⟨q_in 1312 rfl rfl, q_in 13 rfl rfl, by decide +kernel, by decide +kernel, by decide +kernel, by decide +kernel, by decide⟩, q_in 1311 rfl rfl, q_inS 47 rfl rfl⟩
set_option maxRecDepth 100000 in
theorem zv_X12_isKind : qZV zX12_isKind 1 := ⟨⟨q_in 1260 rfl rfl, q_in 13 rfl rfl, by decide +kernel, by decide +kernel, by decide +kernel, by decide +kernel, by decide⟩, q_in 1259 rfl rfl, q_inS 39 rfl rfl⟩
set_option maxRecDepth 100000 in
theorem zv_X12_isLike : qZV zX12_isLike 2 := ⟨⟨q_in 1370 rfl rfl, q_in 13 rfl rfl, by decide +kernel, by decide +kernel, by decide +kernel, by decide +kernel, by decide⟩, q_in 1369 rfl rfl, q_inS 59 rfl rfl⟩
set_option maxRecDepth 100000 in
theorem zv_X12_isPerson : qZV zX12_isPerson 1 := ⟨⟨q_in 1392 rfl rfl, q_in 13 rfl rfl, by decide +kernel, by decide +kernel, by decide +kernel, by decide +kernel, by decide⟩, q_in 1391 rfl rfl, q_inS 62 rfl rfl⟩
set_option maxRecDepth 100000 in
theorem zv_X12_jobCounts : qZV zX12_jobCounts 2 := ⟨⟨q_in 1594 rfl rfl, q_in 13 rfl rfl, by decide +kernel, by decide +kernel, by decide +kernel, by decide +kernel, by decide⟩, q_in 1593 rfl rfl, q_inS 100 rfl rfl⟩
set_option maxRecDepth 100000 in
theorem zv_X12_jobNeeds : qZV zX12_jobNeeds 2 := ⟨⟨q_in 1590 rfl rfl, q_in 13 rfl rfl, by decide +kernel, by decide +kernel, by decide +kernel, by decide +kernel, by decide⟩, q_in 1589 rfl rfl, q_inS 99 rfl rfl⟩
set_option maxRecDepth 100000 in
theorem zv_X12_jobs : qZV zX12_jobs 3 := ⟨⟨q_in 1570 rfl rfl, q_in 13 rfl rfl, by decide +kernel, by decide +kernel, by decide +kernel, by decide +kernel, by decide⟩, q_in 1568 rfl rfl, q_in 1569 rfl rfl⟩
set_option maxRecDepth 100000 in
theorem zv_X12_jumps : qZV zX12_jumps 1 := ⟨⟨q_in 1358 rfl rfl, q_in 13 rfl rfl, by decide +kernel, by decide +kernel, by decide +kernel, by decide +kernel, by decide⟩, q_in 1357 rfl rfl, q_inS 57 rfl rfl⟩
set_option maxRecDepth 100000 in
theorem zv_X12_keep : qZV zX12_keep 0 := ⟨⟨q_in 1657 rfl rfl, q_in 13 rfl rfl, by decide +kernel, by decide +kernel, by decide +kernel, by decide +kernel, by decide⟩, q_in 1655 rfl rfl, q_in 1656 rfl rfl⟩
set_option maxRecDepth 100000 in
theorem zv_X12_kind : qZV zX12_kind 4 := ⟨⟨q_in 1253 rfl rfl, q_in 13 rfl rfl, by decide +kernel, by decide +kernel, by decide +kernel, by decide +kernel, by decide⟩, q_in 1251 rfl rfl, q_in 1252 rfl rfl⟩
set_option maxRecDepth 100000 in
theorem zv_X12_lands : qZV zX12_lands 1 := ⟨⟨q_in 1354 rfl rfl, q_in 13 rfl rfl, by decide +kernel, by decide +kernel, by decide +kernel, by decide +kernel, by decide⟩, q_in 1353 rfl rfl, q_inS 56 rfl rfl⟩
set_option maxRecDepth 100000 in
theorem zv_X12_law : qZV zX12_law 1 := ⟨⟨q_in 1280 rfl rfl, q_in 13 rfl rfl, by decide +kernel, by decide +kernel, by decide +kernel, by decide +kernel, by decide⟩, q_in 1278 rfl rfl, q_in 1279 rfl rfl⟩
set_option maxRecDepth 100000 in
theorem zv_X12_laysOwn : qZV zX12_laysOwn 2 := ⟨⟨q_in 1493 rfl rfl, q_in 13 rfl rfl, by decide +kernel, by decide +kernel, by decide +kernel, by decide +kernel, by decide⟩, q_in 1492 rfl rfl, q_inS 78 rfl rfl⟩
set_option maxRecDepth 100000 in
theorem zv_X12_laysWays : qZV zX12_laysWays 0 := ⟨⟨q_in 1042 rfl rfl, q_in 13 rfl rfl, by decide +kernel, by decide +kernel, by decide +kernel, by decide +kernel, by decide⟩, q_in 1041 rfl rfl, q_inS 38 rfl rfl⟩
set_option maxRecDepth 100000 in
theorem zv_X12_leastPrice : qZV zX12_leastPrice 2 := ⟨⟨q_in 1550 rfl rfl, q_in 13 rfl rfl, by decide +kernel, by decide +kernel, by decide +kernel, by decide +kernel, by decide⟩, q_in 1549 rfl rfl, q_inS 91 rfl rfl⟩
set_option maxRecDepth 100000 in
theorem zv_X12_longestBy : qZV zX12_longestBy 1 := ⟨⟨q_in 1578 rfl rfl, q_in 13 rfl rfl, by decide +kernel, by decide +kernel, by decide +kernel, by decide +kernel, by decide⟩, q_in 1577 rfl rfl, q_inS 96 rfl rfl⟩
set_option maxRecDepth 100000 in
theorem zv_X12_loophole : qZV zX12_loophole 3 := ⟨⟨q_in 1562 rfl rfl, q_in 13 rfl rfl, by decide +kernel, by decide +kernel, by decide +kernel, by decide +kernel, by decide⟩, q_in 1560 rfl rfl, q_in 1561 rfl rfl⟩
set_option maxRecDepth 100000 in
theorem zv_X12_madeNow : qZV zX12_madeNow 0 := ⟨⟨q_in 1514 rfl rfl, q_in 13 rfl rfl, by decide +kernel, by decide +kernel, by decide +kernel, by decide +kernel, by decide⟩, q_in 1513 rfl rfl, q_inS 83 rfl rfl⟩
set_option maxRecDepth 100000 in
theorem zv_X12_marks : qZV zX12_marks 2 := ⟨⟨q_in 1538 rfl rfl, q_in 13 rfl rfl, by decide +kernel, by decide +kernel, by decide +kernel, by decide +kernel, by decide⟩, q_in 1537 rfl rfl, q_inS 89 rfl rfl⟩
set_option maxRecDepth 100000 in
theorem zv_X12_marksBought : qZV zX12_marksBought 1 := ⟨⟨q_in 1554 rfl rfl, q_in 13 rfl rfl, by decide +kernel, by decide +kernel, by decide +kernel, by decide +kernel, by decide⟩, q_in 1553 rfl rfl, q_inS 92 rfl rfl⟩
set_option maxRecDepth 100000 in
theorem zs_X12_max : qZS zX12_max 2 := ⟨⟨q_in 1597 rfl rfl, q_in 13 rfl rfl, by decide +kernel, by decide +kernel, by decide +kernel, by decide +kernel, by decide⟩, q_in 1596 rfl rfl⟩
set_option maxRecDepth 100000 in
theorem zs_X12_min : qZS zX12_min 2 := ⟨⟨q_in 1430 rfl rfl, q_in 13 rfl rfl, by decide +kernel, by decide +kernel, by decide +kernel, by decide +kernel, by decide⟩, q_in 1429 rfl rfl⟩
set_option maxRecDepth 100000 in
theorem zv_X12_notes : qZV zX12_notes 2 := ⟨⟨q_in 1320 rfl rfl, q_in 13 rfl rfl, by decide +kernel, by decide +kernel, by decide +kernel, by decide +kernel, by decide⟩, q_in 1319 rfl rfl, q_inS 49 rfl rfl⟩
set_option maxRecDepth 100000 in
theorem zv_X12_notesTry : qZV zX12_notesTry 3 := ⟨⟨q_in 1477 rfl rfl, q_in 13 rfl rfl, by decide +kernel, by decide +kernel, by decide +kernel, by decide +kernel, by decide⟩, q_in 1476 rfl rfl, q_inS 76 rfl rfl⟩
set_option maxRecDepth 100000 in
theorem zv_X12_oldOnes : qZV zX12_oldOnes 2 := ⟨⟨q_in 1419 rfl rfl, q_in 13 rfl rfl, by decide +kernel, by decide +kernel, by decide +kernel, by decide +kernel, by decide⟩, q_in 1418 rfl rfl, q_inS 68 rfl rfl⟩
set_option maxRecDepth 100000 in
theorem zv_X12_opens : qZV zX12_opens 1 := ⟨⟨q_in 1307 rfl rfl, q_in 13 rfl rfl, by decide +kernel, by decide +kernel, by decide +kernel, by decide +kernel, by decide⟩, q_in 1306 rfl rfl, q_inS 46 rfl rfl⟩
set_option maxRecDepth 100000 in
theorem zv_X12_pastCounts : qZV zX12_pastCounts 2 := ⟨⟨q_in 1624 rfl rfl, q_in 13 rfl rfl, by decide +kernel, by decide +kernel, by decide +kernel, by decide +kernel, by decide⟩, q_in 1623 rfl rfl, q_inS 104 rfl rfl⟩
set_option maxRecDepth 100000 in
theorem zv_X12_person : qZV zX12_person 2 := ⟨⟨q_in 1267 rfl rfl, q_in 13 rfl rfl, by decide +kernel, by decide +kernel, by decide +kernel, by decide +kernel, by decide⟩, q_in 1265 rfl rfl, q_in 1266 rfl rfl⟩
set_option maxRecDepth 100000 in
theorem zv_X12_placeOf : qZV zX12_placeOf 1 := ⟨⟨q_in 1501 rfl rfl, q_in 13 rfl rfl, by decide +kernel, by decide +kernel, by decide +kernel, by decide +kernel, by decide⟩, q_in 1500 rfl rfl, q_inS 80 rfl rfl⟩
set_option maxRecDepth 100000 in
theorem zv_X12_plan : qZV zX12_plan 2 := ⟨⟨q_in 1453 rfl rfl, q_in 13 rfl rfl, by decide +kernel, by decide +kernel, by decide +kernel, by decide +kernel, by decide⟩, q_in 1451 rfl rfl, q_in 1452 rfl rfl⟩
set_option maxRecDepth 100000 in
theorem zv_X12_readsClause : qZV zX12_readsClause 0 := ⟨⟨q_in 1284 rfl rfl, q_in 13 rfl rfl, by decide +kernel, by decide +kernel, by decide +kernel, by decide +kernel, by decide⟩, q_in 1283 rfl rfl, q_inS 41 rfl rfl⟩
set_option maxRecDepth 100000 in
theorem zv_X12_readsCompared : qZV zX12_readsCompared 0 := ⟨⟨q_in 1346 rfl rfl, q_in 13 rfl rfl, by decide +kernel, by decide +kernel, by decide +kernel, by decide +kernel, by decide⟩, q_in 1345 rfl rfl, q_inS 54 rfl rfl⟩
set_option maxRecDepth 100000 in
theorem zv_X12_readsCondition : qZV zX12_readsCondition 0 := ⟨⟨q_in 1342 rfl rfl, q_in 13 rfl rfl, by decide +kernel, by decide +kernel, by decide +kernel, by decide +kernel, by decide⟩, q_in 1341 rfl rfl, q_inS 53 rfl rfl⟩
set_option maxRecDepth 100000 in
theorem zv_X12_readsFactor : qZV zX12_readsFactor 0 := ⟨⟨q_in 1303 rfl rfl, q_in 13 rfl rfl, by decide +kernel, by decide +kernel, by decide +kernel, by decide +kernel, by decide⟩, q_in 1302 rfl rfl, q_inS 45 rfl rfl⟩
set_option maxRecDepth 100000 in
theorem zv_X12_readsNumber : qZV zX12_readsNumber 0 := ⟨⟨q_in 1316 rfl rfl, q_in 13 rfl rfl, by decide +kernel, by decide +kernel, by decide +kernel, by decide +kernel, by decide⟩, q_in 1315 rfl rfl, q_inS 48 rfl rfl⟩
set_option maxRecDepth 100000 in
theorem zv_X12_readsStep : qZV zX12_readsStep 0 := ⟨⟨q_in 1457 rfl rfl, q_in 13 rfl rfl, by decide +kernel, by decide +kernel, by decide +kernel, by decide +kernel, by decide⟩, q_in 1456 rfl rfl, q_inS 72 rfl rfl⟩
set_option maxRecDepth 100000 in
theorem zv_X12_readsSum : qZV zX12_readsSum 0 := ⟨⟨q_in 1299 rfl rfl, q_in 13 rfl rfl, by decide +kernel, by decide +kernel, by decide +kernel, by decide +kernel, by decide⟩, q_in 1298 rfl rfl, q_inS 44 rfl rfl⟩
set_option maxRecDepth 100000 in
theorem zs_X12_reckon : qZS zX12_reckon 3 := ⟨⟨q_in 1384 rfl rfl, q_in 13 rfl rfl, by decide +kernel, by decide +kernel, by decide +kernel, by decide +kernel, by decide⟩, q_in 1383 rfl rfl⟩
set_option maxRecDepth 100000 in
theorem zv_X12_rivals : qZV zX12_rivals 3 := ⟨⟨q_in 1601 rfl rfl, q_in 13 rfl rfl, by decide +kernel, by decide +kernel, by decide +kernel, by decide +kernel, by decide⟩, q_in 1599 rfl rfl, q_in 1600 rfl rfl⟩
set_option maxRecDepth 100000 in
theorem zv_X12_soonest : qZV zX12_soonest 5 := ⟨⟨q_in 1485 rfl rfl, q_in 13 rfl rfl, by decide +kernel, by decide +kernel, by decide +kernel, by decide +kernel, by decide⟩, q_in 1483 rfl rfl, q_in 1484 rfl rfl⟩
set_option maxRecDepth 100000 in
theorem zv_X12_spreads : qZV zX12_spreads 1 := ⟨⟨q_in 1518 rfl rfl, q_in 13 rfl rfl, by decide +kernel, by decide +kernel, by decide +kernel, by decide +kernel, by decide⟩, q_in 1517 rfl rfl, q_inS 84 rfl rfl⟩
set_option maxRecDepth 100000 in
theorem zv_X12_stateNow : qZV zX12_stateNow 0 := ⟨⟨q_in 1542 rfl rfl, q_in 13 rfl rfl, by decide +kernel, by decide +kernel, by decide +kernel, by decide +kernel, by decide⟩, q_in 1541 rfl rfl, q_inS 90 rfl rfl⟩
set_option maxRecDepth 100000 in
theorem zv_X12_statesAll : qZV zX12_statesAll 0 := ⟨⟨q_in 1497 rfl rfl, q_in 13 rfl rfl, by decide +kernel, by decide +kernel, by decide +kernel, by decide +kernel, by decide⟩, q_in 1496 rfl rfl, q_inS 79 rfl rfl⟩
set_option maxRecDepth 100000 in
theorem zv_X12_sumOf : qZV zX12_sumOf 2 := ⟨⟨q_in 1677 rfl rfl, q_in 13 rfl rfl, by decide +kernel, by decide +kernel, by decide +kernel, by decide +kernel, by decide⟩, q_in 1676 rfl rfl, q_inS 109 rfl rfl⟩
set_option maxRecDepth 100000 in
theorem zs_X12_sumSign : qZS zX12_sumSign 1 := ⟨⟨q_in 1326 rfl rfl, q_in 13 rfl rfl, by decide +kernel, by decide +kernel, by decide +kernel, by decide +kernel, by decide⟩, q_in 1325 rfl rfl⟩
set_option maxRecDepth 100000 in
theorem zv_X12_takes : qZV zX12_takes 1 := ⟨⟨q_in 1362 rfl rfl, q_in 13 rfl rfl, by decide +kernel, by decide +kernel, by decide +kernel, by decide +kernel, by decide⟩, q_in 1361 rfl rfl, q_inS 58 rfl rfl⟩
set_option maxRecDepth 100000 in
theorem zv_X12_takesJobs : qZV zX12_takesJobs 1 := ⟨⟨q_in 1574 rfl rfl, q_in 13 rfl rfl, by decide +kernel, by decide +kernel, by decide +kernel, by decide +kernel, by decide⟩, q_in 1573 rfl rfl, q_inS 95 rfl rfl⟩
set_option maxRecDepth 100000 in
theorem zv_X12_takesPast : qZV zX12_takesPast 2 := ⟨⟨q_in 1612 rfl rfl, q_in 13 rfl rfl, by decide +kernel, by decide +kernel, by decide +kernel, by decide +kernel, by decide⟩, q_in 1611 rfl rfl, q_inS 101 rfl rfl⟩
set_option maxRecDepth 100000 in
theorem zv_X12_takesState : qZV zX12_takesState 1 := ⟨⟨q_in 1506 rfl rfl, q_in 13 rfl rfl, by decide +kernel, by decide +kernel, by decide +kernel, by decide +kernel, by decide⟩, q_in 1505 rfl rfl, q_inS 81 rfl rfl⟩
set_option maxRecDepth 100000 in
theorem zv_X12_tapeNumber : qZV zX12_tapeNumber 1 := ⟨⟨q_in 1669 rfl rfl, q_in 13 rfl rfl, by decide +kernel, by decide +kernel, by decide +kernel, by decide +kernel, by decide⟩, q_in 1668 rfl rfl, q_inS 108 rfl rfl⟩
set_option maxRecDepth 100000 in
theorem zv_X12_tried : qZV zX12_tried 2 := ⟨⟨q_in 1481 rfl rfl, q_in 13 rfl rfl, by decide +kernel, by decide +kernel, by decide +kernel, by decide +kernel, by decide⟩, q_in 1479 rfl rfl, q_in 1480 rfl rfl⟩
set_option maxRecDepth 100000 in
theorem zv_X12_tries : qZV zX12_tries 3 := ⟨⟨q_in 1388 rfl rfl, q_in 13 rfl rfl, by decide +kernel, by decide +kernel, by decide +kernel, by decide +kernel, by decide⟩, q_in 1386 rfl rfl, q_in 1387 rfl rfl⟩
set_option maxRecDepth 100000 in
theorem zv_X12_triesNow : qZV zX12_triesNow 3 := ⟨⟨q_in 1396 rfl rfl, q_in 13 rfl rfl, by decide +kernel, by decide +kernel, by decide +kernel, by decide +kernel, by decide⟩, q_in 1395 rfl rfl, q_inS 63 rfl rfl⟩
set_option maxRecDepth 100000 in
theorem zv_X12_types : qZV zX12_types 1 := ⟨⟨q_in 1276 rfl rfl, q_in 13 rfl rfl, by decide +kernel, by decide +kernel, by decide +kernel, by decide +kernel, by decide⟩, q_in 1275 rfl rfl, q_inS 40 rfl rfl⟩
set_option maxRecDepth 100000 in
theorem zv_X12_undo : qZV zX12_undo 0 := ⟨⟨q_in 1661 rfl rfl, q_in 13 rfl rfl, by decide +kernel, by decide +kernel, by decide +kernel, by decide +kernel, by decide⟩, q_in 1659 rfl rfl, q_in 1660 rfl rfl⟩
set_option maxRecDepth 100000 in
theorem zv_X12_voidFor : qZV zX12_voidFor 3 := ⟨⟨q_in 1423 rfl rfl, q_in 13 rfl rfl, by decide +kernel, by decide +kernel, by decide +kernel, by decide +kernel, by decide⟩, q_in 1422 rfl rfl, q_inS 69 rfl rfl⟩
set_option maxRecDepth 100000 in
theorem zv_X12_waitTop : qZV zX12_waitTop 0 := ⟨⟨q_in 1334 rfl rfl, q_in 13 rfl rfl, by decide +kernel, by decide +kernel, by decide +kernel, by decide +kernel, by decide⟩, q_in 1333 rfl rfl, q_inS 51 rfl rfl⟩
set_option maxRecDepth 100000 in
theorem zv_X12_wayWith : qZV zX12_wayWith 3 := ⟨⟨q_in 1534 rfl rfl, q_in 13 rfl rfl, by decide +kernel, by decide +kernel, by decide +kernel, by decide +kernel, by decide⟩, q_in 1533 rfl rfl, q_inS 88 rfl rfl⟩
set_option maxRecDepth 100000 in
theorem zv_X12_whoDoes : qZV zX12_whoDoes 2 := ⟨⟨q_in 1586 rfl rfl, q_in 13 rfl rfl, by decide +kernel, by decide +kernel, by decide +kernel, by decide +kernel, by decide⟩, q_in 1585 rfl rfl, q_inS 98 rfl rfl⟩
set_option maxRecDepth 100000 in
theorem zv_X12_winningMove : qZV zX12_winningMove 3 := ⟨⟨q_in 1639 rfl rfl, q_in 13 rfl rfl, by decide +kernel, by decide +kernel, by decide +kernel, by decide +kernel, by decide⟩, q_in 1638 rfl rfl, q_inS 106 rfl rfl⟩
set_option maxRecDepth 100000 in
theorem zv_X12_wins : qZV zX12_wins 5 := ⟨⟨q_in 1646 rfl rfl, q_in 13 rfl rfl, by decide +kernel, by decide +kernel, by decide +kernel, by decide +kernel, by decide⟩, q_in 1645 rfl rfl, q_inS 107 rfl rfl⟩
set_option maxRecDepth 100000 in
theorem zv_X12_wouldCount : qZV zX12_wouldCount 1 := ⟨⟨q_in 1526 rfl rfl, q_in 13 rfl rfl, by decide +kernel, by decide +kernel, by decide +kernel, by decide +kernel, by decide⟩, q_in 1525 rfl rfl, q_inS 86 rfl rfl⟩
set_option maxRecDepth 100000 in
theorem zv_X12_wrongAt : qZV zX12_wrongAt 2 := ⟨⟨q_in 1295 rfl rfl, q_in 13 rfl rfl, by decide +kernel, by decide +kernel, by decide +kernel, by decide +kernel, by decide⟩, q_in 1294 rfl rfl, q_inS 43 rfl rfl⟩
set_option maxRecDepth 100000 in
theorem zv_X1_alikes : qZV zX1_alikes 2 := ⟨⟨q_in 658 rfl rfl, q_in 5 rfl rfl, by decide +kernel, by decide +kernel, by decide +kernel, by decide +kernel, by decide⟩, q_in 656 rfl rfl, q_in 657 rfl rfl⟩
set_option maxRecDepth 100000 in
theorem zv_X1_amount : qZV zX1_amount 3 := ⟨⟨q_in 708 rfl rfl, q_in 5 rfl rfl, by decide +kernel, by decide +kernel, by decide +kernel, by decide +kernel, by decide⟩, q_in 706 rfl rfl, q_in 707 rfl rfl⟩
set_option maxRecDepth 100000 in
theorem zv_X1_findsAlike : qZV zX1_findsAlike 3 := ⟨⟨q_in 796 rfl rfl, q_in 5 rfl rfl, by decide +kernel, by decide +kernel, by decide +kernel, by decide +kernel, by decide⟩, q_in 794 rfl rfl, q_in 795 rfl rfl⟩
set_option maxRecDepth 100000 in
theorem zv_X1_isAlike : qZV zX1_isAlike 1 := ⟨⟨q_in 670 rfl rfl, q_in 5 rfl rfl, by decide +kernel, by decide +kernel, by decide +kernel, by decide +kernel, by decide⟩, q_in 669 rfl rfl, q_inS 14 rfl rfl⟩
set_option maxRecDepth 100000 in
theorem zv_X1_isLoophole : qZV zX1_isLoophole 4 := ⟨⟨q_in 879 rfl rfl, q_in 5 rfl rfl, by decide +kernel, by decide +kernel, by decide +kernel, by decide +kernel, by decide⟩, q_in 877 rfl rfl, q_in 878 rfl rfl⟩
set_option maxRecDepth 100000 in
theorem zv_X1_reckon : qZV zX1_reckon 3 := ⟨⟨q_in 684 rfl rfl, q_in 5 rfl rfl, by decide +kernel, by decide +kernel, by decide +kernel, by decide +kernel, by decide⟩, q_in 683 rfl rfl, q_inS 16 rfl rfl⟩
set_option maxRecDepth 100000 in
theorem zv_X1_run : qZV zX1_run 2 := ⟨⟨q_in 680 rfl rfl, q_in 5 rfl rfl, by decide +kernel, by decide +kernel, by decide +kernel, by decide +kernel, by decide⟩, q_in 679 rfl rfl, q_inS 15 rfl rfl⟩
set_option maxRecDepth 100000 in
theorem zv_X1_tellDeed : qZV zX1_tellDeed 4 := ⟨⟨q_in 662 rfl rfl, q_in 5 rfl rfl, by decide +kernel, by decide +kernel, by decide +kernel, by decide +kernel, by decide⟩, q_in 660 rfl rfl, q_in 661 rfl rfl⟩
set_option maxRecDepth 100000 in
theorem zv_X1_tellTry : qZV zX1_tellTry 5 := ⟨⟨q_in 704 rfl rfl, q_in 5 rfl rfl, by decide +kernel, by decide +kernel, by decide +kernel, by decide +kernel, by decide⟩, q_in 702 rfl rfl, q_in 703 rfl rfl⟩
set_option maxRecDepth 100000 in
theorem zv_X1_voidTries : qZV zX1_voidTries 0 := ⟨⟨q_in 717 rfl rfl, q_in 5 rfl rfl, by decide +kernel, by decide +kernel, by decide +kernel, by decide +kernel, by decide⟩, q_in 715 rfl rfl, q_in 716 rfl rfl⟩
set_option maxRecDepth 100000 in
theorem zv_X2_knows : qZV zX2_knows 1 := ⟨⟨q_in 483 rfl rfl, q_in 3 rfl rfl, by decide +kernel, by decide +kernel, by decide +kernel, by decide +kernel, by decide⟩, q_in 481 rfl rfl, q_in 482 rfl rfl⟩
set_option maxRecDepth 100000 in
theorem zv_X2_knowsAll : qZV zX2_knowsAll 1 := ⟨⟨q_in 487 rfl rfl, q_in 3 rfl rfl, by decide +kernel, by decide +kernel, by decide +kernel, by decide +kernel, by decide⟩, q_in 485 rfl rfl, q_in 486 rfl rfl⟩
set_option maxRecDepth 100000 in
theorem zv_X2_tell : qZV zX2_tell 4 := ⟨⟨q_in 479 rfl rfl, q_in 3 rfl rfl, by decide +kernel, by decide +kernel, by decide +kernel, by decide +kernel, by decide⟩, q_in 477 rfl rfl, q_in 478 rfl rfl⟩
set_option maxRecDepth 100000 in
theorem zv_X3_add : qZV zX3_add 2 := ⟨⟨q_in 569 rfl rfl, q_in 6 rfl rfl, by decide +kernel, by decide +kernel, by decide +kernel, by decide +kernel, by decide⟩, q_in 567 rfl rfl, q_in 568 rfl rfl⟩
set_option maxRecDepth 100000 in
theorem zv_X3_addClause : qZV zX3_addClause 3 := ⟨⟨q_in 591 rfl rfl, q_in 6 rfl rfl, by decide +kernel, by decide +kernel, by decide +kernel, by decide +kernel, by decide⟩, q_in 589 rfl rfl, q_in 590 rfl rfl⟩
set_option maxRecDepth 100000 in
theorem zv_X3_clear : qZV zX3_clear 0 := ⟨⟨q_in 512 rfl rfl, q_in 6 rfl rfl, by decide +kernel, by decide +kernel, by decide +kernel, by decide +kernel, by decide⟩, q_in 510 rfl rfl, q_in 511 rfl rfl⟩
set_option maxRecDepth 100000 in
theorem zv_X3_skipToHere : qZV zX3_skipToHere 1 := ⟨⟨q_in 587 rfl rfl, q_in 6 rfl rfl, by decide +kernel, by decide +kernel, by decide +kernel, by decide +kernel, by decide⟩, q_in 585 rfl rfl, q_in 586 rfl rfl⟩
set_option maxRecDepth 100000 in
theorem zv_X4_opens : qZV zX4_opens 1 := ⟨⟨q_in 547 rfl rfl, q_in 8 rfl rfl, by decide +kernel, by decide +kernel, by decide +kernel, by decide +kernel, by decide⟩, q_in 546 rfl rfl, q_inS 4 rfl rfl⟩
set_option maxRecDepth 100000 in
theorem zv_X4_read : qZV zX4_read 1 := ⟨⟨q_in 508 rfl rfl, q_in 8 rfl rfl, by decide +kernel, by decide +kernel, by decide +kernel, by decide +kernel, by decide⟩, q_in 506 rfl rfl, q_in 507 rfl rfl⟩
set_option maxRecDepth 100000 in
theorem zv_X4_readClause : qZV zX4_readClause 0 := ⟨⟨q_in 523 rfl rfl, q_in 8 rfl rfl, by decide +kernel, by decide +kernel, by decide +kernel, by decide +kernel, by decide⟩, q_in 522 rfl rfl, q_inS 0 rfl rfl⟩
set_option maxRecDepth 100000 in
theorem zv_X4_readCondition : qZV zX4_readCondition 1 := ⟨⟨q_in 574 rfl rfl, q_in 8 rfl rfl, by decide +kernel, by decide +kernel, by decide +kernel, by decide +kernel, by decide⟩, q_in 573 rfl rfl, q_inS 6 rfl rfl⟩
set_option maxRecDepth 100000 in
theorem zv_X4_readFactor : qZV zX4_readFactor 1 := ⟨⟨q_in 543 rfl rfl, q_in 8 rfl rfl, by decide +kernel, by decide +kernel, by decide +kernel, by decide +kernel, by decide⟩, q_in 542 rfl rfl, q_inS 3 rfl rfl⟩
set_option maxRecDepth 100000 in
theorem zv_X4_readNumber : qZV zX4_readNumber 0 := ⟨⟨q_in 565 rfl rfl, q_in 8 rfl rfl, by decide +kernel, by decide +kernel, by decide +kernel, by decide +kernel, by decide⟩, q_in 564 rfl rfl, q_inS 5 rfl rfl⟩
set_option maxRecDepth 100000 in
theorem zv_X4_readPart : qZV zX4_readPart 1 := ⟨⟨q_in 578 rfl rfl, q_in 8 rfl rfl, by decide +kernel, by decide +kernel, by decide +kernel, by decide +kernel, by decide⟩, q_in 577 rfl rfl, q_inS 7 rfl rfl⟩
set_option maxRecDepth 100000 in
theorem zv_X4_readPiece : qZV zX4_readPiece 1 := ⟨⟨q_in 582 rfl rfl, q_in 8 rfl rfl, by decide +kernel, by decide +kernel, by decide +kernel, by decide +kernel, by decide⟩, q_in 581 rfl rfl, q_inS 8 rfl rfl⟩
set_option maxRecDepth 100000 in
theorem zv_X4_readProduct : qZV zX4_readProduct 1 := ⟨⟨q_in 539 rfl rfl, q_in 8 rfl rfl, by decide +kernel, by decide +kernel, by decide +kernel, by decide +kernel, by decide⟩, q_in 538 rfl rfl, q_inS 2 rfl rfl⟩
set_option maxRecDepth 100000 in
theorem zv_X4_readSum : qZV zX4_readSum 1 := ⟨⟨q_in 535 rfl rfl, q_in 8 rfl rfl, by decide +kernel, by decide +kernel, by decide +kernel, by decide +kernel, by decide⟩, q_in 534 rfl rfl, q_inS 1 rfl rfl⟩
set_option maxRecDepth 100000 in
theorem zv_X5_findBestRow : qZV zX5_findBestRow 0 := ⟨⟨q_in 927 rfl rfl, q_in 11 rfl rfl, by decide +kernel, by decide +kernel, by decide +kernel, by decide +kernel, by decide⟩, q_in 926 rfl rfl, q_inS 31 rfl rfl⟩
set_option maxRecDepth 100000 in
theorem zv_X5_goThroughSets : qZV zX5_goThroughSets 4 := ⟨⟨q_in 912 rfl rfl, q_in 11 rfl rfl, by decide +kernel, by decide +kernel, by decide +kernel, by decide +kernel, by decide⟩, q_in 911 rfl rfl, q_inS 29 rfl rfl⟩
set_option maxRecDepth 100000 in
theorem zv_X5_hoursFor : qZV zX5_hoursFor 2 := ⟨⟨q_in 917 rfl rfl, q_in 11 rfl rfl, by decide +kernel, by decide +kernel, by decide +kernel, by decide +kernel, by decide⟩, q_in 916 rfl rfl, q_inS 30 rfl rfl⟩
set_option maxRecDepth 100000 in
theorem zv_X5_longestOf : qZV zX5_longestOf 1 := ⟨⟨q_in 931 rfl rfl, q_in 11 rfl rfl, by decide +kernel, by decide +kernel, by decide +kernel, by decide +kernel, by decide⟩, q_in 930 rfl rfl, q_inS 32 rfl rfl⟩
set_option maxRecDepth 100000 in
theorem zv_X5_read : qZV zX5_read 2 := ⟨⟨q_in 887 rfl rfl, q_in 11 rfl rfl, by decide +kernel, by decide +kernel, by decide +kernel, by decide +kernel, by decide⟩, q_in 885 rfl rfl, q_in 886 rfl rfl⟩
set_option maxRecDepth 100000 in
theorem zv_X5_solve : qZV zX5_solve 1 := ⟨⟨q_in 906 rfl rfl, q_in 11 rfl rfl, by decide +kernel, by decide +kernel, by decide +kernel, by decide +kernel, by decide⟩, q_in 904 rfl rfl, q_in 905 rfl rfl⟩
set_option maxRecDepth 100000 in
theorem zv_X5_takeWorkers : qZV zX5_takeWorkers 1 := ⟨⟨q_in 901 rfl rfl, q_in 11 rfl rfl, by decide +kernel, by decide +kernel, by decide +kernel, by decide +kernel, by decide⟩, q_in 899 rfl rfl, q_in 900 rfl rfl⟩
set_option maxRecDepth 100000 in
theorem zv_X5_workerOf : qZV zX5_workerOf 1 := ⟨⟨q_in 937 rfl rfl, q_in 11 rfl rfl, by decide +kernel, by decide +kernel, by decide +kernel, by decide +kernel, by decide⟩, q_in 935 rfl rfl, q_in 936 rfl rfl⟩
set_option maxRecDepth 100000 in
theorem zv_X6_addStep : qZV zX6_addStep 2 := ⟨⟨q_in 632 rfl rfl, q_in 9 rfl rfl, by decide +kernel, by decide +kernel, by decide +kernel, by decide +kernel, by decide⟩, q_in 631 rfl rfl, q_inS 12 rfl rfl⟩
set_option maxRecDepth 100000 in
theorem zv_X6_read : qZV zX6_read 1 := ⟨⟨q_in 611 rfl rfl, q_in 9 rfl rfl, by decide +kernel, by decide +kernel, by decide +kernel, by decide +kernel, by decide⟩, q_in 609 rfl rfl, q_in 610 rfl rfl⟩
set_option maxRecDepth 100000 in
theorem zv_X6_readStep : qZV zX6_readStep 1 := ⟨⟨q_in 620 rfl rfl, q_in 9 rfl rfl, by decide +kernel, by decide +kernel, by decide +kernel, by decide +kernel, by decide⟩, q_in 619 rfl rfl, q_inS 10 rfl rfl⟩
set_option maxRecDepth 100000 in
theorem zv_X6_readSteps : qZV zX6_readSteps 1 := ⟨⟨q_in 616 rfl rfl, q_in 9 rfl rfl, by decide +kernel, by decide +kernel, by decide +kernel, by decide +kernel, by decide⟩, q_in 615 rfl rfl, q_inS 9 rfl rfl⟩
set_option maxRecDepth 100000 in
theorem zv_X6_readTry : qZV zX6_readTry 0 := ⟨⟨q_in 625 rfl rfl, q_in 9 rfl rfl, by decide +kernel, by decide +kernel, by decide +kernel, by decide +kernel, by decide⟩, q_in 624 rfl rfl, q_inS 11 rfl rfl⟩
set_option maxRecDepth 100000 in
theorem zv_X6_repeatSteps : qZV zX6_repeatSteps 2 := ⟨⟨q_in 637 rfl rfl, q_in 9 rfl rfl, by decide +kernel, by decide +kernel, by decide +kernel, by decide +kernel, by decide⟩, q_in 636 rfl rfl, q_inS 13 rfl rfl⟩
set_option maxRecDepth 100000 in
theorem zv_X7_askVoids : qZV zX7_askVoids 3 := ⟨⟨q_in 830 rfl rfl, q_in 10 rfl rfl, by decide +kernel, by decide +kernel, by decide +kernel, by decide +kernel, by decide⟩, q_in 829 rfl rfl, q_inS 24 rfl rfl⟩
set_option maxRecDepth 100000 in
theorem zv_X7_bestWay : qZV zX7_bestWay 3 := ⟨⟨q_in 843 rfl rfl, q_in 10 rfl rfl, by decide +kernel, by decide +kernel, by decide +kernel, by decide +kernel, by decide⟩, q_in 842 rfl rfl, q_inS 25 rfl rfl⟩
set_option maxRecDepth 100000 in
theorem zs_X7_extraAt : qZS zX7_extraAt 2 := ⟨⟨q_in 847 rfl rfl, q_in 10 rfl rfl, by decide +kernel, by decide +kernel, by decide +kernel, by decide +kernel, by decide⟩, q_in 846 rfl rfl⟩
set_option maxRecDepth 100000 in
theorem zv_X7_findCheapest : qZV zX7_findCheapest 3 := ⟨⟨q_in 861 rfl rfl, q_in 10 rfl rfl, by decide +kernel, by decide +kernel, by decide +kernel, by decide +kernel, by decide⟩, q_in 859 rfl rfl, q_in 860 rfl rfl⟩
set_option maxRecDepth 100000 in
theorem zv_X7_lackedPlaces : qZV zX7_lackedPlaces 3 := ⟨⟨q_in 825 rfl rfl, q_in 10 rfl rfl, by decide +kernel, by decide +kernel, by decide +kernel, by decide +kernel, by decide⟩, q_in 824 rfl rfl, q_inS 23 rfl rfl⟩
set_option maxRecDepth 100000 in
theorem zv_X7_leastPrice : qZV zX7_leastPrice 3 := ⟨⟨q_in 865 rfl rfl, q_in 10 rfl rfl, by decide +kernel, by decide +kernel, by decide +kernel, by decide +kernel, by decide⟩, q_in 864 rfl rfl, q_inS 27 rfl rfl⟩
set_option maxRecDepth 100000 in
theorem zv_X7_prepare : qZV zX7_prepare 4 := ⟨⟨q_in 815 rfl rfl, q_in 10 rfl rfl, by decide +kernel, by decide +kernel, by decide +kernel, by decide +kernel, by decide⟩, q_in 813 rfl rfl, q_in 814 rfl rfl⟩
set_option maxRecDepth 100000 in
theorem zv_X7_soonestWay : qZV zX7_soonestWay 1 := ⟨⟨q_in 839 rfl rfl, q_in 10 rfl rfl, by decide +kernel, by decide +kernel, by decide +kernel, by decide +kernel, by decide⟩, q_in 837 rfl rfl, q_in 838 rfl rfl⟩
set_option maxRecDepth 100000 in
theorem zv_X7_toPlaces : qZV zX7_toPlaces 1 := ⟨⟨q_in 821 rfl rfl, q_in 10 rfl rfl, by decide +kernel, by decide +kernel, by decide +kernel, by decide +kernel, by decide⟩, q_in 820 rfl rfl, q_inS 22 rfl rfl⟩
set_option maxRecDepth 100000 in
theorem zv_X7_tryGoes : qZV zX7_tryGoes 5 := ⟨⟨q_in 871 rfl rfl, q_in 10 rfl rfl, by decide +kernel, by decide +kernel, by decide +kernel, by decide +kernel, by decide⟩, q_in 870 rfl rfl, q_inS 28 rfl rfl⟩
set_option maxRecDepth 100000 in
theorem zv_X7_wouldCount : qZV zX7_wouldCount 2 := ⟨⟨q_in 851 rfl rfl, q_in 10 rfl rfl, by decide +kernel, by decide +kernel, by decide +kernel, by decide +kernel, by decide⟩, q_in 850 rfl rfl, q_inS 26 rfl rfl⟩
set_option maxRecDepth 100000 in
theorem zv_X8_fits : qZV zX8_fits 2 := ⟨⟨q_in 968 rfl rfl, q_in 12 rfl rfl, by decide +kernel, by decide +kernel, by decide +kernel, by decide +kernel, by decide⟩, q_in 967 rfl rfl, q_inS 33 rfl rfl⟩
set_option maxRecDepth 100000 in
theorem zv_X8_goThrough : qZV zX8_goThrough 2 := ⟨⟨q_in 962 rfl rfl, q_in 12 rfl rfl, by decide +kernel, by decide +kernel, by decide +kernel, by decide +kernel, by decide⟩, q_in 960 rfl rfl, q_in 961 rfl rfl⟩
set_option maxRecDepth 100000 in
theorem zv_X8_greaterPart : qZV zX8_greaterPart 1 := ⟨⟨q_in 980 rfl rfl, q_in 12 rfl rfl, by decide +kernel, by decide +kernel, by decide +kernel, by decide +kernel, by decide⟩, q_in 979 rfl rfl, q_inS 35 rfl rfl⟩
set_option maxRecDepth 100000 in
theorem zv_X8_old : qZV zX8_old 1 := ⟨⟨q_in 972 rfl rfl, q_in 12 rfl rfl, by decide +kernel, by decide +kernel, by decide +kernel, by decide +kernel, by decide⟩, q_in 971 rfl rfl, q_inS 34 rfl rfl⟩
set_option maxRecDepth 100000 in
theorem zv_X8_read : qZV zX8_read 3 := ⟨⟨q_in 955 rfl rfl, q_in 12 rfl rfl, by decide +kernel, by decide +kernel, by decide +kernel, by decide +kernel, by decide⟩, q_in 953 rfl rfl, q_in 954 rfl rfl⟩
set_option maxRecDepth 100000 in
theorem zv_X8_tellingPlace : qZV zX8_tellingPlace 0 := ⟨⟨q_in 976 rfl rfl, q_in 12 rfl rfl, by decide +kernel, by decide +kernel, by decide +kernel, by decide +kernel, by decide⟩, q_in 974 rfl rfl, q_in 975 rfl rfl⟩
set_option maxRecDepth 100000 in
theorem zv_X9_at : qZV zX9_at 1 := ⟨⟨q_in 892 rfl rfl, q_in 2 rfl rfl, by decide +kernel, by decide +kernel, by decide +kernel, by decide +kernel, by decide⟩, q_in 890 rfl rfl, q_in 891 rfl rfl⟩
set_option maxRecDepth 100000 in
theorem zv_X9_clear : qZV zX9_clear 0 := ⟨⟨q_in 599 rfl rfl, q_in 2 rfl rfl, by decide +kernel, by decide +kernel, by decide +kernel, by decide +kernel, by decide⟩, q_in 597 rfl rfl, q_in 598 rfl rfl⟩
set_option maxRecDepth 100000 in
theorem zv_X9_digit : qZV zX9_digit 0 := ⟨⟨q_in 561 rfl rfl, q_in 2 rfl rfl, by decide +kernel, by decide +kernel, by decide +kernel, by decide +kernel, by decide⟩, q_in 559 rfl rfl, q_in 560 rfl rfl⟩
set_option maxRecDepth 100000 in
theorem zv_X9_fails : qZV zX9_fails 2 := ⟨⟨q_in 531 rfl rfl, q_in 2 rfl rfl, by decide +kernel, by decide +kernel, by decide +kernel, by decide +kernel, by decide⟩, q_in 529 rfl rfl, q_in 530 rfl rfl⟩
set_option maxRecDepth 100000 in
theorem zv_X9_mustEnd : qZV zX9_mustEnd 0 := ⟨⟨q_in 595 rfl rfl, q_in 2 rfl rfl, by decide +kernel, by decide +kernel, by decide +kernel, by decide +kernel, by decide⟩, q_in 593 rfl rfl, q_in 594 rfl rfl⟩
set_option maxRecDepth 100000 in
theorem zv_X9_mustTake : qZV zX9_mustTake 1 := ⟨⟨q_in 551 rfl rfl, q_in 2 rfl rfl, by decide +kernel, by decide +kernel, by decide +kernel, by decide +kernel, by decide⟩, q_in 549 rfl rfl, q_in 550 rfl rfl⟩
set_option maxRecDepth 100000 in
theorem zv_X9_openText : qZV zX9_openText 1 := ⟨⟨q_in 516 rfl rfl, q_in 2 rfl rfl, by decide +kernel, by decide +kernel, by decide +kernel, by decide +kernel, by decide⟩, q_in 514 rfl rfl, q_in 515 rfl rfl⟩
set_option maxRecDepth 100000 in
theorem zv_X9_put : qZV zX9_put 1 := ⟨⟨q_in 500 rfl rfl, q_in 2 rfl rfl, by decide +kernel, by decide +kernel, by decide +kernel, by decide +kernel, by decide⟩, q_in 498 rfl rfl, q_in 499 rfl rfl⟩
set_option maxRecDepth 100000 in
theorem zv_X9_sign : qZV zX9_sign 0 := ⟨⟨q_in 527 rfl rfl, q_in 2 rfl rfl, by decide +kernel, by decide +kernel, by decide +kernel, by decide +kernel, by decide⟩, q_in 525 rfl rfl, q_in 526 rfl rfl⟩
set_option maxRecDepth 100000 in
theorem zv_X9_takes : qZV zX9_takes 1 := ⟨⟨q_in 555 rfl rfl, q_in 2 rfl rfl, by decide +kernel, by decide +kernel, by decide +kernel, by decide +kernel, by decide⟩, q_in 553 rfl rfl, q_in 554 rfl rfl⟩
set_option maxRecDepth 100000 in
theorem zv_X9_word : qZV zX9_word 1 := ⟨⟨q_in 1014 rfl rfl, q_in 2 rfl rfl, by decide +kernel, by decide +kernel, by decide +kernel, by decide +kernel, by decide⟩, q_in 1012 rfl rfl, q_in 1013 rfl rfl⟩
end
section
def qmax (a b : Int32) : Int32 := if a < b then b else a
def qmin (a b : Int32) : Int32 := if b < a then b else a
def qlm (M : qM) (f : qM → qR) : qR := f M
theorem q_dm {c : ByteArray} {tb : List (Nat × Instr × Nat)} (h : ∀ q ∈ tb, decode c q.1 = .ok q.2) (i : Nat) {pc len : Nat} {ins : Instr} (hi : tb[i]? = some (pc, ins, len)) : decode c pc = .ok (ins, len) := by
  have h1 := h (pc, ins, len) (List.mem_of_getElem? hi)
  dsimp only at h1
  exact h1
theorem q_cats {ad : Nat → Nat} : ∀ S1 : List qV, ((S1.map (q_v ad)).map fun v => v.category).sum = S1.length
  | [] => rfl
  | a :: r => by
    have := q_cats (ad := ad) r
    simp only [List.map_cons, List.sum_cons, List.length_cons, q_v_cat, this]
    omega
def q_le : List (Option qV) → List (Option qV) → Prop
  | [], _ => True
  | none :: r, _ :: s => q_le r s
  | some v :: r, some w :: s => v = w ∧ q_le r s
  | _ :: _, _ => False
theorem q_le_at : ∀ (a b : List (Option qV)), q_le a b → ∀ (i : Nat) (v : qV), a[i]? = some (some v) → b[i]? = some (some v)
  | [], _, _, i, v, h => by simp at h
  | none :: r, [], hl, i, v, h => by simp [q_le] at hl
  | some x :: r, [], hl, i, v, h => by simp [q_le] at hl
  | none :: r, y :: s, hl, 0, v, h => by simp at h
  | none :: r, y :: s, hl, i + 1, v, h => by
    have := q_le_at r s hl i v (by simpa using h)
    simpa using this
  | some x :: r, none :: s, hl, i, v, h => by simp [q_le] at hl
  | some x :: r, some y :: s, hl, 0, v, h => by
    simp at h
    subst h
    simp [hl.1]
  | some x :: r, some y :: s, hl, i + 1, v, h => by
    have := q_le_at r s hl.2 i v (by simpa using h)
    simpa using this

theorem qr_max {g : qG} {k : qK} {d : Nat} {y : qMY} {pc : Nat} {Z X : List qSh} {L : List (Option qV)} {S : List qV} {M : qM} {E : qR} (o : qOk g d y k) {a b : Int32} {idx : Nat} (hlk : Cond.methodLink y.1.cls idx Lib.Math.max.name ∈ q_tbl) (hd : 1 ≤ d) (hS8 : S.length ≤ 8) (hdg : decode y.2.1 pc = .ok (.invokestatic idx, 3)) (h : qAE g k y Z (pc + 3) L (.inl (qmax a b) :: S) (X, M) E) : qAE g k y Z pc L (.inl b :: .inl a :: S) (X, M) E := by
  intro v0 M0 e0 r0
  obtain ⟨p, l, e, R, s, m, args, below, meth, c, cells, slots, Q⟩ := k
  obtain ⟨hx, hb, hml, hown, hts, hr, hlocks, hK, hRO, hDD, hR1, hR2, hc1, hc2⟩ := o
  intro H locs ls hN hP hS hl
  exact va_mmax hx hb (by rw [hml, hl.1]) hown (hts _ hlk) (hts _ mm_max_s) (hts _ mm_i) (hts _ mm_max_c) (by omega) (by rw [q_cats]; omega) hc1 hc2 hdg (h v0 M0 e0 r0 H locs ls hN hP hS hl)

theorem qr_min {g : qG} {k : qK} {d : Nat} {y : qMY} {pc : Nat} {Z X : List qSh} {L : List (Option qV)} {S : List qV} {M : qM} {E : qR} (o : qOk g d y k) {a b : Int32} {idx : Nat} (hlk : Cond.methodLink y.1.cls idx Lib.Math.min.name ∈ q_tbl) (hd : 1 ≤ d) (hS8 : S.length ≤ 8) (hdg : decode y.2.1 pc = .ok (.invokestatic idx, 3)) (h : qAE g k y Z (pc + 3) L (.inl (qmin a b) :: S) (X, M) E) : qAE g k y Z pc L (.inl b :: .inl a :: S) (X, M) E := by
  intro v0 M0 e0 r0
  obtain ⟨p, l, e, R, s, m, args, below, meth, c, cells, slots, Q⟩ := k
  obtain ⟨hx, hb, hml, hown, hts, hr, hlocks, hK, hRO, hDD, hR1, hR2, hc1, hc2⟩ := o
  intro H locs ls hN hP hS hl
  exact va_mmin hx hb (by rw [hml, hl.1]) hown (hts _ hlk) (hts _ mm_min_s) (hts _ mm_i) (hts _ mm_min_c) (by omega) (by rw [q_cats]; omega) hc1 hc2 hdg (h v0 M0 e0 r0 H locs ls hN hP hS hl)

theorem qr_loc {g : qG} {k : qK} {y : qMY} {pc : Nat} {Z X : List qSh} {L : List (Option qV)} {S : List qV} {M : qM} {E : qR} {L' : List (Option qV)} (hle : q_le L' L) (h : qAE g k y Z pc L' S (X, M) E) : qAE g k y Z pc L S (X, M) E := by
  intro v0 M0 e0 r0
  obtain ⟨p, l, e, R, s, m, args, below, meth, c, cells, slots, Q⟩ := k
  intro H locs ls hN hP hS hl
  refine h v0 M0 e0 r0 H locs ls hN hP hS ⟨hl.1, hl.2.1, fun q hq => ?_⟩
  obtain ⟨i, v, h1, h2⟩ := q_l_of _ _ hq
  have h3 := q_l_at hl (q_le_at _ _ hle i v h1)
  rw [Nat.zero_add] at h2
  rw [h2]
  exact h3
theorem qr_letm {g : qG} {k : qK} {y : qMY} {pc : Nat} {Z X : List qSh} {L : List (Option qV)} {S : List qV} {M : qM}  {f : qM → qR} (h : ∀ M1 : qM, qAE g k y Z pc L S (X, M1) (f M1)) : qAE g k y Z pc L S (X, M) (qlm M f) := h M
theorem qr_none {g : qG} {k : qK} {y : qMY} {pc : Nat} {Z X : List qSh} {L : List (Option qV)} {S : List qV} {M : qM}  : qAE g k y Z pc L S (X, M) none := fun _ _ h => by cases h
theorem qs_istore_n {g : qG} {k : qK} {d : Nat} {y : qMY} {pc : Nat} {Z X : List qSh} {L : List (Option qV)} {S : List qV} {M : qM} {E : qR} (o : qOk g d y k) {L' : List (Option qV)} {n : Fin 4} {v : Int32} (hdg : decode y.2.1 pc = .ok (.istore_n n, 1)) (hn : (n : Nat) < y.2.2.1) (hL : L.set (n : Nat) (some (.inl v)) = L') (h : qAE g k y Z (pc + 1) L' S (X, M) E) : qAE g k y Z pc L (.inl v :: S) (X, M) E := by
  subst hL
  exact qr_istore_n o hdg hn h
theorem qs_istore {g : qG} {k : qK} {d : Nat} {y : qMY} {pc : Nat} {Z X : List qSh} {L : List (Option qV)} {S : List qV} {M : qM} {E : qR} (o : qOk g d y k) {L' : List (Option qV)} {n : Nat} {v : Int32} (hdg : decode y.2.1 pc = .ok (.istore n, 2)) (hn : n < y.2.2.1) (hL : L.set n (some (.inl v)) = L') (h : qAE g k y Z (pc + 2) L' S (X, M) E) : qAE g k y Z pc L (.inl v :: S) (X, M) E := by
  subst hL
  exact qr_istore o hdg hn h
theorem qs_astore_n {g : qG} {k : qK} {d : Nat} {y : qMY} {pc : Nat} {Z X : List qSh} {L : List (Option qV)} {S : List qV} {M : qM} {E : qR} (o : qOk g d y k) {L' : List (Option qV)} {n : Fin 4} {i : Nat} (hdg : decode y.2.1 pc = .ok (.astore_n n, 1)) (hn : (n : Nat) < y.2.2.1) (hL : L.set (n : Nat) (some (.inr (some i))) = L') (h : qAE g k y Z (pc + 1) L' S (X, M) E) : qAE g k y Z pc L (.inr (some i) :: S) (X, M) E := by
  subst hL
  exact qr_astore_n o hdg hn h
theorem qs_iinc {g : qG} {k : qK} {d : Nat} {y : qMY} {pc : Nat} {Z X : List qSh} {L : List (Option qV)} {S : List qV} {M : qM} {E : qR} (o : qOk g d y k) {L' : List (Option qV)} {i : Nat} {n : Int} {v c : Int32} (hdg : decode y.2.1 pc = .ok (.iinc i n, 3)) (hv : L[i]? = some (some (.inl v))) (hc : Int32.ofInt n = c) (hn : i < y.2.2.1) (hL : L.set i (some (.inl (v + c))) = L') (h : qAE g k y Z (pc + 3) L' S (X, M) E) : qAE g k y Z pc L S (X, M) E := by
  subst hL
  subst hc
  exact qr_iinc o hdg hv rfl hn h
theorem qs_iincl {g : qG} {k : qK} {d : Nat} {y : qMY} {pc : Nat} {Z X : List qSh} {L : List (Option qV)} {S : List qV} {M : qM} {f : Int32 → qR} (o : qOk g d y k) {i : Nat} {n : Int} {v c : Int32} (hdg : decode y.2.1 pc = .ok (.iinc i n, 3)) (hv : L[i]? = some (some (.inl v))) (hc : Int32.ofInt n = c) (hn : i < y.2.2.1) (h : ∀ x : Int32, qAE g k y Z (pc + 3) (L.set i (some (.inl x))) S (X, M) (f x)) : qAE g k y Z pc L S (X, M) (ql (v + c) f) := by
  subst hc
  exact qr_iinc o hdg hv rfl hn (h _)
end
section
theorem q_le0 {s : List (Option qV)} : q_le [] s := trivial
theorem q_leS {v : qV} {r s : List (Option qV)} (h : q_le r s) : q_le (some v :: r) (some v :: s) := ⟨rfl, h⟩
theorem q_leN {w : Option qV} {r s : List (Option qV)} (h : q_le r s) : q_le (none :: r) (w :: s) := h
theorem qr_lt {g : qG} {k : qK} {y : qMY} {pc : Nat} {Z X : List qSh} {L : List (Option qV)} {S : List qV} {M : qM} {v : Int32} {f : Int32 → qR} (h : ∀ x : Int32, qAE g k y Z pc L (.inl x :: S) (X, M) (f x)) : qAE g k y Z pc L (.inl v :: S) (X, M) (ql v f) := h v

theorem qg_in {j : Int32} {n : Nat} {E : qR} (h : ¬ (j < 0 ∨ n ≤ j.toNatClampNeg)) : qg j n E = E := if_neg h

theorem qr_iald0 {g : qG} {k : qK} {d : Nat} {y : qMY} {pc : Nat} {Z X : List qSh} {L : List (Option qV)} {S : List qV} {M : qM} {E : qR} (o : qOk g d y k) {i n c : Nat} {j : Int32} (hsh : X[i]? = some (.inl (0, n))) (hin : ¬ (j < 0 ∨ n ≤ j.toNatClampNeg)) (hc : j.toNatClampNeg = c) (hdg : decode y.2.1 pc = .ok (.iaload, 1)) (h : qAE g k y Z (pc + 1) L (.inl (M i c) :: S) (X, M) E) : qAE g k y Z pc L (.inl j :: .inr (some i) :: S) (X, M) E := by
  subst hc
  have h9 := qr_iald o hsh hdg h
  rwa [qg_in hin] at h9

theorem qr_bald0 {g : qG} {k : qK} {d : Nat} {y : qMY} {pc : Nat} {Z X : List qSh} {L : List (Option qV)} {S : List qV} {M : qM} {E : qR} (o : qOk g d y k) {i n c : Nat} {j : Int32} (hsh : X[i]? = some (.inl (1, n))) (hin : ¬ (j < 0 ∨ n ≤ j.toNatClampNeg)) (hc : j.toNatClampNeg = c) (hdg : decode y.2.1 pc = .ok (.baload, 1)) (h : qAE g k y Z (pc + 1) L (.inl (M i c) :: S) (X, M) E) : qAE g k y Z pc L (.inl j :: .inr (some i) :: S) (X, M) E := by
  subst hc
  have h9 := qr_bald o hsh hdg h
  rwa [qg_in hin] at h9

theorem qr_zald0 {g : qG} {k : qK} {d : Nat} {y : qMY} {pc : Nat} {Z X : List qSh} {L : List (Option qV)} {S : List qV} {M : qM} {E : qR} (o : qOk g d y k) {i n c : Nat} {j : Int32} (hsh : X[i]? = some (.inl (2, n))) (hin : ¬ (j < 0 ∨ n ≤ j.toNatClampNeg)) (hc : j.toNatClampNeg = c) (hdg : decode y.2.1 pc = .ok (.baload, 1)) (h : qAE g k y Z (pc + 1) L (.inl (M i c) :: S) (X, M) E) : qAE g k y Z pc L (.inl j :: .inr (some i) :: S) (X, M) E := by
  subst hc
  have h9 := qr_zald o hsh hdg h
  rwa [qg_in hin] at h9

theorem qr_iast0 {g : qG} {k : qK} {d : Nat} {y : qMY} {pc : Nat} {Z X : List qSh} {L : List (Option qV)} {S : List qV} {M : qM} {E : qR} (o : qOk g d y k) {i n c : Nat} {j x : Int32} (hsh : X[i]? = some (.inl (0, n))) (hin : ¬ (j < 0 ∨ n ≤ j.toNatClampNeg)) (hc : j.toNatClampNeg = c) (hdg : decode y.2.1 pc = .ok (.iastore, 1)) (h : qAE g k y Z (pc + 1) L S (X, mu M i c (x)) E) : qAE g k y Z pc L (.inl x :: .inl j :: .inr (some i) :: S) (X, M) E := by
  subst hc
  have h9 := qr_iast o hsh hdg h
  rwa [qg_in hin] at h9

theorem qr_bast0 {g : qG} {k : qK} {d : Nat} {y : qMY} {pc : Nat} {Z X : List qSh} {L : List (Option qV)} {S : List qV} {M : qM} {E : qR} (o : qOk g d y k) {i n c : Nat} {j x : Int32} (hsh : X[i]? = some (.inl (1, n))) (hin : ¬ (j < 0 ∨ n ≤ j.toNatClampNeg)) (hc : j.toNatClampNeg = c) (hdg : decode y.2.1 pc = .ok (.bastore, 1)) (h : qAE g k y Z (pc + 1) L S (X, mu M i c (vp_nar .byte x)) E) : qAE g k y Z pc L (.inl x :: .inl j :: .inr (some i) :: S) (X, M) E := by
  subst hc
  have h9 := qr_bast o hsh hdg h
  rwa [qg_in hin] at h9

theorem qr_zast0 {g : qG} {k : qK} {d : Nat} {y : qMY} {pc : Nat} {Z X : List qSh} {L : List (Option qV)} {S : List qV} {M : qM} {E : qR} (o : qOk g d y k) {i n c : Nat} {j x : Int32} (hsh : X[i]? = some (.inl (2, n))) (hin : ¬ (j < 0 ∨ n ≤ j.toNatClampNeg)) (hc : j.toNatClampNeg = c) (hdg : decode y.2.1 pc = .ok (.bastore, 1)) (h : qAE g k y Z (pc + 1) L S (X, mu M i c (vp_nar .boolean x)) E) : qAE g k y Z pc L (.inl x :: .inl j :: .inr (some i) :: S) (X, M) E := by
  subst hc
  have h9 := qr_zast o hsh hdg h
  rwa [qg_in hin] at h9

theorem qs_iincl2 {g : qG} {k : qK} {d : Nat} {y : qMY} {pc : Nat} {Z X : List qSh} {L : List (Option qV)} {S : List qV} {M : qM} {f : Int32 → qR} (o : qOk g d y k) {L' : Int32 → List (Option qV)} {i : Nat} {n : Int} {v c : Int32} (hdg : decode y.2.1 pc = .ok (.iinc i n, 3)) (hv : L[i]? = some (some (.inl v))) (hc : Int32.ofInt n = c) (hn : i < y.2.2.1) (hL : ∀ x : Int32, L.set i (some (.inl x)) = L' x) (h : ∀ x : Int32, qAE g k y Z (pc + 3) (L' x) S (X, M) (f x)) : qAE g k y Z pc L S (X, M) (ql (v + c) f) := by
  subst hc
  exact qr_iinc o hdg hv rfl hn (by rw [hL]; exact h _)
def q_tb (g : qG) (k : qK) (y : qMY) (Z : List qSh) (pc : Nat) (L : List (Option qV)) (S : List qV) (st : qSt) (offs : Array Int) : Int → Nat → List (Int32 × qR) → Prop
  | _, _, [] => True
  | lo, n, q :: r => q.1.toInt = lo ∧ (∃ (off : Int) (t : Nat), offs[n]? = some off ∧ (pc : Int) + off = (t : Int) ∧ qAE g k y Z t L S st q.2) ∧ q_tb g k y Z pc L S st offs (lo + 1) (n + 1) r
theorem q_tbn {g : qG} {k : qK} {y : qMY} {Z : List qSh} {pc : Nat} {L : List (Option qV)} {S : List qV} {st : qSt} {offs : Array Int} {lo : Int} {n : Nat} : q_tb g k y Z pc L S st offs lo n [] := trivial
theorem q_tbc {g : qG} {k : qK} {y : qMY} {Z : List qSh} {pc : Nat} {L : List (Option qV)} {S : List qV} {st : qSt} {offs : Array Int} {lo : Int} {n : Nat} {q : Int32 × qR} {r : List (Int32 × qR)} (off : Int) (t : Nat) (h1 : q.1.toInt = lo) (h2 : offs[n]? = some off) (h3 : (pc : Int) + off = (t : Int)) (h4 : qAE g k y Z t L S st q.2) (h5 : q_tb g k y Z pc L S st offs (lo + 1) (n + 1) r) : q_tb g k y Z pc L S st offs lo n (q :: r) := ⟨h1, ⟨off, t, h2, h3, h4⟩, h5⟩
theorem q_tb_at {g : qG} {k : qK} {y : qMY} {Z : List qSh} {pc : Nat} {L : List (Option qV)} {S : List qV} {st : qSt} {offs : Array Int} : ∀ (cs : List (Int32 × qR)) (lo : Int) (n : Nat), q_tb g k y Z pc L S st offs lo n cs → ∀ (i : Nat) (q : Int32 × qR), cs[i]? = some q → q.1.toInt = lo + i ∧ ∃ (off : Int) (t : Nat), offs[n + i]? = some off ∧ (pc : Int) + off = (t : Int) ∧ qAE g k y Z t L S st q.2
  | [], _, _, _, i, q, h => by simp at h
  | a :: r, lo, n, hb, 0, q, h => by
    simp at h
    subst h
    exact ⟨by simpa using hb.1, hb.2.1⟩
  | a :: r, lo, n, hb, i + 1, q, h => by
    obtain ⟨h1, h2⟩ := q_tb_at r (lo + 1) (n + 1) hb.2.2 i q (by simpa using h)
    refine ⟨by rw [h1]; omega, ?_⟩
    rw [show n + (i + 1) = n + 1 + i by omega]
    exact h2
theorem qr_tablep {g : qG} {k : qK} {d : Nat} {y : qMY} {pc : Nat} {Z X : List qSh} {L : List (Option qV)} {S : List qV} {M : qM} (o : qOk g d y k) {x : Int32} {dflt lo hi : Int} {offs : Array Int} {len tgt : Nat} {cs : List (Int32 × qR)} {D : qR} (hdg : decode y.2.1 pc = .ok (.tableswitch dflt lo hi offs, len)) (hlen : lo + cs.length = hi + 1) (ht : (pc : Int) + dflt = (tgt : Int)) (hD : qAE g k y Z tgt L S (X, M) D) (hB : q_tb g k y Z pc L S (X, M) offs lo 0 cs) : qAE g k y Z pc L (.inl x :: S) (X, M) (qsw x cs D) := by
  refine qr_table o hdg (fun n q h => (q_tb_at cs lo 0 hB n q h).1) hlen ht hD (fun n q h => ?_)
  have := (q_tb_at cs lo 0 hB n q h).2
  rwa [Nat.zero_add] at this
def q_lb (g : qG) (k : qK) (y : qMY) (Z : List qSh) (pc : Nat) (L : List (Option qV)) (S : List qV) (st : qSt) (ps : List (Int × Int)) : Nat → List (Int32 × qR) → Prop
  | _, [] => True
  | n, q :: r => (∃ (t : Nat), (pc : Int) + (ps[n]?.getD (0, 0)).2 = (t : Int) ∧ qAE g k y Z t L S st q.2) ∧ q_lb g k y Z pc L S st ps (n + 1) r
theorem q_lbn {g : qG} {k : qK} {y : qMY} {Z : List qSh} {pc : Nat} {L : List (Option qV)} {S : List qV} {st : qSt} {ps : List (Int × Int)} {n : Nat} : q_lb g k y Z pc L S st ps n [] := trivial
theorem q_lbc {g : qG} {k : qK} {y : qMY} {Z : List qSh} {pc : Nat} {L : List (Option qV)} {S : List qV} {st : qSt} {ps : List (Int × Int)} {n : Nat} {q : Int32 × qR} {r : List (Int32 × qR)} (t : Nat) (h3 : (pc : Int) + (ps[n]?.getD (0, 0)).2 = (t : Int)) (h4 : qAE g k y Z t L S st q.2) (h5 : q_lb g k y Z pc L S st ps (n + 1) r) : q_lb g k y Z pc L S st ps n (q :: r) := ⟨⟨t, h3, h4⟩, h5⟩
theorem q_lb_at {g : qG} {k : qK} {y : qMY} {Z : List qSh} {pc : Nat} {L : List (Option qV)} {S : List qV} {st : qSt} {ps : List (Int × Int)} : ∀ (cs : List (Int32 × qR)) (n : Nat), q_lb g k y Z pc L S st ps n cs → ∀ (i : Nat) (q : Int32 × qR), cs[i]? = some q → ∃ (t : Nat), (pc : Int) + (ps[n + i]?.getD (0, 0)).2 = (t : Int) ∧ qAE g k y Z t L S st q.2
  | [], _, _, i, q, h => by simp at h
  | a :: r, n, hb, 0, q, h => by
    simp at h
    subst h
    exact hb.1
  | a :: r, n, hb, i + 1, q, h => by
    have h2 := q_lb_at r (n + 1) hb.2 i q (by simpa using h)
    rw [show n + (i + 1) = n + 1 + i by omega]
    exact h2
theorem qr_lookupp {g : qG} {k : qK} {d : Nat} {y : qMY} {pc : Nat} {Z X : List qSh} {L : List (Option qV)} {S : List qV} {M : qM} (o : qOk g d y k) {x : Int32} {dflt : Int} {ps : Array (Int × Int)} {len tgt : Nat} {cs : List (Int32 × qR)} {D : qR} (hdg : decode y.2.1 pc = .ok (.lookupswitch dflt ps, len)) (hp : (ps.toList.zip (ps.toList.drop 1)).all (fun (a, next) => a.1 < next.1) = true) (hcs : cs.map (fun q => q.1.toInt) = ps.toList.map (fun q => q.1)) (ht : (pc : Int) + dflt = (tgt : Int)) (hD : qAE g k y Z tgt L S (X, M) D) (hB : q_lb g k y Z pc L S (X, M) ps.toList 0 cs) : qAE g k y Z pc L (.inl x :: S) (X, M) (qsw x cs D) := by
  refine qr_lookup o hdg hp hcs ht hD (fun n q h => ?_)
  have := q_lb_at cs 0 hB n q h
  rwa [Nat.zero_add] at this
def qcp (sp dp n : Int32) (n0 n1 : Nat) (E : qR) : qR := if sp < 0 ∨ dp < 0 ∨ n < 0 ∨ n0 < sp.toNatClampNeg + n.toNatClampNeg ∨ n1 < dp.toNatClampNeg + n.toNatClampNeg then none else E
theorem qr_copyp {g : qG} {k : qK} {d : Nat} {y : qMY} {pc : Nat} {Z X : List qSh} {L : List (Option qV)} {S : List qV} {M : qM} {E : qR} (o : qOk g d y k) {i j n0 n1 idx : Nat} {sp dp n : Int32} (h0 : X[i]? = some (.inl (0, n0))) (h1 : X[j]? = some (.inl (0, n1))) (hlk : Cond.methodLink y.1.cls idx arraycopyName ∈ q_tbl) (hd : 1 ≤ d) (hw : S.length + (nativeFrameWords "java/lang/System" "arraycopy" 5 + 11) ≤ 64) (hdg : decode y.2.1 pc = .ok (.invokestatic idx, 3))
    (h : qAE g k y Z (pc + 3) L S (X, mr M j (va_cpy (M i) (M j) sp.toNatClampNeg dp.toNatClampNeg n.toNatClampNeg)) E) :
    qAE g k y Z pc L (.inl n :: .inl dp :: .inr (some j) :: .inl sp :: .inr (some i) :: S) (X, M) (qcp sp dp n n0 n1 E) := qr_copy o h0 h1 hlk ac_nat ac_stat ac_ini hd hw hdg h
end
section
theorem ic_m8 : Int32.ofInt (-8) = (-8) := by decide
theorem ic_m1 : Int32.ofInt (-1) = (-1) := by decide
theorem ic_0 : Int32.ofInt 0 = 0 := by decide
theorem ic_1 : Int32.ofInt 1 = 1 := by decide
theorem ic_2 : Int32.ofInt 2 = 2 := by decide
theorem ic_3 : Int32.ofInt 3 = 3 := by decide
theorem ic_4 : Int32.ofInt 4 = 4 := by decide
theorem ic_5 : Int32.ofInt 5 = 5 := by decide
theorem bi_m4 : (Int8.ofInt (-4)).toInt32 = (-4) := by decide
theorem bi_m3 : (Int8.ofInt (-3)).toInt32 = (-3) := by decide
theorem bi_m2 : (Int8.ofInt (-2)).toInt32 = (-2) := by decide
theorem bi_6 : (Int8.ofInt 6).toInt32 = 6 := by decide
theorem bi_7 : (Int8.ofInt 7).toInt32 = 7 := by decide
theorem bi_8 : (Int8.ofInt 8).toInt32 = 8 := by decide
theorem bi_9 : (Int8.ofInt 9).toInt32 = 9 := by decide
theorem bi_10 : (Int8.ofInt 10).toInt32 = 10 := by decide
theorem bi_11 : (Int8.ofInt 11).toInt32 = 11 := by decide
theorem bi_12 : (Int8.ofInt 12).toInt32 = 12 := by decide
theorem bi_13 : (Int8.ofInt 13).toInt32 = 13 := by decide
theorem bi_14 : (Int8.ofInt 14).toInt32 = 14 := by decide
theorem bi_16 : (Int8.ofInt 16).toInt32 = 16 := by decide
theorem bi_17 : (Int8.ofInt 17).toInt32 = 17 := by decide
theorem bi_20 : (Int8.ofInt 20).toInt32 = 20 := by decide
theorem bi_21 : (Int8.ofInt 21).toInt32 = 21 := by decide
theorem bi_24 : (Int8.ofInt 24).toInt32 = 24 := by decide
theorem bi_30 : (Int8.ofInt 30).toInt32 = 30 := by decide
theorem bi_32 : (Int8.ofInt 32).toInt32 = 32 := by decide
theorem bi_33 : (Int8.ofInt 33).toInt32 = 33 := by decide
theorem bi_37 : (Int8.ofInt 37).toInt32 = 37 := by decide
theorem bi_38 : (Int8.ofInt 38).toInt32 = 38 := by decide
theorem bi_40 : (Int8.ofInt 40).toInt32 = 40 := by decide
theorem bi_41 : (Int8.ofInt 41).toInt32 = 41 := by decide
theorem bi_42 : (Int8.ofInt 42).toInt32 = 42 := by decide
theorem bi_43 : (Int8.ofInt 43).toInt32 = 43 := by decide
theorem bi_44 : (Int8.ofInt 44).toInt32 = 44 := by decide
theorem bi_45 : (Int8.ofInt 45).toInt32 = 45 := by decide
theorem bi_47 : (Int8.ofInt 47).toInt32 = 47 := by decide
theorem bi_48 : (Int8.ofInt 48).toInt32 = 48 := by decide
theorem bi_50 : (Int8.ofInt 50).toInt32 = 50 := by decide
theorem bi_57 : (Int8.ofInt 57).toInt32 = 57 := by decide
theorem bi_59 : (Int8.ofInt 59).toInt32 = 59 := by decide
theorem bi_60 : (Int8.ofInt 60).toInt32 = 60 := by decide
theorem bi_61 : (Int8.ofInt 61).toInt32 = 61 := by decide
theorem bi_62 : (Int8.ofInt 62).toInt32 = 62 := by decide
theorem bi_63 : (Int8.ofInt 63).toInt32 = 63 := by decide
theorem bi_64 : (Int8.ofInt 64).toInt32 = 64 := by decide
theorem bi_70 : (Int8.ofInt 70).toInt32 = 70 := by decide
theorem bi_80 : (Int8.ofInt 80).toInt32 = 80 := by decide
theorem bi_90 : (Int8.ofInt 90).toInt32 = 90 := by decide
theorem bi_91 : (Int8.ofInt 91).toInt32 = 91 := by decide
theorem bi_93 : (Int8.ofInt 93).toInt32 = 93 := by decide
theorem bi_96 : (Int8.ofInt 96).toInt32 = 96 := by decide
theorem bi_97 : (Int8.ofInt 97).toInt32 = 97 := by decide
theorem bi_99 : (Int8.ofInt 99).toInt32 = 99 := by decide
theorem bi_100 : (Int8.ofInt 100).toInt32 = 100 := by decide
theorem bi_102 : (Int8.ofInt 102).toInt32 = 102 := by decide
theorem bi_109 : (Int8.ofInt 109).toInt32 = 109 := by decide
theorem bi_118 : (Int8.ofInt 118).toInt32 = 118 := by decide
theorem bi_124 : (Int8.ofInt 124).toInt32 = 124 := by decide
theorem si_m1000 : (Int16.ofInt (-1000)).toInt32 = (-1000) := by decide
theorem si_192 : (Int16.ofInt 192).toInt32 = 192 := by decide
theorem si_200 : (Int16.ofInt 200).toInt32 = 200 := by decide
theorem si_240 : (Int16.ofInt 240).toInt32 = 240 := by decide
theorem si_255 : (Int16.ofInt 255).toInt32 = 255 := by decide
theorem si_256 : (Int16.ofInt 256).toInt32 = 256 := by decide
theorem si_260 : (Int16.ofInt 260).toInt32 = 260 := by decide
theorem si_288 : (Int16.ofInt 288).toInt32 = 288 := by decide
theorem si_296 : (Int16.ofInt 296).toInt32 = 296 := by decide
theorem si_304 : (Int16.ofInt 304).toInt32 = 304 := by decide
theorem si_312 : (Int16.ofInt 312).toInt32 = 312 := by decide
theorem si_313 : (Int16.ofInt 313).toInt32 = 313 := by decide
theorem si_314 : (Int16.ofInt 314).toInt32 = 314 := by decide
theorem si_320 : (Int16.ofInt 320).toInt32 = 320 := by decide
theorem si_634 : (Int16.ofInt 634).toInt32 = 634 := by decide
theorem si_954 : (Int16.ofInt 954).toInt32 = 954 := by decide
theorem si_999 : (Int16.ofInt 999).toInt32 = 999 := by decide
theorem si_4096 : (Int16.ofInt 4096).toInt32 = 4096 := by decide
theorem si_9999 : (Int16.ofInt 9999).toInt32 = 9999 := by decide
end
section
def tb_J6_bitCount_0f7a4 : List (Nat × Instr × Nat) := [(0, (.iload_n 0, 1)), (1, (.iload_n 0, 1)), (2, (.iconst 1, 1)), (3, (.iushr, 1)), (4, (.ldc_w 265, 3)), (7, (.iand, 1)), (8, (.isub, 1)), (9, (.istore_n 0, 1)), (10, (.iload_n 0, 1)), (11, (.ldc_w 266, 3)), (14, (.iand, 1)), (15, (.iload_n 0, 1)), (16, (.iconst 2, 1)), (17, (.iushr, 1)), (18, (.ldc_w 266, 3)), (21, (.iand, 1)), (22, (.iadd, 1)), (23, (.istore_n 0, 1)), (24, (.iload_n 0, 1)), (25, (.iload_n 0, 1)), (26, (.iconst 4, 1)), (27, (.iushr, 1)), (28, (.iadd, 1)), (29, (.ldc_w 267, 3)), (32, (.iand, 1)), (33, (.istore_n 0, 1)), (34, (.iload_n 0, 1)), (35, (.iload_n 0, 1)), (36, (.bipush 8, 2)), (38, (.iushr, 1)), (39, (.iadd, 1)), (40, (.istore_n 0, 1)), (41, (.iload_n 0, 1)), (42, (.iload_n 0, 1)), (43, (.bipush 16, 2)), (45, (.iushr, 1)), (46, (.iadd, 1)), (47, (.istore_n 0, 1)), (48, (.iload_n 0, 1)), (49, (.bipush 63, 2)), (51, (.iand, 1)), (52, (.ireturn, 1))]
theorem dm_J6_bitCount_0f7a4 : ∀ q ∈ tb_J6_bitCount_0f7a4, decode zJ6_bitCount_0f7a4.2.1 q.1 = .ok q.2 := by decide +kernel
def f_J6_bitCount_0f7a4 (n : Nat) (a0 : Int32) (M : qM) : qR :=
  ql (a0 - ((a0.toUInt32 >>> ((1 : Int32).toUInt32 &&& Int32.toUInt32 31)).toInt32 &&& (1431655765 : Int32))) (fun x1 => ql ((x1 &&& (858993459 : Int32)) + ((x1.toUInt32 >>> ((2 : Int32).toUInt32 &&& Int32.toUInt32 31)).toInt32 &&& (858993459 : Int32))) (fun x2 => ql ((x2 + (x2.toUInt32 >>> ((4 : Int32).toUInt32 &&& Int32.toUInt32 31)).toInt32) &&& (252645135 : Int32)) (fun x3 => ql (x3 + (x3.toUInt32 >>> ((8 : Int32).toUInt32 &&& Int32.toUInt32 31)).toInt32) (fun x4 => ql (x4 + (x4.toUInt32 >>> ((16 : Int32).toUInt32 &&& Int32.toUInt32 31)).toInt32) (fun x5 => some ((x5 &&& (63 : Int32)), M))))))
set_option maxRecDepth 4000 in
theorem w_J6_bitCount_0f7a4 {g : qG} {k : qK} (n : Nat) (j r : Nat) (hj : q_isLaw j) (hr : q_isLaw r) (o : qOk g 0 zJ6_bitCount_0f7a4 k) (a0 : Int32) (M : qM) : qAE g k zJ6_bitCount_0f7a4 (qL j r) 0 [some (.inl a0)] [] (qL j r, M) (f_J6_bitCount_0f7a4 n a0 M) := by
  unfold f_J6_bitCount_0f7a4
  refine qr_iload_n o (q_dm dm_J6_bitCount_0f7a4 0 rfl) rfl ?_
  refine qr_iload_n o (q_dm dm_J6_bitCount_0f7a4 1 rfl) rfl ?_
  refine qr_iconst o (q_dm dm_J6_bitCount_0f7a4 2 rfl) ic_1 ?_
  refine qr_iushr o (q_dm dm_J6_bitCount_0f7a4 3 rfl) ?_
  refine qr_ldc_w o (q_dm dm_J6_bitCount_0f7a4 4 rfl) kc_J6_265 ?_
  refine qr_iand o (q_dm dm_J6_bitCount_0f7a4 5 rfl) ?_
  refine qr_isub o (q_dm dm_J6_bitCount_0f7a4 6 rfl) ?_
  refine qr_lt (fun x1 => ?_)
  refine qs_istore_n (L' := [some (.inl x1)]) o (q_dm dm_J6_bitCount_0f7a4 7 rfl) (Nat.le_of_ble_eq_true rfl) rfl ?_
  refine qr_iload_n o (q_dm dm_J6_bitCount_0f7a4 8 rfl) rfl ?_
  refine qr_ldc_w o (q_dm dm_J6_bitCount_0f7a4 9 rfl) kc_J6_266 ?_
  refine qr_iand o (q_dm dm_J6_bitCount_0f7a4 10 rfl) ?_
  refine qr_iload_n o (q_dm dm_J6_bitCount_0f7a4 11 rfl) rfl ?_
  refine qr_iconst o (q_dm dm_J6_bitCount_0f7a4 12 rfl) ic_2 ?_
  refine qr_iushr o (q_dm dm_J6_bitCount_0f7a4 13 rfl) ?_
  refine qr_ldc_w o (q_dm dm_J6_bitCount_0f7a4 14 rfl) kc_J6_266 ?_
  refine qr_iand o (q_dm dm_J6_bitCount_0f7a4 15 rfl) ?_
  refine qr_iadd o (q_dm dm_J6_bitCount_0f7a4 16 rfl) ?_
  refine qr_lt (fun x2 => ?_)
  refine qs_istore_n (L' := [some (.inl x2)]) o (q_dm dm_J6_bitCount_0f7a4 17 rfl) (Nat.le_of_ble_eq_true rfl) rfl ?_
  refine qr_iload_n o (q_dm dm_J6_bitCount_0f7a4 18 rfl) rfl ?_
  refine qr_iload_n o (q_dm dm_J6_bitCount_0f7a4 19 rfl) rfl ?_
  refine qr_iconst o (q_dm dm_J6_bitCount_0f7a4 20 rfl) ic_4 ?_
  refine qr_iushr o (q_dm dm_J6_bitCount_0f7a4 21 rfl) ?_
  refine qr_iadd o (q_dm dm_J6_bitCount_0f7a4 22 rfl) ?_
  refine qr_ldc_w o (q_dm dm_J6_bitCount_0f7a4 23 rfl) kc_J6_267 ?_
  refine qr_iand o (q_dm dm_J6_bitCount_0f7a4 24 rfl) ?_
  refine qr_lt (fun x3 => ?_)
  refine qs_istore_n (L' := [some (.inl x3)]) o (q_dm dm_J6_bitCount_0f7a4 25 rfl) (Nat.le_of_ble_eq_true rfl) rfl ?_
  refine qr_iload_n o (q_dm dm_J6_bitCount_0f7a4 26 rfl) rfl ?_
  refine qr_iload_n o (q_dm dm_J6_bitCount_0f7a4 27 rfl) rfl ?_
  refine qr_bipush o (q_dm dm_J6_bitCount_0f7a4 28 rfl) bi_8 ?_
  refine qr_iushr o (q_dm dm_J6_bitCount_0f7a4 29 rfl) ?_
  refine qr_iadd o (q_dm dm_J6_bitCount_0f7a4 30 rfl) ?_
  refine qr_lt (fun x4 => ?_)
  refine qs_istore_n (L' := [some (.inl x4)]) o (q_dm dm_J6_bitCount_0f7a4 31 rfl) (Nat.le_of_ble_eq_true rfl) rfl ?_
  refine qr_iload_n o (q_dm dm_J6_bitCount_0f7a4 32 rfl) rfl ?_
  refine qr_iload_n o (q_dm dm_J6_bitCount_0f7a4 33 rfl) rfl ?_
  refine qr_bipush o (q_dm dm_J6_bitCount_0f7a4 34 rfl) bi_16 ?_
  refine qr_iushr o (q_dm dm_J6_bitCount_0f7a4 35 rfl) ?_
  refine qr_iadd o (q_dm dm_J6_bitCount_0f7a4 36 rfl) ?_
  refine qr_lt (fun x5 => ?_)
  refine qs_istore_n (L' := [some (.inl x5)]) o (q_dm dm_J6_bitCount_0f7a4 37 rfl) (Nat.le_of_ble_eq_true rfl) rfl ?_
  refine qr_iload_n o (q_dm dm_J6_bitCount_0f7a4 38 rfl) rfl ?_
  refine qr_bipush o (q_dm dm_J6_bitCount_0f7a4 39 rfl) bi_63 ?_
  refine qr_iand o (q_dm dm_J6_bitCount_0f7a4 40 rfl) ?_
  exact qr_iret o rfl rfl (q_dm dm_J6_bitCount_0f7a4 41 rfl)

theorem a_J6_bitCount_0f7a4 (g : qG) (l : Launch) (n : Nat) (j r : Nat) (hj : q_isLaw j) (hr : q_isLaw r) (a0 : Int32) (M : qM) : qAM g l 0 zJ6_bitCount_0f7a4 (qL j r) [.inl a0] (qL j r, M) (f_J6_bitCount_0f7a4 n a0 M) :=
  qAM.of zs_J6_bitCount_0f7a4.1 (by show 1 ≤ 1; decide) (fun k hk o => w_J6_bitCount_0f7a4 n j r hj hr o a0 M)
def tb_J7_fill_53178 : List (Nat × Instr × Nat) := [(0, (.iconst 0, 1)), (1, (.istore_n 2, 1)), (2, (.aload_n 0, 1)), (3, (.arraylength, 1)), (4, (.istore_n 3, 1)), (5, (.iload_n 2, 1)), (6, (.iload_n 3, 1)), (7, (.if_icmp .ge 13, 3)), (10, (.aload_n 0, 1)), (11, (.iload_n 2, 1)), (12, (.iload_n 1, 1)), (13, (.iastore, 1)), (14, (.iinc 2 1, 3)), (17, (.goto (-12), 3)), (20, (.return_, 1))]
theorem dm_J7_fill_53178 : ∀ q ∈ tb_J7_fill_53178, decode zJ7_fill_53178.2.1 q.1 = .ok q.2 := by decide +kernel
def b_J7_fill_53178_5 (n : Nat) (c1 len : Nat) (K5 : Int32 → Int32 → Int32 → qM → qR) (a1 a2 a3 : Int32) (M : qM) : qR :=
  (if a3 ≤ a2 then some (0, M) else qg a2 len (qlm (mu M c1 a2.toNatClampNeg a1) (fun m1 => ql (a2 + (1 : Int32)) (fun x2 => K5 a1 x2 a3 m1))))
set_option maxRecDepth 4000 in
theorem wb_J7_fill_53178_5 {g : qG} {k : qK} (n : Nat) (j r : Nat) (hj : q_isLaw j) (hr : q_isLaw r) {c1 : Nat} {len : Nat} (hc1 : (qL j r)[c1]? = some (.inl (0, len))) (o : qOk g 0 zJ7_fill_53178 k) (K5 : Int32 → Int32 → Int32 → qM → qR) (hK5 : ∀ (a1 a2 a3 : Int32) (M : qM), qAE g k zJ7_fill_53178 (qL j r) 5 [some (.inr (some c1)), some (.inl a1), some (.inl a2), some (.inl a3)] [] (qL j r, M) (K5 a1 a2 a3 M)) (a1 a2 a3 : Int32) (M : qM) : qAE g k zJ7_fill_53178 (qL j r) 5 [some (.inr (some c1)), some (.inl a1), some (.inl a2), some (.inl a3)] [] (qL j r, M) (b_J7_fill_53178_5 n c1 len K5 a1 a2 a3 M) := by
  unfold b_J7_fill_53178_5
  refine qr_iload_n o (q_dm dm_J7_fill_53178 5 rfl) rfl ?_
  refine qr_iload_n o (q_dm dm_J7_fill_53178 6 rfl) rfl ?_
  refine qr_icmp_ge (tgt := 20) o (q_dm dm_J7_fill_53178 7 rfl) (by decide) ?_ ?_
  · exact qr_vret o rfl (q_dm dm_J7_fill_53178 14 rfl)
  · refine qr_aload_n o (q_dm dm_J7_fill_53178 8 rfl) rfl ?_
    refine qr_iload_n o (q_dm dm_J7_fill_53178 9 rfl) rfl ?_
    refine qr_iload_n o (q_dm dm_J7_fill_53178 10 rfl) rfl ?_
    refine qr_iast o hc1 (q_dm dm_J7_fill_53178 11 rfl) ?_
    refine qr_letm (fun m1 => ?_)
    refine qs_iincl2 (L' := fun x2 => [some (.inr (some c1)), some (.inl a1), some (.inl x2), some (.inl a3)]) o (q_dm dm_J7_fill_53178 12 rfl) rfl ic_1 (Nat.le_of_ble_eq_true rfl) (fun _ => rfl) (fun x2 => ?_)
    refine qr_goto (tgt := 5) o (q_dm dm_J7_fill_53178 13 rfl) (by decide) ?_
    exact qr_loc (q_leS (q_leS (q_leS (q_leS q_le0)))) (hK5 a1 x2 a3 m1)

def f_J7_fill_53178_5 (n : Nat) (c1 len : Nat) : Nat → Int32 → Int32 → Int32 → qM → qR
  | 0, _, _, _, _ => none
  | m + 1, a1, a2, a3, M => b_J7_fill_53178_5 n c1 len (f_J7_fill_53178_5 n c1 len m) a1 a2 a3 M
theorem w_J7_fill_53178_5 {g : qG} {k : qK} (n : Nat) (j r : Nat) (hj : q_isLaw j) (hr : q_isLaw r) {c1 : Nat} {len : Nat} (hc1 : (qL j r)[c1]? = some (.inl (0, len))) (o : qOk g 0 zJ7_fill_53178 k) : ∀ (m : Nat) (a1 a2 a3 : Int32) (M : qM), qAE g k zJ7_fill_53178 (qL j r) 5 [some (.inr (some c1)), some (.inl a1), some (.inl a2), some (.inl a3)] [] (qL j r, M) (f_J7_fill_53178_5 n c1 len m a1 a2 a3 M) := by
  intro m
  induction m with
  | zero =>
    intro a1 a2 a3 M
    exact qr_none
  | succ m ih =>
    intro a1 a2 a3 M
    exact wb_J7_fill_53178_5 n j r hj hr hc1 o (f_J7_fill_53178_5 n c1 len m) ih a1 a2 a3 M
def f_J7_fill_53178 (n : Nat) (c1 len : Nat) (a1 : Int32) (M : qM) : qR :=
  ql (Int32.ofNat len) (fun x1 => f_J7_fill_53178_5 n c1 len n a1 (0 : Int32) x1 M)
set_option maxRecDepth 4000 in
theorem w_J7_fill_53178 {g : qG} {k : qK} (n : Nat) (j r : Nat) (hj : q_isLaw j) (hr : q_isLaw r) {c1 : Nat} {len : Nat} (hc1 : (qL j r)[c1]? = some (.inl (0, len))) (o : qOk g 0 zJ7_fill_53178 k) (a1 : Int32) (M : qM) : qAE g k zJ7_fill_53178 (qL j r) 0 [some (.inr (some c1)), some (.inl a1), none, none] [] (qL j r, M) (f_J7_fill_53178 n c1 len a1 M) := by
  unfold f_J7_fill_53178
  refine qr_iconst o (q_dm dm_J7_fill_53178 0 rfl) ic_0 ?_
  refine qs_istore_n (L' := [some (.inr (some c1)), some (.inl a1), some (.inl (0 : Int32)), none]) o (q_dm dm_J7_fill_53178 1 rfl) (Nat.le_of_ble_eq_true rfl) rfl ?_
  refine qr_aload_n o (q_dm dm_J7_fill_53178 2 rfl) rfl ?_
  refine qr_alen o hc1 (by decide) rfl (q_dm dm_J7_fill_53178 3 rfl) ?_
  refine qr_lt (fun x1 => ?_)
  refine qs_istore_n (L' := [some (.inr (some c1)), some (.inl a1), some (.inl (0 : Int32)), some (.inl x1)]) o (q_dm dm_J7_fill_53178 4 rfl) (Nat.le_of_ble_eq_true rfl) rfl ?_
  exact qr_loc (q_leS (q_leS (q_leS (q_leS q_le0)))) (w_J7_fill_53178_5 n j r hj hr hc1 o n a1 (0 : Int32) x1 M)

theorem a_J7_fill_53178 (g : qG) (l : Launch) (n : Nat) (j r : Nat) (hj : q_isLaw j) (hr : q_isLaw r) {c1 : Nat} {len : Nat} (hc1 : (qL j r)[c1]? = some (.inl (0, len))) (a1 : Int32) (M : qM) : qAM g l 0 zJ7_fill_53178 (qL j r) [.inr (some c1), .inl a1] (qL j r, M) (f_J7_fill_53178 n c1 len a1 M) :=
  qAM.of zs_J7_fill_53178.1 (by show 2 ≤ 4; decide) (fun k hk o => w_J7_fill_53178 n j r hj hr hc1 o a1 M)
def tb_X10_triesByAll : List (Nat × Instr × Nat) := [(0, (.iconst 0, 1)), (1, (.istore_n 2, 1)), (2, (.iconst 0, 1)), (3, (.istore_n 3, 1)), (4, (.iload_n 3, 1)), (5, (.bipush 8, 2)), (7, (.if_icmp .ge 23, 3)), (10, (.iload_n 2, 1)), (11, (.aload_n 0, 1)), (12, (.getfield 15, 3)), (15, (.iload_n 3, 1)), (16, (.bipush 12, 2)), (18, (.imul, 1)), (19, (.iload_n 1, 1)), (20, (.iadd, 1)), (21, (.iaload, 1)), (22, (.iadd, 1)), (23, (.istore_n 2, 1)), (24, (.iinc 3 1, 3)), (27, (.goto (-23), 3)), (30, (.iload_n 2, 1)), (31, (.ireturn, 1))]
theorem dm_X10_triesByAll : ∀ q ∈ tb_X10_triesByAll, decode zX10_triesByAll.2.1 q.1 = .ok q.2 := by decide +kernel
def b_X10_triesByAll_4 (n : Nat) (t : Nat) (K4 : Int32 → Int32 → Int32 → qM → qR) (a1 a2 a3 : Int32) (M : qM) : qR :=
  (if (8 : Int32) ≤ a3 then some (a2, M) else qg ((a3 * (12 : Int32)) + a1) 96 (ql (a2 + (M (t + 2) ((a3 * (12 : Int32)) + a1).toNatClampNeg)) (fun x1 => ql (a3 + (1 : Int32)) (fun x2 => K4 a1 x1 x2 M))))
set_option maxRecDepth 4000 in
theorem wb_X10_triesByAll_4 {g : qG} {k : qK} (n : Nat) (j r : Nat) (hj : q_isLaw j) (hr : q_isLaw r) {t : Nat} (ht : q_isTown t) (o : qOk g 0 zX10_triesByAll k) (K4 : Int32 → Int32 → Int32 → qM → qR) (hK4 : ∀ (a1 a2 a3 : Int32) (M : qM), qAE g k zX10_triesByAll (qL j r) 4 [some (.inr (some t)), some (.inl a1), some (.inl a2), some (.inl a3)] [] (qL j r, M) (K4 a1 a2 a3 M)) (a1 a2 a3 : Int32) (M : qM) : qAE g k zX10_triesByAll (qL j r) 4 [some (.inr (some t)), some (.inl a1), some (.inl a2), some (.inl a3)] [] (qL j r, M) (b_X10_triesByAll_4 n t K4 a1 a2 a3 M) := by
  unfold b_X10_triesByAll_4
  refine qr_iload_n o (q_dm dm_X10_triesByAll 4 rfl) rfl ?_
  refine qr_bipush o (q_dm dm_X10_triesByAll 5 rfl) bi_8 ?_
  refine qr_icmp_ge (tgt := 30) o (q_dm dm_X10_triesByAll 6 rfl) (by decide) ?_ ?_
  · refine qr_iload_n o (q_dm dm_X10_triesByAll 20 rfl) rfl ?_
    exact qr_iret o rfl rfl (q_dm dm_X10_triesByAll 21 rfl)
  · refine qr_iload_n o (q_dm dm_X10_triesByAll 7 rfl) rfl ?_
    refine qr_aload_n o (q_dm dm_X10_triesByAll 8 rfl) rfl ?_
    refine qr_getr (kf := 1) o cf_X10 (shT0 j r ht) rfl (Nat.le_of_ble_eq_true rfl) fl_X10_15 (q_dm dm_X10_triesByAll 9 rfl) ?_
    refine qr_iload_n o (q_dm dm_X10_triesByAll 10 rfl) rfl ?_
    refine qr_bipush o (q_dm dm_X10_triesByAll 11 rfl) bi_12 ?_
    refine qr_imul o (q_dm dm_X10_triesByAll 12 rfl) ?_
    refine qr_iload_n o (q_dm dm_X10_triesByAll 13 rfl) rfl ?_
    refine qr_iadd o (q_dm dm_X10_triesByAll 14 rfl) ?_
    refine qr_iald o (shT2 j r ht) (q_dm dm_X10_triesByAll 15 rfl) ?_
    refine qr_iadd o (q_dm dm_X10_triesByAll 16 rfl) ?_
    refine qr_lt (fun x1 => ?_)
    refine qs_istore_n (L' := [some (.inr (some t)), some (.inl a1), some (.inl x1), some (.inl a3)]) o (q_dm dm_X10_triesByAll 17 rfl) (Nat.le_of_ble_eq_true rfl) rfl ?_
    refine qs_iincl2 (L' := fun x2 => [some (.inr (some t)), some (.inl a1), some (.inl x1), some (.inl x2)]) o (q_dm dm_X10_triesByAll 18 rfl) rfl ic_1 (Nat.le_of_ble_eq_true rfl) (fun _ => rfl) (fun x2 => ?_)
    refine qr_goto (tgt := 4) o (q_dm dm_X10_triesByAll 19 rfl) (by decide) ?_
    exact qr_loc (q_leS (q_leS (q_leS (q_leS q_le0)))) (hK4 a1 x1 x2 M)

def f_X10_triesByAll_4 (n : Nat) (t : Nat) : Nat → Int32 → Int32 → Int32 → qM → qR
  | 0, _, _, _, _ => none
  | m + 1, a1, a2, a3, M => b_X10_triesByAll_4 n t (f_X10_triesByAll_4 n t m) a1 a2 a3 M
theorem w_X10_triesByAll_4 {g : qG} {k : qK} (n : Nat) (j r : Nat) (hj : q_isLaw j) (hr : q_isLaw r) {t : Nat} (ht : q_isTown t) (o : qOk g 0 zX10_triesByAll k) : ∀ (m : Nat) (a1 a2 a3 : Int32) (M : qM), qAE g k zX10_triesByAll (qL j r) 4 [some (.inr (some t)), some (.inl a1), some (.inl a2), some (.inl a3)] [] (qL j r, M) (f_X10_triesByAll_4 n t m a1 a2 a3 M) := by
  intro m
  induction m with
  | zero =>
    intro a1 a2 a3 M
    exact qr_none
  | succ m ih =>
    intro a1 a2 a3 M
    exact wb_X10_triesByAll_4 n j r hj hr ht o (f_X10_triesByAll_4 n t m) ih a1 a2 a3 M
def f_X10_triesByAll (n : Nat) (t : Nat) (a1 : Int32) (M : qM) : qR :=
  f_X10_triesByAll_4 n t n a1 (0 : Int32) (0 : Int32) M
set_option maxRecDepth 4000 in
theorem w_X10_triesByAll {g : qG} {k : qK} (n : Nat) (j r : Nat) (hj : q_isLaw j) (hr : q_isLaw r) {t : Nat} (ht : q_isTown t) (o : qOk g 0 zX10_triesByAll k) (a1 : Int32) (M : qM) : qAE g k zX10_triesByAll (qL j r) 0 [some (.inr (some t)), some (.inl a1), none, none] [] (qL j r, M) (f_X10_triesByAll n t a1 M) := by
  unfold f_X10_triesByAll
  refine qr_iconst o (q_dm dm_X10_triesByAll 0 rfl) ic_0 ?_
  refine qs_istore_n (L' := [some (.inr (some t)), some (.inl a1), some (.inl (0 : Int32)), none]) o (q_dm dm_X10_triesByAll 1 rfl) (Nat.le_of_ble_eq_true rfl) rfl ?_
  refine qr_iconst o (q_dm dm_X10_triesByAll 2 rfl) ic_0 ?_
  refine qs_istore_n (L' := [some (.inr (some t)), some (.inl a1), some (.inl (0 : Int32)), some (.inl (0 : Int32))]) o (q_dm dm_X10_triesByAll 3 rfl) (Nat.le_of_ble_eq_true rfl) rfl ?_
  exact qr_loc (q_leS (q_leS (q_leS (q_leS q_le0)))) (w_X10_triesByAll_4 n j r hj hr ht o n a1 (0 : Int32) (0 : Int32) M)

theorem a_X10_triesByAll (g : qG) (l : Launch) (n : Nat) (j r : Nat) (hj : q_isLaw j) (hr : q_isLaw r) {t : Nat} (ht : q_isTown t) (a1 : Int32) (M : qM) : qAM g l 0 zX10_triesByAll (qL j r) [.inr (some t), .inl a1] (qL j r, M) (f_X10_triesByAll n t a1 M) :=
  qAM.of zv_X10_triesByAll.1 (by show 2 ≤ 4; decide) (fun k hk o => w_X10_triesByAll n j r hj hr ht o a1 M)
def tb_X1_tellDeed : List (Nat × Instr × Nat) := [(0, (.aload_n 0, 1)), (1, (.getfield 13, 3)), (4, (.iconst 0, 1)), (5, (.invokestatic 51, 3)), (8, (.aload_n 0, 1)), (9, (.getfield 13, 3)), (12, (.iconst 0, 1)), (13, (.iload_n 1, 1)), (14, (.iastore, 1)), (15, (.aload_n 0, 1)), (16, (.getfield 13, 3)), (19, (.iconst 1, 1)), (20, (.iload_n 2, 1)), (21, (.iastore, 1)), (22, (.aload_n 0, 1)), (23, (.getfield 13, 3)), (26, (.iconst 2, 1)), (27, (.iload_n 3, 1)), (28, (.iastore, 1)), (29, (.aload_n 0, 1)), (30, (.getfield 13, 3)), (33, (.bipush 6, 2)), (35, (.iload 4, 2)), (37, (.iastore, 1)), (38, (.return_, 1))]
theorem dm_X1_tellDeed : ∀ q ∈ tb_X1_tellDeed, decode zX1_tellDeed.2.1 q.1 = .ok q.2 := by decide +kernel
def f_X1_tellDeed (n : Nat) (a1 a2 a3 a4 : Int32) (M : qM) : qR :=
  qc (f_J7_fill_53178 n 35 12 (0 : Int32) M) (fun _ m1 => qlm (mu m1 35 0 a1) (fun m2 => qlm (mu m2 35 1 a2) (fun m3 => qlm (mu m3 35 2 a3) (fun m4 => qlm (mu m4 35 6 a4) (fun m5 => some (0, m5))))))
set_option maxRecDepth 4000 in
theorem w_X1_tellDeed {g : qG} {k : qK} (n : Nat) (j r : Nat) (hj : q_isLaw j) (hr : q_isLaw r) (o : qOk g 1 zX1_tellDeed k) (a1 a2 a3 a4 : Int32) (M : qM) : qAE g k zX1_tellDeed (qL j r) 0 [some (.inr (some 34)), some (.inl a1), some (.inl a2), some (.inl a3), some (.inl a4)] [] (qL j r, M) (f_X1_tellDeed n a1 a2 a3 a4 M) := by
  unfold f_X1_tellDeed
  refine qr_aload_n o (q_dm dm_X1_tellDeed 0 rfl) rfl ?_
  refine qr_getr (kf := 1) o cf_X1 (sh34 j r) rfl (Nat.le_of_ble_eq_true rfl) fl_X1_13 (q_dm dm_X1_tellDeed 1 rfl) ?_
  refine qr_iconst o (q_dm dm_X1_tellDeed 2 rfl) ic_0 ?_
  refine qr_calls_v (As := [.inr (some 35), .inl (0 : Int32)]) (S := []) o (a_J7_fill_53178 g k.2.1 n j r hj hr (sh35 j r) (0 : Int32) M) (Nat.le_of_ble_eq_true rfl) zs_J7_fill_53178 rfl ml_X1_51 (Nat.le_of_ble_eq_true rfl) (q_dm dm_X1_tellDeed 3 rfl) (fun _ m1 => ?_)
  refine qr_aload_n o (q_dm dm_X1_tellDeed 4 rfl) rfl ?_
  refine qr_getr (kf := 1) o cf_X1 (sh34 j r) rfl (Nat.le_of_ble_eq_true rfl) fl_X1_13 (q_dm dm_X1_tellDeed 5 rfl) ?_
  refine qr_iconst o (q_dm dm_X1_tellDeed 6 rfl) ic_0 ?_
  refine qr_iload_n o (q_dm dm_X1_tellDeed 7 rfl) rfl ?_
  refine qr_iast0 (c := 0) o (sh35 j r) (by decide) (by decide) (q_dm dm_X1_tellDeed 8 rfl) ?_
  refine qr_letm (fun m2 => ?_)
  refine qr_aload_n o (q_dm dm_X1_tellDeed 9 rfl) rfl ?_
  refine qr_getr (kf := 1) o cf_X1 (sh34 j r) rfl (Nat.le_of_ble_eq_true rfl) fl_X1_13 (q_dm dm_X1_tellDeed 10 rfl) ?_
  refine qr_iconst o (q_dm dm_X1_tellDeed 11 rfl) ic_1 ?_
  refine qr_iload_n o (q_dm dm_X1_tellDeed 12 rfl) rfl ?_
  refine qr_iast0 (c := 1) o (sh35 j r) (by decide) (by decide) (q_dm dm_X1_tellDeed 13 rfl) ?_
  refine qr_letm (fun m3 => ?_)
  refine qr_aload_n o (q_dm dm_X1_tellDeed 14 rfl) rfl ?_
  refine qr_getr (kf := 1) o cf_X1 (sh34 j r) rfl (Nat.le_of_ble_eq_true rfl) fl_X1_13 (q_dm dm_X1_tellDeed 15 rfl) ?_
  refine qr_iconst o (q_dm dm_X1_tellDeed 16 rfl) ic_2 ?_
  refine qr_iload_n o (q_dm dm_X1_tellDeed 17 rfl) rfl ?_
  refine qr_iast0 (c := 2) o (sh35 j r) (by decide) (by decide) (q_dm dm_X1_tellDeed 18 rfl) ?_
  refine qr_letm (fun m4 => ?_)
  refine qr_aload_n o (q_dm dm_X1_tellDeed 19 rfl) rfl ?_
  refine qr_getr (kf := 1) o cf_X1 (sh34 j r) rfl (Nat.le_of_ble_eq_true rfl) fl_X1_13 (q_dm dm_X1_tellDeed 20 rfl) ?_
  refine qr_bipush o (q_dm dm_X1_tellDeed 21 rfl) bi_6 ?_
  refine qr_iload o (q_dm dm_X1_tellDeed 22 rfl) rfl ?_
  refine qr_iast0 (c := 6) o (sh35 j r) (by decide) (by decide) (q_dm dm_X1_tellDeed 23 rfl) ?_
  refine qr_letm (fun m5 => ?_)
  exact qr_vret o rfl (q_dm dm_X1_tellDeed 24 rfl)

theorem a_X1_tellDeed (g : qG) (l : Launch) (n : Nat) (j r : Nat) (hj : q_isLaw j) (hr : q_isLaw r) (a1 a2 a3 a4 : Int32) (M : qM) : qAM g l 1 zX1_tellDeed (qL j r) [.inr (some 34), .inl a1, .inl a2, .inl a3, .inl a4] (qL j r, M) (f_X1_tellDeed n a1 a2 a3 a4 M) :=
  qAM.of zv_X1_tellDeed.1 (by show 5 ≤ 5; decide) (fun k hk o => w_X1_tellDeed n j r hj hr o a1 a2 a3 a4 M)
def tb_X1_tellTry : List (Nat × Instr × Nat) := [(0, (.aload_n 0, 1)), (1, (.getfield 13, 3)), (4, (.bipush 7, 2)), (6, (.iload_n 1, 1)), (7, (.iastore, 1)), (8, (.aload_n 0, 1)), (9, (.getfield 13, 3)), (12, (.bipush 8, 2)), (14, (.iload_n 2, 1)), (15, (.iastore, 1)), (16, (.aload_n 0, 1)), (17, (.getfield 13, 3)), (20, (.bipush 9, 2)), (22, (.iload_n 3, 1)), (23, (.iastore, 1)), (24, (.aload_n 0, 1)), (25, (.getfield 13, 3)), (28, (.bipush 10, 2)), (30, (.iload 4, 2)), (32, (.iastore, 1)), (33, (.aload_n 0, 1)), (34, (.getfield 13, 3)), (37, (.bipush 11, 2)), (39, (.iload 5, 2)), (41, (.iastore, 1)), (42, (.return_, 1))]
theorem dm_X1_tellTry : ∀ q ∈ tb_X1_tellTry, decode zX1_tellTry.2.1 q.1 = .ok q.2 := by decide +kernel
def f_X1_tellTry (n : Nat) (a1 a2 a3 a4 a5 : Int32) (M : qM) : qR :=
  qlm (mu M 35 7 a1) (fun m1 => qlm (mu m1 35 8 a2) (fun m2 => qlm (mu m2 35 9 a3) (fun m3 => qlm (mu m3 35 10 a4) (fun m4 => qlm (mu m4 35 11 a5) (fun m5 => some (0, m5))))))
set_option maxRecDepth 4000 in
theorem w_X1_tellTry {g : qG} {k : qK} (n : Nat) (j r : Nat) (hj : q_isLaw j) (hr : q_isLaw r) (o : qOk g 0 zX1_tellTry k) (a1 a2 a3 a4 a5 : Int32) (M : qM) : qAE g k zX1_tellTry (qL j r) 0 [some (.inr (some 34)), some (.inl a1), some (.inl a2), some (.inl a3), some (.inl a4), some (.inl a5)] [] (qL j r, M) (f_X1_tellTry n a1 a2 a3 a4 a5 M) := by
  unfold f_X1_tellTry
  refine qr_aload_n o (q_dm dm_X1_tellTry 0 rfl) rfl ?_
  refine qr_getr (kf := 1) o cf_X1 (sh34 j r) rfl (Nat.le_of_ble_eq_true rfl) fl_X1_13 (q_dm dm_X1_tellTry 1 rfl) ?_
  refine qr_bipush o (q_dm dm_X1_tellTry 2 rfl) bi_7 ?_
  refine qr_iload_n o (q_dm dm_X1_tellTry 3 rfl) rfl ?_
  refine qr_iast0 (c := 7) o (sh35 j r) (by decide) (by decide) (q_dm dm_X1_tellTry 4 rfl) ?_
  refine qr_letm (fun m1 => ?_)
  refine qr_aload_n o (q_dm dm_X1_tellTry 5 rfl) rfl ?_
  refine qr_getr (kf := 1) o cf_X1 (sh34 j r) rfl (Nat.le_of_ble_eq_true rfl) fl_X1_13 (q_dm dm_X1_tellTry 6 rfl) ?_
  refine qr_bipush o (q_dm dm_X1_tellTry 7 rfl) bi_8 ?_
  refine qr_iload_n o (q_dm dm_X1_tellTry 8 rfl) rfl ?_
  refine qr_iast0 (c := 8) o (sh35 j r) (by decide) (by decide) (q_dm dm_X1_tellTry 9 rfl) ?_
  refine qr_letm (fun m2 => ?_)
  refine qr_aload_n o (q_dm dm_X1_tellTry 10 rfl) rfl ?_
  refine qr_getr (kf := 1) o cf_X1 (sh34 j r) rfl (Nat.le_of_ble_eq_true rfl) fl_X1_13 (q_dm dm_X1_tellTry 11 rfl) ?_
  refine qr_bipush o (q_dm dm_X1_tellTry 12 rfl) bi_9 ?_
  refine qr_iload_n o (q_dm dm_X1_tellTry 13 rfl) rfl ?_
  refine qr_iast0 (c := 9) o (sh35 j r) (by decide) (by decide) (q_dm dm_X1_tellTry 14 rfl) ?_
  refine qr_letm (fun m3 => ?_)
  refine qr_aload_n o (q_dm dm_X1_tellTry 15 rfl) rfl ?_
  refine qr_getr (kf := 1) o cf_X1 (sh34 j r) rfl (Nat.le_of_ble_eq_true rfl) fl_X1_13 (q_dm dm_X1_tellTry 16 rfl) ?_
  refine qr_bipush o (q_dm dm_X1_tellTry 17 rfl) bi_10 ?_
  refine qr_iload o (q_dm dm_X1_tellTry 18 rfl) rfl ?_
  refine qr_iast0 (c := 10) o (sh35 j r) (by decide) (by decide) (q_dm dm_X1_tellTry 19 rfl) ?_
  refine qr_letm (fun m4 => ?_)
  refine qr_aload_n o (q_dm dm_X1_tellTry 20 rfl) rfl ?_
  refine qr_getr (kf := 1) o cf_X1 (sh34 j r) rfl (Nat.le_of_ble_eq_true rfl) fl_X1_13 (q_dm dm_X1_tellTry 21 rfl) ?_
  refine qr_bipush o (q_dm dm_X1_tellTry 22 rfl) bi_11 ?_
  refine qr_iload o (q_dm dm_X1_tellTry 23 rfl) rfl ?_
  refine qr_iast0 (c := 11) o (sh35 j r) (by decide) (by decide) (q_dm dm_X1_tellTry 24 rfl) ?_
  refine qr_letm (fun m5 => ?_)
  exact qr_vret o rfl (q_dm dm_X1_tellTry 25 rfl)

theorem a_X1_tellTry (g : qG) (l : Launch) (n : Nat) (j r : Nat) (hj : q_isLaw j) (hr : q_isLaw r) (a1 a2 a3 a4 a5 : Int32) (M : qM) : qAM g l 0 zX1_tellTry (qL j r) [.inr (some 34), .inl a1, .inl a2, .inl a3, .inl a4, .inl a5] (qL j r, M) (f_X1_tellTry n a1 a2 a3 a4 a5 M) :=
  qAM.of zv_X1_tellTry.1 (by show 6 ≤ 6; decide) (fun k hk o => w_X1_tellTry n j r hj hr o a1 a2 a3 a4 a5 M)
def tb_X0_tellAll : List (Nat × Instr × Nat) := [(0, (.iload_n 2, 1)), (1, (.bipush 12, 2)), (3, (.imul, 1)), (4, (.iload_n 3, 1)), (5, (.iadd, 1)), (6, (.istore 5, 2)), (8, (.aload_n 0, 1)), (9, (.getfield 15, 3)), (12, (.iload_n 3, 1)), (13, (.aload_n 0, 1)), (14, (.getfield 9, 3)), (17, (.getfield 128, 3)), (20, (.iload_n 3, 1)), (21, (.iaload, 1)), (22, (.aload_n 0, 1)), (23, (.getfield 9, 3)), (26, (.getfield 141, 3)), (29, (.iload_n 3, 1)), (30, (.iaload, 1)), (31, (.aload_n 1, 1)), (32, (.getfield 19, 3)), (35, (.invokevirtual 144, 3)), (38, (.aload_n 0, 1)), (39, (.getfield 15, 3)), (42, (.iload_n 2, 1)), (43, (.iload 4, 2)), (45, (.aload_n 1, 1)), (46, (.getfield 73, 3)), (49, (.iload 5, 2)), (51, (.iaload, 1)), (52, (.aload_n 1, 1)), (53, (.iload_n 3, 1)), (54, (.invokevirtual 147, 3)), (57, (.aload_n 1, 1)), (58, (.getfield 151, 3)), (61, (.iload 5, 2)), (63, (.iaload, 1)), (64, (.invokevirtual 154, 3)), (67, (.return_, 1))]
theorem dm_X0_tellAll : ∀ q ∈ tb_X0_tellAll, decode zX0_tellAll.2.1 q.1 = .ok q.2 := by decide +kernel
def f_X0_tellAll (n : Nat) (t : Nat) (a2 a3 a4 : Int32) (M : qM) : qR :=
  ql ((a2 * (12 : Int32)) + a3) (fun x1 => qg a3 12 (qg a3 12 (qc (f_X1_tellDeed n a3 (M 4 a3.toNatClampNeg) (M 5 a3.toNatClampNeg) (M t 9) M) (fun _ m2 => qg x1 96 (qc (f_X10_triesByAll n t a3 m2) (fun r3 m4 => qg x1 96 (qc (f_X1_tellTry n a2 a4 (m2 (t + 2) x1.toNatClampNeg) r3 (m4 (t + 4) x1.toNatClampNeg) m4) (fun _ m5 => some (0, m5)))))))))
set_option maxRecDepth 4000 in
theorem w_X0_tellAll {g : qG} {k : qK} (n : Nat) (j r : Nat) (hj : q_isLaw j) (hr : q_isLaw r) {t : Nat} (ht : q_isTown t) (o : qOk g 2 zX0_tellAll k) (a2 a3 a4 : Int32) (M : qM) : qAE g k zX0_tellAll (qL j r) 0 [some (.inr (some 51)), some (.inr (some t)), some (.inl a2), some (.inl a3), some (.inl a4), none] [] (qL j r, M) (f_X0_tellAll n t a2 a3 a4 M) := by
  unfold f_X0_tellAll
  refine qr_iload_n o (q_dm dm_X0_tellAll 0 rfl) rfl ?_
  refine qr_bipush o (q_dm dm_X0_tellAll 1 rfl) bi_12 ?_
  refine qr_imul o (q_dm dm_X0_tellAll 2 rfl) ?_
  refine qr_iload_n o (q_dm dm_X0_tellAll 3 rfl) rfl ?_
  refine qr_iadd o (q_dm dm_X0_tellAll 4 rfl) ?_
  refine qr_lt (fun x1 => ?_)
  refine qs_istore (L' := [some (.inr (some 51)), some (.inr (some t)), some (.inl a2), some (.inl a3), some (.inl a4), some (.inl x1)]) o (q_dm dm_X0_tellAll 5 rfl) (Nat.le_of_ble_eq_true rfl) rfl ?_
  refine qr_aload_n o (q_dm dm_X0_tellAll 6 rfl) rfl ?_
  refine qr_getr (kf := 1) o cf_X0 (sh51 j r) rfl (Nat.le_of_ble_eq_true rfl) fl_X0_15 (q_dm dm_X0_tellAll 7 rfl) ?_
  refine qr_iload_n o (q_dm dm_X0_tellAll 8 rfl) rfl ?_
  refine qr_aload_n o (q_dm dm_X0_tellAll 9 rfl) rfl ?_
  refine qr_getr (kf := 0) o cf_X0 (sh51 j r) rfl (Nat.le_of_ble_eq_true rfl) fl_X0_9 (q_dm dm_X0_tellAll 10 rfl) ?_
  refine qr_getr (kf := 0) o cf_X2 (sh3 j r) rfl (Nat.le_of_ble_eq_true rfl) fl_X0_128 (q_dm dm_X0_tellAll 11 rfl) ?_
  refine qr_iload_n o (q_dm dm_X0_tellAll 12 rfl) rfl ?_
  refine qr_iald o (sh4 j r) (q_dm dm_X0_tellAll 13 rfl) ?_
  refine qr_aload_n o (q_dm dm_X0_tellAll 14 rfl) rfl ?_
  refine qr_getr (kf := 0) o cf_X0 (sh51 j r) rfl (Nat.le_of_ble_eq_true rfl) fl_X0_9 (q_dm dm_X0_tellAll 15 rfl) ?_
  refine qr_getr (kf := 1) o cf_X2 (sh3 j r) rfl (Nat.le_of_ble_eq_true rfl) fl_X0_141 (q_dm dm_X0_tellAll 16 rfl) ?_
  refine qr_iload_n o (q_dm dm_X0_tellAll 17 rfl) rfl ?_
  refine qr_iald o (sh5 j r) (q_dm dm_X0_tellAll 18 rfl) ?_
  refine qr_aload_n o (q_dm dm_X0_tellAll 19 rfl) rfl ?_
  refine qr_getf (kf := 9) o cf_X10 (shT0 j r ht) rfl (Nat.le_of_ble_eq_true rfl) fl_X0_19 (q_dm dm_X0_tellAll 20 rfl) ?_
  refine qr_callv_v (As := [.inl a3, .inl (M 4 a3.toNatClampNeg), .inl (M 5 a3.toNatClampNeg), .inl (M t 9)]) (S := []) o (a_X1_tellDeed g k.2.1 n j r hj hr a3 (M 4 a3.toNatClampNeg) (M 5 a3.toNatClampNeg) (M t 9) M) (Nat.le_of_ble_eq_true rfl) zv_X1_tellDeed rfl cf_X1 (sh34 j r) ml_X0_144 (Nat.le_of_ble_eq_true rfl) (q_dm dm_X0_tellAll 21 rfl) (fun _ m2 => ?_)
  refine qr_aload_n o (q_dm dm_X0_tellAll 22 rfl) rfl ?_
  refine qr_getr (kf := 1) o cf_X0 (sh51 j r) rfl (Nat.le_of_ble_eq_true rfl) fl_X0_15 (q_dm dm_X0_tellAll 23 rfl) ?_
  refine qr_iload_n o (q_dm dm_X0_tellAll 24 rfl) rfl ?_
  refine qr_iload o (q_dm dm_X0_tellAll 25 rfl) rfl ?_
  refine qr_aload_n o (q_dm dm_X0_tellAll 26 rfl) rfl ?_
  refine qr_getr (kf := 1) o cf_X10 (shT0 j r ht) rfl (Nat.le_of_ble_eq_true rfl) fl_X0_73 (q_dm dm_X0_tellAll 27 rfl) ?_
  refine qr_iload o (q_dm dm_X0_tellAll 28 rfl) rfl ?_
  refine qr_iald o (shT2 j r ht) (q_dm dm_X0_tellAll 29 rfl) ?_
  refine qr_aload_n o (q_dm dm_X0_tellAll 30 rfl) rfl ?_
  refine qr_iload_n o (q_dm dm_X0_tellAll 31 rfl) rfl ?_
  refine qr_callv_i (As := [.inl a3]) (S := [.inl (m2 (t + 2) x1.toNatClampNeg), .inl a4, .inl a2, .inr (some 34)]) o (a_X10_triesByAll g k.2.1 n j r hj hr ht a3 m2) (Nat.le_of_ble_eq_true rfl) zv_X10_triesByAll rfl cf_X10 (shT0 j r ht) ml_X0_147 (Nat.le_of_ble_eq_true rfl) (q_dm dm_X0_tellAll 32 rfl) (fun r3 m4 => ?_)
  refine qr_aload_n o (q_dm dm_X0_tellAll 33 rfl) rfl ?_
  refine qr_getr (kf := 3) o cf_X10 (shT0 j r ht) rfl (Nat.le_of_ble_eq_true rfl) fl_X0_151 (q_dm dm_X0_tellAll 34 rfl) ?_
  refine qr_iload o (q_dm dm_X0_tellAll 35 rfl) rfl ?_
  refine qr_iald o (shT4 j r ht) (q_dm dm_X0_tellAll 36 rfl) ?_
  refine qr_callv_v (As := [.inl a2, .inl a4, .inl (m2 (t + 2) x1.toNatClampNeg), .inl r3, .inl (m4 (t + 4) x1.toNatClampNeg)]) (S := []) o (a_X1_tellTry g k.2.1 n j r hj hr a2 a4 (m2 (t + 2) x1.toNatClampNeg) r3 (m4 (t + 4) x1.toNatClampNeg) m4) (Nat.le_of_ble_eq_true rfl) zv_X1_tellTry rfl cf_X1 (sh34 j r) ml_X0_154 (Nat.le_of_ble_eq_true rfl) (q_dm dm_X0_tellAll 37 rfl) (fun _ m5 => ?_)
  exact qr_vret o rfl (q_dm dm_X0_tellAll 38 rfl)

theorem a_X0_tellAll (g : qG) (l : Launch) (n : Nat) (j r : Nat) (hj : q_isLaw j) (hr : q_isLaw r) {t : Nat} (ht : q_isTown t) (a2 a3 a4 : Int32) (M : qM) : qAM g l 2 zX0_tellAll (qL j r) [.inr (some 51), .inr (some t), .inl a2, .inl a3, .inl a4] (qL j r, M) (f_X0_tellAll n t a2 a3 a4 M) :=
  qAM.of zv_X0_tellAll.1 (by show 5 ≤ 6; decide) (fun k hk o => w_X0_tellAll n j r hj hr ht o a2 a3 a4 M)
def tb_X1_reckon : List (Nat × Instr × Nat) := [(0, (.iload_n 1, 1)), (1, (.lookupswitch 104 #[(42, 67), (43, 59), (45, 63), (60, 71), (61, 93), (62, 82)], 59)), (60, (.iload_n 2, 1)), (61, (.iload_n 3, 1)), (62, (.iadd, 1)), (63, (.ireturn, 1)), (64, (.iload_n 2, 1)), (65, (.iload_n 3, 1)), (66, (.isub, 1)), (67, (.ireturn, 1)), (68, (.iload_n 2, 1)), (69, (.iload_n 3, 1)), (70, (.imul, 1)), (71, (.ireturn, 1)), (72, (.iload_n 2, 1)), (73, (.iload_n 3, 1)), (74, (.if_icmp .ge 7, 3)), (77, (.iconst 1, 1)), (78, (.goto 4, 3)), (81, (.iconst 0, 1)), (82, (.ireturn, 1)), (83, (.iload_n 2, 1)), (84, (.iload_n 3, 1)), (85, (.if_icmp .le 7, 3)), (88, (.iconst 1, 1)), (89, (.goto 4, 3)), (92, (.iconst 0, 1)), (93, (.ireturn, 1)), (94, (.iload_n 2, 1)), (95, (.iload_n 3, 1)), (96, (.if_icmp .ne 7, 3)), (99, (.iconst 1, 1)), (100, (.goto 4, 3)), (103, (.iconst 0, 1)), (104, (.ireturn, 1)), (105, (.iload_n 3, 1)), (106, (.ifCond .ne 10, 3)), (109, (.aload_n 0, 1)), (110, (.iconst 1, 1)), (111, (.putfield 95, 3)), (114, (.iconst 0, 1)), (115, (.ireturn, 1)), (116, (.iload_n 1, 1)), (117, (.bipush 47, 2)), (119, (.if_icmp .ne 9, 3)), (122, (.iload_n 2, 1)), (123, (.iload_n 3, 1)), (124, (.idiv, 1)), (125, (.goto 6, 3)), (128, (.iload_n 2, 1)), (129, (.iload_n 3, 1)), (130, (.irem, 1)), (131, (.ireturn, 1))]
theorem dm_X1_reckon : ∀ q ∈ tb_X1_reckon, decode zX1_reckon.2.1 q.1 = .ok q.2 := by decide +kernel
def f_X1_reckon (n : Nat) (a1 a2 a3 : Int32) (M : qM) : qR :=
  qsw a1 [((42 : Int32), some ((a2 * a3), M)), ((43 : Int32), some ((a2 + a3), M)), ((45 : Int32), some ((a2 - a3), M)), ((60 : Int32), (if a3 ≤ a2 then some ((0 : Int32), M) else some ((1 : Int32), M))), ((61 : Int32), (if a2 = a3 then some ((1 : Int32), M) else some ((0 : Int32), M))), ((62 : Int32), (if a2 ≤ a3 then some ((0 : Int32), M) else some ((1 : Int32), M)))] ((if a3 = (0 : Int32) then qlm (mu M 34 4 (1 : Int32)) (fun m1 => some ((0 : Int32), m1)) else (if a1 = (47 : Int32) then qd a3 (some ((a2 / a3), M)) else qd a3 (some ((a2 - a2 / a3 * a3), M)))))
set_option maxRecDepth 4000 in
theorem w_X1_reckon {g : qG} {k : qK} (n : Nat) (j r : Nat) (hj : q_isLaw j) (hr : q_isLaw r) (o : qOk g 0 zX1_reckon k) (a1 a2 a3 : Int32) (M : qM) : qAE g k zX1_reckon (qL j r) 0 [some (.inr (some 34)), some (.inl a1), some (.inl a2), some (.inl a3)] [] (qL j r, M) (f_X1_reckon n a1 a2 a3 M) := by
  unfold f_X1_reckon
  refine qr_iload_n o (q_dm dm_X1_reckon 0 rfl) rfl ?_
  refine qr_lookupp (tgt := 105) o (q_dm dm_X1_reckon 1 rfl) (by decide) rfl (by decide) ?_ (q_lbc 68 (by decide) ?_ (q_lbc 60 (by decide) ?_ (q_lbc 64 (by decide) ?_ (q_lbc 72 (by decide) ?_ (q_lbc 94 (by decide) ?_ (q_lbc 83 (by decide) ?_ q_lbn))))))
  · refine qr_iload_n o (q_dm dm_X1_reckon 35 rfl) rfl ?_
    refine qr_if_ne (tgt := 116) o (q_dm dm_X1_reckon 36 rfl) (by decide) ?_ ?_
    · refine qr_iload_n o (q_dm dm_X1_reckon 42 rfl) rfl ?_
      refine qr_bipush o (q_dm dm_X1_reckon 43 rfl) bi_47 ?_
      refine qr_icmp_ne (tgt := 128) o (q_dm dm_X1_reckon 44 rfl) (by decide) ?_ ?_
      · refine qr_iload_n o (q_dm dm_X1_reckon 49 rfl) rfl ?_
        refine qr_iload_n o (q_dm dm_X1_reckon 50 rfl) rfl ?_
        refine qr_irem o (q_dm dm_X1_reckon 51 rfl) ?_
        exact qr_iret o rfl rfl (q_dm dm_X1_reckon 52 rfl)
      · refine qr_iload_n o (q_dm dm_X1_reckon 45 rfl) rfl ?_
        refine qr_iload_n o (q_dm dm_X1_reckon 46 rfl) rfl ?_
        refine qr_idiv o (q_dm dm_X1_reckon 47 rfl) ?_
        refine qr_goto (tgt := 131) o (q_dm dm_X1_reckon 48 rfl) (by decide) ?_
        exact qr_iret o rfl rfl (q_dm dm_X1_reckon 52 rfl)
    · refine qr_aload_n o (q_dm dm_X1_reckon 37 rfl) rfl ?_
      refine qr_iconst o (q_dm dm_X1_reckon 38 rfl) ic_1 ?_
      refine qr_putz (kf := 4) o cf_X1 (sh34 j r) rfl (Nat.le_of_ble_eq_true rfl) fl_X1_95 rfl (by decide +kernel) (by decide) (q_dm dm_X1_reckon 39 rfl) ?_
      refine qr_letm (fun m1 => ?_)
      refine qr_iconst o (q_dm dm_X1_reckon 40 rfl) ic_0 ?_
      exact qr_iret o rfl rfl (q_dm dm_X1_reckon 41 rfl)
  · refine qr_iload_n o (q_dm dm_X1_reckon 10 rfl) rfl ?_
    refine qr_iload_n o (q_dm dm_X1_reckon 11 rfl) rfl ?_
    refine qr_imul o (q_dm dm_X1_reckon 12 rfl) ?_
    exact qr_iret o rfl rfl (q_dm dm_X1_reckon 13 rfl)
  · refine qr_iload_n o (q_dm dm_X1_reckon 2 rfl) rfl ?_
    refine qr_iload_n o (q_dm dm_X1_reckon 3 rfl) rfl ?_
    refine qr_iadd o (q_dm dm_X1_reckon 4 rfl) ?_
    exact qr_iret o rfl rfl (q_dm dm_X1_reckon 5 rfl)
  · refine qr_iload_n o (q_dm dm_X1_reckon 6 rfl) rfl ?_
    refine qr_iload_n o (q_dm dm_X1_reckon 7 rfl) rfl ?_
    refine qr_isub o (q_dm dm_X1_reckon 8 rfl) ?_
    exact qr_iret o rfl rfl (q_dm dm_X1_reckon 9 rfl)
  · refine qr_iload_n o (q_dm dm_X1_reckon 14 rfl) rfl ?_
    refine qr_iload_n o (q_dm dm_X1_reckon 15 rfl) rfl ?_
    refine qr_icmp_ge (tgt := 81) o (q_dm dm_X1_reckon 16 rfl) (by decide) ?_ ?_
    · refine qr_iconst o (q_dm dm_X1_reckon 19 rfl) ic_0 ?_
      exact qr_iret o rfl rfl (q_dm dm_X1_reckon 20 rfl)
    · refine qr_iconst o (q_dm dm_X1_reckon 17 rfl) ic_1 ?_
      refine qr_goto (tgt := 82) o (q_dm dm_X1_reckon 18 rfl) (by decide) ?_
      exact qr_iret o rfl rfl (q_dm dm_X1_reckon 20 rfl)
  · refine qr_iload_n o (q_dm dm_X1_reckon 28 rfl) rfl ?_
    refine qr_iload_n o (q_dm dm_X1_reckon 29 rfl) rfl ?_
    refine qr_icmp_ne (tgt := 103) o (q_dm dm_X1_reckon 30 rfl) (by decide) ?_ ?_
    · refine qr_iconst o (q_dm dm_X1_reckon 33 rfl) ic_0 ?_
      exact qr_iret o rfl rfl (q_dm dm_X1_reckon 34 rfl)
    · refine qr_iconst o (q_dm dm_X1_reckon 31 rfl) ic_1 ?_
      refine qr_goto (tgt := 104) o (q_dm dm_X1_reckon 32 rfl) (by decide) ?_
      exact qr_iret o rfl rfl (q_dm dm_X1_reckon 34 rfl)
  · refine qr_iload_n o (q_dm dm_X1_reckon 21 rfl) rfl ?_
    refine qr_iload_n o (q_dm dm_X1_reckon 22 rfl) rfl ?_
    refine qr_icmp_le (tgt := 92) o (q_dm dm_X1_reckon 23 rfl) (by decide) ?_ ?_
    · refine qr_iconst o (q_dm dm_X1_reckon 26 rfl) ic_0 ?_
      exact qr_iret o rfl rfl (q_dm dm_X1_reckon 27 rfl)
    · refine qr_iconst o (q_dm dm_X1_reckon 24 rfl) ic_1 ?_
      refine qr_goto (tgt := 93) o (q_dm dm_X1_reckon 25 rfl) (by decide) ?_
      exact qr_iret o rfl rfl (q_dm dm_X1_reckon 27 rfl)

theorem a_X1_reckon (g : qG) (l : Launch) (n : Nat) (j r : Nat) (hj : q_isLaw j) (hr : q_isLaw r) (a1 a2 a3 : Int32) (M : qM) : qAM g l 0 zX1_reckon (qL j r) [.inr (some 34), .inl a1, .inl a2, .inl a3] (qL j r, M) (f_X1_reckon n a1 a2 a3 M) :=
  qAM.of zv_X1_reckon.1 (by show 4 ≤ 4; decide) (fun k hk o => w_X1_reckon n j r hj hr o a1 a2 a3 M)
end
section
def tb_X1_run : List (Nat × Instr × Nat) := [(0, (.iconst 0, 1)), (1, (.istore_n 3, 1)), (2, (.aload_n 0, 1)), (3, (.iconst 0, 1)), (4, (.putfield 95, 3)), (7, (.iload_n 1, 1)), (8, (.istore 4, 2)), (10, (.iload 4, 2)), (12, (.iload_n 2, 1)), (13, (.if_icmp .ge 230, 3)), (16, (.aload_n 0, 1)), (17, (.getfield 95, 3)), (20, (.ifCond .ne 223, 3)), (23, (.aload_n 0, 1)), (24, (.getfield 24, 3)), (27, (.getfield 99, 3)), (30, (.iload 4, 2)), (32, (.iaload, 1)), (33, (.istore 5, 2)), (35, (.aload_n 0, 1)), (36, (.getfield 24, 3)), (39, (.getfield 102, 3)), (42, (.iload 4, 2)), (44, (.iaload, 1)), (45, (.istore 6, 2)), (47, (.iload 5, 2)), (49, (.ifCond .eq 9, 3)), (52, (.iload 5, 2)), (54, (.iconst 1, 1)), (55, (.if_icmp .ne 38, 3)), (58, (.iload_n 3, 1)), (59, (.bipush 64, 2)), (61, (.if_icmp .ge 176, 3)), (64, (.aload_n 0, 1)), (65, (.getfield 18, 3)), (68, (.iload_n 3, 1)), (69, (.iload 5, 2)), (71, (.ifCond .ne 8, 3)), (74, (.iload 6, 2)), (76, (.goto 10, 3)), (79, (.aload_n 0, 1)), (80, (.getfield 13, 3)), (83, (.iload 6, 2)), (85, (.iaload, 1)), (86, (.iastore, 1)), (87, (.iinc 3 1, 3)), (90, (.goto 147, 3)), (93, (.iload 5, 2)), (95, (.bipush 32, 2)), (97, (.if_icmp .lt 42, 3)), (100, (.iload_n 3, 1)), (101, (.iconst 2, 1)), (102, (.if_icmp .lt 37, 3)), (105, (.iinc 3 (-1), 3)), (108, (.aload_n 0, 1)), (109, (.getfield 18, 3)), (112, (.iload_n 3, 1)), (113, (.iconst 1, 1)), (114, (.isub, 1)), (115, (.aload_n 0, 1)), (116, (.iload 5, 2)), (118, (.aload_n 0, 1)), (119, (.getfield 18, 3)), (122, (.iload_n 3, 1)), (123, (.iconst 1, 1)), (124, (.isub, 1)), (125, (.iaload, 1)), (126, (.aload_n 0, 1)), (127, (.getfield 18, 3)), (130, (.iload_n 3, 1)), (131, (.iaload, 1)), (132, (.invokevirtual 105, 3)), (135, (.iastore, 1)), (136, (.goto 101, 3)), (139, (.iload 5, 2)), (141, (.iconst 2, 1)), (142, (.if_icmp .ne 29, 3)), (145, (.iload_n 3, 1)), (146, (.iconst 1, 1)), (147, (.if_icmp .lt 24, 3)), (150, (.aload_n 0, 1)), (151, (.getfield 18, 3)), (154, (.iload_n 3, 1)), (155, (.iconst 1, 1)), (156, (.isub, 1)), (157, (.iconst 1, 1)), (158, (.aload_n 0, 1)), (159, (.getfield 18, 3)), (162, (.iload_n 3, 1)), (163, (.iconst 1, 1)), (164, (.isub, 1)), (165, (.iaload, 1)), (166, (.isub, 1)), (167, (.iastore, 1)), (168, (.goto 69, 3)), (171, (.iload_n 3, 1)), (172, (.iconst 1, 1)), (173, (.if_icmp .lt 64, 3)), (176, (.aload_n 0, 1)), (177, (.getfield 18, 3)), (180, (.iload_n 3, 1)), (181, (.iconst 1, 1)), (182, (.isub, 1)), (183, (.iaload, 1)), (184, (.iload 5, 2)), (186, (.iconst 4, 1)), (187, (.if_icmp .ne 7, 3)), (190, (.iconst 1, 1)), (191, (.goto 4, 3)), (194, (.iconst 0, 1)), (195, (.if_icmp .ne 7, 3)), (198, (.iconst 1, 1)), (199, (.goto 4, 3)), (202, (.iconst 0, 1)), (203, (.istore 7, 2)), (205, (.iload 7, 2)), (207, (.ifCond .eq 13, 3)), (210, (.iload 4, 2)), (212, (.iload 6, 2)), (214, (.invokestatic 86, 3)), (217, (.goto 5, 3)), (220, (.iload 4, 2)), (222, (.istore 4, 2)), (224, (.iload 7, 2)), (226, (.ifCond .eq 7, 3)), (229, (.iload_n 3, 1)), (230, (.goto 6, 3)), (233, (.iload_n 3, 1)), (234, (.iconst 1, 1)), (235, (.isub, 1)), (236, (.istore_n 3, 1)), (237, (.iinc 4 1, 3)), (240, (.goto (-230), 3)), (243, (.aload_n 0, 1)), (244, (.getfield 95, 3)), (247, (.ifCond .ne 8, 3)), (250, (.iload_n 3, 1)), (251, (.iconst 1, 1)), (252, (.if_icmp .ge 7, 3)), (255, (.iconst 0, 1)), (256, (.goto 9, 3)), (259, (.aload_n 0, 1)), (260, (.getfield 18, 3)), (263, (.iconst 0, 1)), (264, (.iaload, 1)), (265, (.ireturn, 1))]
theorem dm_X1_run : ∀ q ∈ tb_X1_run, decode zX1_run.2.1 q.1 = .ok q.2 := by decide +kernel
def f_X1_run_243 (n : Nat) (j : Nat) (a3 : Int32) (M : qM) : qR :=
  (if (M 34 4) = (0 : Int32) then (if (1 : Int32) ≤ a3 then some ((M 36 0), M) else some ((0 : Int32), M)) else some ((0 : Int32), M))
set_option maxRecDepth 4000 in
theorem w_X1_run_243 {g : qG} {k : qK} (n : Nat) (j r : Nat) (hj : q_isLaw j) (hr : q_isLaw r) (o : qOk g 1 zX1_run k) (a3 : Int32) (M : qM) : qAE g k zX1_run (qL j r) 243 [some (.inr (some 34)), none, none, some (.inl a3), none, none, none, none] [] (qL j r, M) (f_X1_run_243 n j a3 M) := by
  unfold f_X1_run_243
  refine qr_aload_n o (q_dm dm_X1_run 133 rfl) rfl ?_
  refine qr_getf (kf := 4) o cf_X1 (sh34 j r) rfl (Nat.le_of_ble_eq_true rfl) fl_X1_95 (q_dm dm_X1_run 134 rfl) ?_
  refine qr_if_ne (tgt := 255) o (q_dm dm_X1_run 135 rfl) (by decide) ?_ ?_
  · refine qr_iconst o (q_dm dm_X1_run 139 rfl) ic_0 ?_
    refine qr_goto (tgt := 265) o (q_dm dm_X1_run 140 rfl) (by decide) ?_
    exact qr_iret o rfl rfl (q_dm dm_X1_run 145 rfl)
  · refine qr_iload_n o (q_dm dm_X1_run 136 rfl) rfl ?_
    refine qr_iconst o (q_dm dm_X1_run 137 rfl) ic_1 ?_
    refine qr_icmp_ge (tgt := 259) o (q_dm dm_X1_run 138 rfl) (by decide) ?_ ?_
    · refine qr_aload_n o (q_dm dm_X1_run 141 rfl) rfl ?_
      refine qr_getr (kf := 2) o cf_X1 (sh34 j r) rfl (Nat.le_of_ble_eq_true rfl) fl_X1_18 (q_dm dm_X1_run 142 rfl) ?_
      refine qr_iconst o (q_dm dm_X1_run 143 rfl) ic_0 ?_
      refine qr_iald0 (c := 0) o (sh36 j r) (by decide) (by decide) (q_dm dm_X1_run 144 rfl) ?_
      exact qr_iret o rfl rfl (q_dm dm_X1_run 145 rfl)
    · refine qr_iconst o (q_dm dm_X1_run 139 rfl) ic_0 ?_
      refine qr_goto (tgt := 265) o (q_dm dm_X1_run 140 rfl) (by decide) ?_
      exact qr_iret o rfl rfl (q_dm dm_X1_run 145 rfl)

def f_X1_run_222 (n : Nat) (j : Nat) (K10 : Int32 → Int32 → Int32 → qM → qR) (a2 a3 a7 s0 : Int32) (M : qM) : qR :=
  (if a7 = (0 : Int32) then ql (a3 - (1 : Int32)) (fun x1 => ql (s0 + (1 : Int32)) (fun x2 => K10 a2 x1 x2 M)) else ql (s0 + (1 : Int32)) (fun x3 => K10 a2 a3 x3 M))
set_option maxRecDepth 4000 in
theorem w_X1_run_222 {g : qG} {k : qK} (n : Nat) (j r : Nat) (hj : q_isLaw j) (hr : q_isLaw r) (o : qOk g 1 zX1_run k) (K10 : Int32 → Int32 → Int32 → qM → qR) (hK10 : ∀ (a2 a3 a4 : Int32) (M : qM), qAE g k zX1_run (qL j r) 10 [some (.inr (some 34)), none, some (.inl a2), some (.inl a3), some (.inl a4), none, none, none] [] (qL j r, M) (K10 a2 a3 a4 M)) (a2 a3 a7 s0 : Int32) (M : qM) : qAE g k zX1_run (qL j r) 222 [some (.inr (some 34)), none, some (.inl a2), some (.inl a3), none, none, none, some (.inl a7)] [.inl s0] (qL j r, M) (f_X1_run_222 n j K10 a2 a3 a7 s0 M) := by
  unfold f_X1_run_222
  refine qs_istore (L' := [some (.inr (some 34)), none, some (.inl a2), some (.inl a3), some (.inl s0), none, none, some (.inl a7)]) o (q_dm dm_X1_run 122 rfl) (Nat.le_of_ble_eq_true rfl) rfl ?_
  refine qr_iload o (q_dm dm_X1_run 123 rfl) rfl ?_
  refine qr_if_eq (tgt := 233) o (q_dm dm_X1_run 124 rfl) (by decide) ?_ ?_
  · refine qr_iload_n o (q_dm dm_X1_run 127 rfl) rfl ?_
    refine qr_iconst o (q_dm dm_X1_run 128 rfl) ic_1 ?_
    refine qr_isub o (q_dm dm_X1_run 129 rfl) ?_
    refine qr_lt (fun x1 => ?_)
    refine qs_istore_n (L' := [some (.inr (some 34)), none, some (.inl a2), some (.inl x1), some (.inl s0), none, none, some (.inl a7)]) o (q_dm dm_X1_run 130 rfl) (Nat.le_of_ble_eq_true rfl) rfl ?_
    refine qs_iincl2 (L' := fun x2 => [some (.inr (some 34)), none, some (.inl a2), some (.inl x1), some (.inl x2), none, none, some (.inl a7)]) o (q_dm dm_X1_run 131 rfl) rfl ic_1 (Nat.le_of_ble_eq_true rfl) (fun _ => rfl) (fun x2 => ?_)
    refine qr_goto (tgt := 10) o (q_dm dm_X1_run 132 rfl) (by decide) ?_
    exact qr_loc (q_leS (q_leN (q_leS (q_leS (q_leS (q_leN (q_leN (q_leN q_le0)))))))) (hK10 a2 x1 x2 M)
  · refine qr_iload_n o (q_dm dm_X1_run 125 rfl) rfl ?_
    refine qr_goto (tgt := 236) o (q_dm dm_X1_run 126 rfl) (by decide) ?_
    refine qs_istore_n (L' := [some (.inr (some 34)), none, some (.inl a2), some (.inl a3), some (.inl s0), none, none, some (.inl a7)]) o (q_dm dm_X1_run 130 rfl) (Nat.le_of_ble_eq_true rfl) rfl ?_
    refine qs_iincl2 (L' := fun x3 => [some (.inr (some 34)), none, some (.inl a2), some (.inl a3), some (.inl x3), none, none, some (.inl a7)]) o (q_dm dm_X1_run 131 rfl) rfl ic_1 (Nat.le_of_ble_eq_true rfl) (fun _ => rfl) (fun x3 => ?_)
    refine qr_goto (tgt := 10) o (q_dm dm_X1_run 132 rfl) (by decide) ?_
    exact qr_loc (q_leS (q_leN (q_leS (q_leS (q_leS (q_leN (q_leN (q_leN q_le0)))))))) (hK10 a2 a3 x3 M)

def f_X1_run_203 (n : Nat) (j : Nat) (K10 : Int32 → Int32 → Int32 → qM → qR) (a2 a3 a4 a6 s0 : Int32) (M : qM) : qR :=
  (if s0 = (0 : Int32) then f_X1_run_222 n j K10 a2 a3 s0 a4 M else f_X1_run_222 n j K10 a2 a3 s0 (qmax a4 a6) M)
set_option maxRecDepth 4000 in
theorem w_X1_run_203 {g : qG} {k : qK} (n : Nat) (j r : Nat) (hj : q_isLaw j) (hr : q_isLaw r) (o : qOk g 1 zX1_run k) (K10 : Int32 → Int32 → Int32 → qM → qR) (hK10 : ∀ (a2 a3 a4 : Int32) (M : qM), qAE g k zX1_run (qL j r) 10 [some (.inr (some 34)), none, some (.inl a2), some (.inl a3), some (.inl a4), none, none, none] [] (qL j r, M) (K10 a2 a3 a4 M)) (a2 a3 a4 a6 s0 : Int32) (M : qM) : qAE g k zX1_run (qL j r) 203 [some (.inr (some 34)), none, some (.inl a2), some (.inl a3), some (.inl a4), none, some (.inl a6), none] [.inl s0] (qL j r, M) (f_X1_run_203 n j K10 a2 a3 a4 a6 s0 M) := by
  unfold f_X1_run_203
  refine qs_istore (L' := [some (.inr (some 34)), none, some (.inl a2), some (.inl a3), some (.inl a4), none, some (.inl a6), some (.inl s0)]) o (q_dm dm_X1_run 114 rfl) (Nat.le_of_ble_eq_true rfl) rfl ?_
  refine qr_iload o (q_dm dm_X1_run 115 rfl) rfl ?_
  refine qr_if_eq (tgt := 220) o (q_dm dm_X1_run 116 rfl) (by decide) ?_ ?_
  · refine qr_iload o (q_dm dm_X1_run 121 rfl) rfl ?_
    exact qr_loc (q_leS (q_leN (q_leS (q_leS (q_leN (q_leN (q_leN (q_leS q_le0)))))))) (w_X1_run_222 n j r hj hr o K10 hK10 a2 a3 s0 a4 M)
  · refine qr_iload o (q_dm dm_X1_run 117 rfl) rfl ?_
    refine qr_iload o (q_dm dm_X1_run 118 rfl) rfl ?_
    refine qr_max o ml_X1_86 (by omega) (Nat.le_of_ble_eq_true rfl) (q_dm dm_X1_run 119 rfl) ?_
    refine qr_goto (tgt := 222) o (q_dm dm_X1_run 120 rfl) (by decide) ?_
    exact qr_loc (q_leS (q_leN (q_leS (q_leS (q_leN (q_leN (q_leN (q_leS q_le0)))))))) (w_X1_run_222 n j r hj hr o K10 hK10 a2 a3 s0 (qmax a4 a6) M)

def f_X1_run_195 (n : Nat) (j : Nat) (K10 : Int32 → Int32 → Int32 → qM → qR) (a2 a3 a4 a6 s0 s1 : Int32) (M : qM) : qR :=
  (if s0 = s1 then f_X1_run_203 n j K10 a2 a3 a4 a6 (1 : Int32) M else f_X1_run_203 n j K10 a2 a3 a4 a6 (0 : Int32) M)
set_option maxRecDepth 4000 in
theorem w_X1_run_195 {g : qG} {k : qK} (n : Nat) (j r : Nat) (hj : q_isLaw j) (hr : q_isLaw r) (o : qOk g 1 zX1_run k) (K10 : Int32 → Int32 → Int32 → qM → qR) (hK10 : ∀ (a2 a3 a4 : Int32) (M : qM), qAE g k zX1_run (qL j r) 10 [some (.inr (some 34)), none, some (.inl a2), some (.inl a3), some (.inl a4), none, none, none] [] (qL j r, M) (K10 a2 a3 a4 M)) (a2 a3 a4 a6 s0 s1 : Int32) (M : qM) : qAE g k zX1_run (qL j r) 195 [some (.inr (some 34)), none, some (.inl a2), some (.inl a3), some (.inl a4), none, some (.inl a6), none] [.inl s1, .inl s0] (qL j r, M) (f_X1_run_195 n j K10 a2 a3 a4 a6 s0 s1 M) := by
  unfold f_X1_run_195
  refine qr_icmp_ne (tgt := 202) o (q_dm dm_X1_run 110 rfl) (by decide) ?_ ?_
  · refine qr_iconst o (q_dm dm_X1_run 113 rfl) ic_0 ?_
    exact qr_loc (q_leS (q_leN (q_leS (q_leS (q_leS (q_leN (q_leS (q_leN q_le0)))))))) (w_X1_run_203 n j r hj hr o K10 hK10 a2 a3 a4 a6 (0 : Int32) M)
  · refine qr_iconst o (q_dm dm_X1_run 111 rfl) ic_1 ?_
    refine qr_goto (tgt := 203) o (q_dm dm_X1_run 112 rfl) (by decide) ?_
    exact qr_loc (q_leS (q_leN (q_leS (q_leS (q_leS (q_leN (q_leS (q_leN q_le0)))))))) (w_X1_run_203 n j r hj hr o K10 hK10 a2 a3 a4 a6 (1 : Int32) M)

def f_X1_run_171 (n : Nat) (j : Nat) (K10 : Int32 → Int32 → Int32 → qM → qR) (a2 a3 a4 a5 a6 : Int32) (M : qM) : qR :=
  (if a3 < (1 : Int32) then ql (a4 + (1 : Int32)) (fun x1 => K10 a2 a3 x1 M) else qg (a3 - (1 : Int32)) 64 ((if a5 = (4 : Int32) then f_X1_run_195 n j K10 a2 a3 a4 a6 (M 36 (a3 - (1 : Int32)).toNatClampNeg) (1 : Int32) M else f_X1_run_195 n j K10 a2 a3 a4 a6 (M 36 (a3 - (1 : Int32)).toNatClampNeg) (0 : Int32) M)))
set_option maxRecDepth 4000 in
theorem w_X1_run_171 {g : qG} {k : qK} (n : Nat) (j r : Nat) (hj : q_isLaw j) (hr : q_isLaw r) (o : qOk g 1 zX1_run k) (K10 : Int32 → Int32 → Int32 → qM → qR) (hK10 : ∀ (a2 a3 a4 : Int32) (M : qM), qAE g k zX1_run (qL j r) 10 [some (.inr (some 34)), none, some (.inl a2), some (.inl a3), some (.inl a4), none, none, none] [] (qL j r, M) (K10 a2 a3 a4 M)) (a2 a3 a4 a5 a6 : Int32) (M : qM) : qAE g k zX1_run (qL j r) 171 [some (.inr (some 34)), none, some (.inl a2), some (.inl a3), some (.inl a4), some (.inl a5), some (.inl a6), none] [] (qL j r, M) (f_X1_run_171 n j K10 a2 a3 a4 a5 a6 M) := by
  unfold f_X1_run_171
  refine qr_iload_n o (q_dm dm_X1_run 95 rfl) rfl ?_
  refine qr_iconst o (q_dm dm_X1_run 96 rfl) ic_1 ?_
  refine qr_icmp_lt (tgt := 237) o (q_dm dm_X1_run 97 rfl) (by decide) ?_ ?_
  · refine qs_iincl2 (L' := fun x1 => [some (.inr (some 34)), none, some (.inl a2), some (.inl a3), some (.inl x1), some (.inl a5), some (.inl a6), none]) o (q_dm dm_X1_run 131 rfl) rfl ic_1 (Nat.le_of_ble_eq_true rfl) (fun _ => rfl) (fun x1 => ?_)
    refine qr_goto (tgt := 10) o (q_dm dm_X1_run 132 rfl) (by decide) ?_
    exact qr_loc (q_leS (q_leN (q_leS (q_leS (q_leS (q_leN (q_leN (q_leN q_le0)))))))) (hK10 a2 a3 x1 M)
  · refine qr_aload_n o (q_dm dm_X1_run 98 rfl) rfl ?_
    refine qr_getr (kf := 2) o cf_X1 (sh34 j r) rfl (Nat.le_of_ble_eq_true rfl) fl_X1_18 (q_dm dm_X1_run 99 rfl) ?_
    refine qr_iload_n o (q_dm dm_X1_run 100 rfl) rfl ?_
    refine qr_iconst o (q_dm dm_X1_run 101 rfl) ic_1 ?_
    refine qr_isub o (q_dm dm_X1_run 102 rfl) ?_
    refine qr_iald o (sh36 j r) (q_dm dm_X1_run 103 rfl) ?_
    refine qr_iload o (q_dm dm_X1_run 104 rfl) rfl ?_
    refine qr_iconst o (q_dm dm_X1_run 105 rfl) ic_4 ?_
    refine qr_icmp_ne (tgt := 194) o (q_dm dm_X1_run 106 rfl) (by decide) ?_ ?_
    · refine qr_iconst o (q_dm dm_X1_run 109 rfl) ic_0 ?_
      exact qr_loc (q_leS (q_leN (q_leS (q_leS (q_leS (q_leN (q_leS (q_leN q_le0)))))))) (w_X1_run_195 n j r hj hr o K10 hK10 a2 a3 a4 a6 (M 36 (a3 - (1 : Int32)).toNatClampNeg) (0 : Int32) M)
    · refine qr_iconst o (q_dm dm_X1_run 107 rfl) ic_1 ?_
      refine qr_goto (tgt := 195) o (q_dm dm_X1_run 108 rfl) (by decide) ?_
      exact qr_loc (q_leS (q_leN (q_leS (q_leS (q_leS (q_leN (q_leS (q_leN q_le0)))))))) (w_X1_run_195 n j r hj hr o K10 hK10 a2 a3 a4 a6 (M 36 (a3 - (1 : Int32)).toNatClampNeg) (1 : Int32) M)

def f_X1_run_139 (n : Nat) (j : Nat) (K10 : Int32 → Int32 → Int32 → qM → qR) (a2 a3 a4 a5 a6 : Int32) (M : qM) : qR :=
  (if a5 = (2 : Int32) then (if a3 < (1 : Int32) then f_X1_run_171 n j K10 a2 a3 a4 a5 a6 M else qg (a3 - (1 : Int32)) 64 (qg (a3 - (1 : Int32)) 64 (qlm (mu M 36 (a3 - (1 : Int32)).toNatClampNeg ((1 : Int32) - (M 36 (a3 - (1 : Int32)).toNatClampNeg))) (fun m1 => ql (a4 + (1 : Int32)) (fun x2 => K10 a2 a3 x2 m1))))) else f_X1_run_171 n j K10 a2 a3 a4 a5 a6 M)
set_option maxRecDepth 4000 in
theorem w_X1_run_139 {g : qG} {k : qK} (n : Nat) (j r : Nat) (hj : q_isLaw j) (hr : q_isLaw r) (o : qOk g 1 zX1_run k) (K10 : Int32 → Int32 → Int32 → qM → qR) (hK10 : ∀ (a2 a3 a4 : Int32) (M : qM), qAE g k zX1_run (qL j r) 10 [some (.inr (some 34)), none, some (.inl a2), some (.inl a3), some (.inl a4), none, none, none] [] (qL j r, M) (K10 a2 a3 a4 M)) (a2 a3 a4 a5 a6 : Int32) (M : qM) : qAE g k zX1_run (qL j r) 139 [some (.inr (some 34)), none, some (.inl a2), some (.inl a3), some (.inl a4), some (.inl a5), some (.inl a6), none] [] (qL j r, M) (f_X1_run_139 n j K10 a2 a3 a4 a5 a6 M) := by
  unfold f_X1_run_139
  refine qr_iload o (q_dm dm_X1_run 74 rfl) rfl ?_
  refine qr_iconst o (q_dm dm_X1_run 75 rfl) ic_2 ?_
  refine qr_icmp_ne (tgt := 171) o (q_dm dm_X1_run 76 rfl) (by decide) ?_ ?_
  · exact qr_loc (q_leS (q_leN (q_leS (q_leS (q_leS (q_leS (q_leS (q_leN q_le0)))))))) (w_X1_run_171 n j r hj hr o K10 hK10 a2 a3 a4 a5 a6 M)
  · refine qr_iload_n o (q_dm dm_X1_run 77 rfl) rfl ?_
    refine qr_iconst o (q_dm dm_X1_run 78 rfl) ic_1 ?_
    refine qr_icmp_lt (tgt := 171) o (q_dm dm_X1_run 79 rfl) (by decide) ?_ ?_
    · exact qr_loc (q_leS (q_leN (q_leS (q_leS (q_leS (q_leS (q_leS (q_leN q_le0)))))))) (w_X1_run_171 n j r hj hr o K10 hK10 a2 a3 a4 a5 a6 M)
    · refine qr_aload_n o (q_dm dm_X1_run 80 rfl) rfl ?_
      refine qr_getr (kf := 2) o cf_X1 (sh34 j r) rfl (Nat.le_of_ble_eq_true rfl) fl_X1_18 (q_dm dm_X1_run 81 rfl) ?_
      refine qr_iload_n o (q_dm dm_X1_run 82 rfl) rfl ?_
      refine qr_iconst o (q_dm dm_X1_run 83 rfl) ic_1 ?_
      refine qr_isub o (q_dm dm_X1_run 84 rfl) ?_
      refine qr_iconst o (q_dm dm_X1_run 85 rfl) ic_1 ?_
      refine qr_aload_n o (q_dm dm_X1_run 86 rfl) rfl ?_
      refine qr_getr (kf := 2) o cf_X1 (sh34 j r) rfl (Nat.le_of_ble_eq_true rfl) fl_X1_18 (q_dm dm_X1_run 87 rfl) ?_
      refine qr_iload_n o (q_dm dm_X1_run 88 rfl) rfl ?_
      refine qr_iconst o (q_dm dm_X1_run 89 rfl) ic_1 ?_
      refine qr_isub o (q_dm dm_X1_run 90 rfl) ?_
      refine qr_iald o (sh36 j r) (q_dm dm_X1_run 91 rfl) ?_
      refine qr_isub o (q_dm dm_X1_run 92 rfl) ?_
      refine qr_iast o (sh36 j r) (q_dm dm_X1_run 93 rfl) ?_
      refine qr_letm (fun m1 => ?_)
      refine qr_goto (tgt := 237) o (q_dm dm_X1_run 94 rfl) (by decide) ?_
      refine qs_iincl2 (L' := fun x2 => [some (.inr (some 34)), none, some (.inl a2), some (.inl a3), some (.inl x2), some (.inl a5), some (.inl a6), none]) o (q_dm dm_X1_run 131 rfl) rfl ic_1 (Nat.le_of_ble_eq_true rfl) (fun _ => rfl) (fun x2 => ?_)
      refine qr_goto (tgt := 10) o (q_dm dm_X1_run 132 rfl) (by decide) ?_
      exact qr_loc (q_leS (q_leN (q_leS (q_leS (q_leS (q_leN (q_leN (q_leN q_le0)))))))) (hK10 a2 a3 x2 m1)

def f_X1_run_58 (n : Nat) (j : Nat) (K10 : Int32 → Int32 → Int32 → qM → qR) (a2 a3 a4 a5 a6 : Int32) (M : qM) : qR :=
  (if (64 : Int32) ≤ a3 then ql (a4 + (1 : Int32)) (fun x1 => K10 a2 a3 x1 M) else (if a5 = (0 : Int32) then qg a3 64 (qlm (mu M 36 a3.toNatClampNeg a6) (fun m5 => ql (a3 + (1 : Int32)) (fun x6 => ql (a4 + (1 : Int32)) (fun x7 => K10 a2 x6 x7 m5)))) else qg a6 12 (qg a3 64 (qlm (mu M 36 a3.toNatClampNeg (M 35 a6.toNatClampNeg)) (fun m2 => ql (a3 + (1 : Int32)) (fun x3 => ql (a4 + (1 : Int32)) (fun x4 => K10 a2 x3 x4 m2)))))))
set_option maxRecDepth 4000 in
theorem w_X1_run_58 {g : qG} {k : qK} (n : Nat) (j r : Nat) (hj : q_isLaw j) (hr : q_isLaw r) (o : qOk g 1 zX1_run k) (K10 : Int32 → Int32 → Int32 → qM → qR) (hK10 : ∀ (a2 a3 a4 : Int32) (M : qM), qAE g k zX1_run (qL j r) 10 [some (.inr (some 34)), none, some (.inl a2), some (.inl a3), some (.inl a4), none, none, none] [] (qL j r, M) (K10 a2 a3 a4 M)) (a2 a3 a4 a5 a6 : Int32) (M : qM) : qAE g k zX1_run (qL j r) 58 [some (.inr (some 34)), none, some (.inl a2), some (.inl a3), some (.inl a4), some (.inl a5), some (.inl a6), none] [] (qL j r, M) (f_X1_run_58 n j K10 a2 a3 a4 a5 a6 M) := by
  unfold f_X1_run_58
  refine qr_iload_n o (q_dm dm_X1_run 30 rfl) rfl ?_
  refine qr_bipush o (q_dm dm_X1_run 31 rfl) bi_64 ?_
  refine qr_icmp_ge (tgt := 237) o (q_dm dm_X1_run 32 rfl) (by decide) ?_ ?_
  · refine qs_iincl2 (L' := fun x1 => [some (.inr (some 34)), none, some (.inl a2), some (.inl a3), some (.inl x1), some (.inl a5), some (.inl a6), none]) o (q_dm dm_X1_run 131 rfl) rfl ic_1 (Nat.le_of_ble_eq_true rfl) (fun _ => rfl) (fun x1 => ?_)
    refine qr_goto (tgt := 10) o (q_dm dm_X1_run 132 rfl) (by decide) ?_
    exact qr_loc (q_leS (q_leN (q_leS (q_leS (q_leS (q_leN (q_leN (q_leN q_le0)))))))) (hK10 a2 a3 x1 M)
  · refine qr_aload_n o (q_dm dm_X1_run 33 rfl) rfl ?_
    refine qr_getr (kf := 2) o cf_X1 (sh34 j r) rfl (Nat.le_of_ble_eq_true rfl) fl_X1_18 (q_dm dm_X1_run 34 rfl) ?_
    refine qr_iload_n o (q_dm dm_X1_run 35 rfl) rfl ?_
    refine qr_iload o (q_dm dm_X1_run 36 rfl) rfl ?_
    refine qr_if_ne (tgt := 79) o (q_dm dm_X1_run 37 rfl) (by decide) ?_ ?_
    · refine qr_aload_n o (q_dm dm_X1_run 40 rfl) rfl ?_
      refine qr_getr (kf := 1) o cf_X1 (sh34 j r) rfl (Nat.le_of_ble_eq_true rfl) fl_X1_13 (q_dm dm_X1_run 41 rfl) ?_
      refine qr_iload o (q_dm dm_X1_run 42 rfl) rfl ?_
      refine qr_iald o (sh35 j r) (q_dm dm_X1_run 43 rfl) ?_
      refine qr_iast o (sh36 j r) (q_dm dm_X1_run 44 rfl) ?_
      refine qr_letm (fun m2 => ?_)
      refine qs_iincl2 (L' := fun x3 => [some (.inr (some 34)), none, some (.inl a2), some (.inl x3), some (.inl a4), some (.inl a5), some (.inl a6), none]) o (q_dm dm_X1_run 45 rfl) rfl ic_1 (Nat.le_of_ble_eq_true rfl) (fun _ => rfl) (fun x3 => ?_)
      refine qr_goto (tgt := 237) o (q_dm dm_X1_run 46 rfl) (by decide) ?_
      refine qs_iincl2 (L' := fun x4 => [some (.inr (some 34)), none, some (.inl a2), some (.inl x3), some (.inl x4), some (.inl a5), some (.inl a6), none]) o (q_dm dm_X1_run 131 rfl) rfl ic_1 (Nat.le_of_ble_eq_true rfl) (fun _ => rfl) (fun x4 => ?_)
      refine qr_goto (tgt := 10) o (q_dm dm_X1_run 132 rfl) (by decide) ?_
      exact qr_loc (q_leS (q_leN (q_leS (q_leS (q_leS (q_leN (q_leN (q_leN q_le0)))))))) (hK10 a2 x3 x4 m2)
    · refine qr_iload o (q_dm dm_X1_run 38 rfl) rfl ?_
      refine qr_goto (tgt := 86) o (q_dm dm_X1_run 39 rfl) (by decide) ?_
      refine qr_iast o (sh36 j r) (q_dm dm_X1_run 44 rfl) ?_
      refine qr_letm (fun m5 => ?_)
      refine qs_iincl2 (L' := fun x6 => [some (.inr (some 34)), none, some (.inl a2), some (.inl x6), some (.inl a4), some (.inl a5), some (.inl a6), none]) o (q_dm dm_X1_run 45 rfl) rfl ic_1 (Nat.le_of_ble_eq_true rfl) (fun _ => rfl) (fun x6 => ?_)
      refine qr_goto (tgt := 237) o (q_dm dm_X1_run 46 rfl) (by decide) ?_
      refine qs_iincl2 (L' := fun x7 => [some (.inr (some 34)), none, some (.inl a2), some (.inl x6), some (.inl x7), some (.inl a5), some (.inl a6), none]) o (q_dm dm_X1_run 131 rfl) rfl ic_1 (Nat.le_of_ble_eq_true rfl) (fun _ => rfl) (fun x7 => ?_)
      refine qr_goto (tgt := 10) o (q_dm dm_X1_run 132 rfl) (by decide) ?_
      exact qr_loc (q_leS (q_leN (q_leS (q_leS (q_leS (q_leN (q_leN (q_leN q_le0)))))))) (hK10 a2 x6 x7 m5)

def b_X1_run_10 (n : Nat) (j : Nat) (K10 : Int32 → Int32 → Int32 → qM → qR) (a2 a3 a4 : Int32) (M : qM) : qR :=
  (if a2 ≤ a4 then f_X1_run_243 n j a3 M else (if (M 34 4) = (0 : Int32) then qg a4 240 (ql (M (j + 1) a4.toNatClampNeg) (fun x1 => qg a4 240 (ql (M (j + 2) a4.toNatClampNeg) (fun x2 => (if x1 = (0 : Int32) then f_X1_run_58 n j K10 a2 a3 a4 x1 x2 M else (if x1 = (1 : Int32) then f_X1_run_58 n j K10 a2 a3 a4 x1 x2 M else (if x1 < (32 : Int32) then f_X1_run_139 n j K10 a2 a3 a4 x1 x2 M else (if a3 < (2 : Int32) then f_X1_run_139 n j K10 a2 a3 a4 x1 x2 M else ql (a3 + (-1 : Int32)) (fun x3 => qg (x3 - (1 : Int32)) 64 (qg x3 64 (qc (f_X1_reckon n x1 (M 36 (x3 - (1 : Int32)).toNatClampNeg) (M 36 x3.toNatClampNeg) M) (fun r4 m5 => qg (x3 - (1 : Int32)) 64 (qlm (mu m5 36 (x3 - (1 : Int32)).toNatClampNeg r4) (fun m6 => ql (a4 + (1 : Int32)) (fun x7 => K10 a2 x3 x7 m6))))))))))))))) else f_X1_run_243 n j a3 M))
set_option maxRecDepth 4000 in
theorem wb_X1_run_10 {g : qG} {k : qK} (n : Nat) (j r : Nat) (hj : q_isLaw j) (hr : q_isLaw r) (o : qOk g 1 zX1_run k) (K10 : Int32 → Int32 → Int32 → qM → qR) (hK10 : ∀ (a2 a3 a4 : Int32) (M : qM), qAE g k zX1_run (qL j r) 10 [some (.inr (some 34)), none, some (.inl a2), some (.inl a3), some (.inl a4), none, none, none] [] (qL j r, M) (K10 a2 a3 a4 M)) (a2 a3 a4 : Int32) (M : qM) : qAE g k zX1_run (qL j r) 10 [some (.inr (some 34)), none, some (.inl a2), some (.inl a3), some (.inl a4), none, none, none] [] (qL j r, M) (b_X1_run_10 n j K10 a2 a3 a4 M) := by
  unfold b_X1_run_10
  refine qr_iload o (q_dm dm_X1_run 7 rfl) rfl ?_
  refine qr_iload_n o (q_dm dm_X1_run 8 rfl) rfl ?_
  refine qr_icmp_ge (tgt := 243) o (q_dm dm_X1_run 9 rfl) (by decide) ?_ ?_
  · exact qr_loc (q_leS (q_leN (q_leN (q_leS (q_leN (q_leN (q_leN (q_leN q_le0)))))))) (w_X1_run_243 n j r hj hr o a3 M)
  · refine qr_aload_n o (q_dm dm_X1_run 10 rfl) rfl ?_
    refine qr_getf (kf := 4) o cf_X1 (sh34 j r) rfl (Nat.le_of_ble_eq_true rfl) fl_X1_95 (q_dm dm_X1_run 11 rfl) ?_
    refine qr_if_ne (tgt := 243) o (q_dm dm_X1_run 12 rfl) (by decide) ?_ ?_
    · exact qr_loc (q_leS (q_leN (q_leN (q_leS (q_leN (q_leN (q_leN (q_leN q_le0)))))))) (w_X1_run_243 n j r hj hr o a3 M)
    · refine qr_aload_n o (q_dm dm_X1_run 13 rfl) rfl ?_
      refine qr_getr (kf := 3) o cf_X1 (sh34 j r) rfl (Nat.le_of_ble_eq_true rfl) fl_X1_24 (q_dm dm_X1_run 14 rfl) ?_
      refine qr_getr (kf := 0) o cf_X3 (shW0 j r hj) rfl (Nat.le_of_ble_eq_true rfl) fl_X1_99 (q_dm dm_X1_run 15 rfl) ?_
      refine qr_iload o (q_dm dm_X1_run 16 rfl) rfl ?_
      refine qr_iald o (shW1 j r hj) (q_dm dm_X1_run 17 rfl) ?_
      refine qr_lt (fun x1 => ?_)
      refine qs_istore (L' := [some (.inr (some 34)), none, some (.inl a2), some (.inl a3), some (.inl a4), some (.inl x1), none, none]) o (q_dm dm_X1_run 18 rfl) (Nat.le_of_ble_eq_true rfl) rfl ?_
      refine qr_aload_n o (q_dm dm_X1_run 19 rfl) rfl ?_
      refine qr_getr (kf := 3) o cf_X1 (sh34 j r) rfl (Nat.le_of_ble_eq_true rfl) fl_X1_24 (q_dm dm_X1_run 20 rfl) ?_
      refine qr_getr (kf := 1) o cf_X3 (shW0 j r hj) rfl (Nat.le_of_ble_eq_true rfl) fl_X1_102 (q_dm dm_X1_run 21 rfl) ?_
      refine qr_iload o (q_dm dm_X1_run 22 rfl) rfl ?_
      refine qr_iald o (shW2 j r hj) (q_dm dm_X1_run 23 rfl) ?_
      refine qr_lt (fun x2 => ?_)
      refine qs_istore (L' := [some (.inr (some 34)), none, some (.inl a2), some (.inl a3), some (.inl a4), some (.inl x1), some (.inl x2), none]) o (q_dm dm_X1_run 24 rfl) (Nat.le_of_ble_eq_true rfl) rfl ?_
      refine qr_iload o (q_dm dm_X1_run 25 rfl) rfl ?_
      refine qr_if_eq (tgt := 58) o (q_dm dm_X1_run 26 rfl) (by decide) ?_ ?_
      · exact qr_loc (q_leS (q_leN (q_leS (q_leS (q_leS (q_leS (q_leS (q_leN q_le0)))))))) (w_X1_run_58 n j r hj hr o K10 hK10 a2 a3 a4 x1 x2 M)
      · refine qr_iload o (q_dm dm_X1_run 27 rfl) rfl ?_
        refine qr_iconst o (q_dm dm_X1_run 28 rfl) ic_1 ?_
        refine qr_icmp_ne (tgt := 93) o (q_dm dm_X1_run 29 rfl) (by decide) ?_ ?_
        · refine qr_iload o (q_dm dm_X1_run 47 rfl) rfl ?_
          refine qr_bipush o (q_dm dm_X1_run 48 rfl) bi_32 ?_
          refine qr_icmp_lt (tgt := 139) o (q_dm dm_X1_run 49 rfl) (by decide) ?_ ?_
          · exact qr_loc (q_leS (q_leN (q_leS (q_leS (q_leS (q_leS (q_leS (q_leN q_le0)))))))) (w_X1_run_139 n j r hj hr o K10 hK10 a2 a3 a4 x1 x2 M)
          · refine qr_iload_n o (q_dm dm_X1_run 50 rfl) rfl ?_
            refine qr_iconst o (q_dm dm_X1_run 51 rfl) ic_2 ?_
            refine qr_icmp_lt (tgt := 139) o (q_dm dm_X1_run 52 rfl) (by decide) ?_ ?_
            · exact qr_loc (q_leS (q_leN (q_leS (q_leS (q_leS (q_leS (q_leS (q_leN q_le0)))))))) (w_X1_run_139 n j r hj hr o K10 hK10 a2 a3 a4 x1 x2 M)
            · refine qs_iincl2 (L' := fun x3 => [some (.inr (some 34)), none, some (.inl a2), some (.inl x3), some (.inl a4), some (.inl x1), some (.inl x2), none]) o (q_dm dm_X1_run 53 rfl) rfl ic_m1 (Nat.le_of_ble_eq_true rfl) (fun _ => rfl) (fun x3 => ?_)
              refine qr_aload_n o (q_dm dm_X1_run 54 rfl) rfl ?_
              refine qr_getr (kf := 2) o cf_X1 (sh34 j r) rfl (Nat.le_of_ble_eq_true rfl) fl_X1_18 (q_dm dm_X1_run 55 rfl) ?_
              refine qr_iload_n o (q_dm dm_X1_run 56 rfl) rfl ?_
              refine qr_iconst o (q_dm dm_X1_run 57 rfl) ic_1 ?_
              refine qr_isub o (q_dm dm_X1_run 58 rfl) ?_
              refine qr_aload_n o (q_dm dm_X1_run 59 rfl) rfl ?_
              refine qr_iload o (q_dm dm_X1_run 60 rfl) rfl ?_
              refine qr_aload_n o (q_dm dm_X1_run 61 rfl) rfl ?_
              refine qr_getr (kf := 2) o cf_X1 (sh34 j r) rfl (Nat.le_of_ble_eq_true rfl) fl_X1_18 (q_dm dm_X1_run 62 rfl) ?_
              refine qr_iload_n o (q_dm dm_X1_run 63 rfl) rfl ?_
              refine qr_iconst o (q_dm dm_X1_run 64 rfl) ic_1 ?_
              refine qr_isub o (q_dm dm_X1_run 65 rfl) ?_
              refine qr_iald o (sh36 j r) (q_dm dm_X1_run 66 rfl) ?_
              refine qr_aload_n o (q_dm dm_X1_run 67 rfl) rfl ?_
              refine qr_getr (kf := 2) o cf_X1 (sh34 j r) rfl (Nat.le_of_ble_eq_true rfl) fl_X1_18 (q_dm dm_X1_run 68 rfl) ?_
              refine qr_iload_n o (q_dm dm_X1_run 69 rfl) rfl ?_
              refine qr_iald o (sh36 j r) (q_dm dm_X1_run 70 rfl) ?_
              refine qr_callv_i (As := [.inl x1, .inl (M 36 (x3 - (1 : Int32)).toNatClampNeg), .inl (M 36 x3.toNatClampNeg)]) (S := [.inl (x3 - (1 : Int32)), .inr (some 36)]) o (a_X1_reckon g k.2.1 n j r hj hr x1 (M 36 (x3 - (1 : Int32)).toNatClampNeg) (M 36 x3.toNatClampNeg) M) (Nat.le_of_ble_eq_true rfl) zv_X1_reckon rfl cf_X1 (sh34 j r) ml_X1_105 (Nat.le_of_ble_eq_true rfl) (q_dm dm_X1_run 71 rfl) (fun r4 m5 => ?_)
              refine qr_iast o (sh36 j r) (q_dm dm_X1_run 72 rfl) ?_
              refine qr_letm (fun m6 => ?_)
              refine qr_goto (tgt := 237) o (q_dm dm_X1_run 73 rfl) (by decide) ?_
              refine qs_iincl2 (L' := fun x7 => [some (.inr (some 34)), none, some (.inl a2), some (.inl x3), some (.inl x7), some (.inl x1), some (.inl x2), none]) o (q_dm dm_X1_run 131 rfl) rfl ic_1 (Nat.le_of_ble_eq_true rfl) (fun _ => rfl) (fun x7 => ?_)
              refine qr_goto (tgt := 10) o (q_dm dm_X1_run 132 rfl) (by decide) ?_
              exact qr_loc (q_leS (q_leN (q_leS (q_leS (q_leS (q_leN (q_leN (q_leN q_le0)))))))) (hK10 a2 x3 x7 m6)
        · exact qr_loc (q_leS (q_leN (q_leS (q_leS (q_leS (q_leS (q_leS (q_leN q_le0)))))))) (w_X1_run_58 n j r hj hr o K10 hK10 a2 a3 a4 x1 x2 M)

def f_X1_run_10 (n : Nat) (j : Nat) : Nat → Int32 → Int32 → Int32 → qM → qR
  | 0, _, _, _, _ => none
  | m + 1, a2, a3, a4, M => b_X1_run_10 n j (f_X1_run_10 n j m) a2 a3 a4 M
theorem w_X1_run_10 {g : qG} {k : qK} (n : Nat) (j r : Nat) (hj : q_isLaw j) (hr : q_isLaw r) (o : qOk g 1 zX1_run k) : ∀ (m : Nat) (a2 a3 a4 : Int32) (M : qM), qAE g k zX1_run (qL j r) 10 [some (.inr (some 34)), none, some (.inl a2), some (.inl a3), some (.inl a4), none, none, none] [] (qL j r, M) (f_X1_run_10 n j m a2 a3 a4 M) := by
  intro m
  induction m with
  | zero =>
    intro a2 a3 a4 M
    exact qr_none
  | succ m ih =>
    intro a2 a3 a4 M
    exact wb_X1_run_10 n j r hj hr o (f_X1_run_10 n j m) ih a2 a3 a4 M
def f_X1_run (n : Nat) (j : Nat) (a1 a2 : Int32) (M : qM) : qR :=
  qlm (mu M 34 4 (0 : Int32)) (fun m1 => f_X1_run_10 n j n a2 (0 : Int32) a1 m1)
set_option maxRecDepth 4000 in
theorem w_X1_run {g : qG} {k : qK} (n : Nat) (j r : Nat) (hj : q_isLaw j) (hr : q_isLaw r) (o : qOk g 1 zX1_run k) (a1 a2 : Int32) (M : qM) : qAE g k zX1_run (qL j r) 0 [some (.inr (some 34)), some (.inl a1), some (.inl a2), none, none, none, none, none] [] (qL j r, M) (f_X1_run n j a1 a2 M) := by
  unfold f_X1_run
  refine qr_iconst o (q_dm dm_X1_run 0 rfl) ic_0 ?_
  refine qs_istore_n (L' := [some (.inr (some 34)), some (.inl a1), some (.inl a2), some (.inl (0 : Int32)), none, none, none, none]) o (q_dm dm_X1_run 1 rfl) (Nat.le_of_ble_eq_true rfl) rfl ?_
  refine qr_aload_n o (q_dm dm_X1_run 2 rfl) rfl ?_
  refine qr_iconst o (q_dm dm_X1_run 3 rfl) ic_0 ?_
  refine qr_putz (kf := 4) o cf_X1 (sh34 j r) rfl (Nat.le_of_ble_eq_true rfl) fl_X1_95 rfl (by decide +kernel) (by decide) (q_dm dm_X1_run 4 rfl) ?_
  refine qr_letm (fun m1 => ?_)
  refine qr_iload_n o (q_dm dm_X1_run 5 rfl) rfl ?_
  refine qs_istore (L' := [some (.inr (some 34)), some (.inl a1), some (.inl a2), some (.inl (0 : Int32)), some (.inl a1), none, none, none]) o (q_dm dm_X1_run 6 rfl) (Nat.le_of_ble_eq_true rfl) rfl ?_
  exact qr_loc (q_leS (q_leN (q_leS (q_leS (q_leS (q_leN (q_leN (q_leN q_le0)))))))) (w_X1_run_10 n j r hj hr o n a2 (0 : Int32) a1 m1)

theorem a_X1_run (g : qG) (l : Launch) (n : Nat) (j r : Nat) (hj : q_isLaw j) (hr : q_isLaw r) (a1 a2 : Int32) (M : qM) : qAM g l 1 zX1_run (qL j r) [.inr (some 34), .inl a1, .inl a2] (qL j r, M) (f_X1_run n j a1 a2 M) :=
  qAM.of zv_X1_run.1 (by show 3 ≤ 8; decide) (fun k hk o => w_X1_run n j r hj hr o a1 a2 M)
def tb_X1_amount : List (Nat × Instr × Nat) := [(0, (.iload_n 3, 1)), (1, (.istore 4, 2)), (3, (.iconst 0, 1)), (4, (.istore 5, 2)), (6, (.iload 5, 2)), (8, (.aload_n 0, 1)), (9, (.getfield 24, 3)), (12, (.getfield 61, 3)), (15, (.if_icmp .ge 86, 3)), (18, (.aload_n 0, 1)), (19, (.getfield 24, 3)), (22, (.getfield 65, 3)), (25, (.iload 5, 2)), (27, (.iaload, 1)), (28, (.iload_n 1, 1)), (29, (.if_icmp .ne 66, 3)), (32, (.iconst 0, 1)), (33, (.istore 4, 2)), (35, (.aload_n 0, 1)), (36, (.aload_n 0, 1)), (37, (.getfield 24, 3)), (40, (.getfield 68, 3)), (43, (.iload 5, 2)), (45, (.iaload, 1)), (46, (.aload_n 0, 1)), (47, (.getfield 24, 3)), (50, (.getfield 71, 3)), (53, (.iload 5, 2)), (55, (.iaload, 1)), (56, (.invokevirtual 74, 3)), (59, (.ifCond .eq 36, 3)), (62, (.iconst 0, 1)), (63, (.iload_n 2, 1)), (64, (.aload_n 0, 1)), (65, (.aload_n 0, 1)), (66, (.getfield 24, 3)), (69, (.getfield 78, 3)), (72, (.iload 5, 2)), (74, (.iaload, 1)), (75, (.aload_n 0, 1)), (76, (.getfield 24, 3)), (79, (.getfield 68, 3)), (82, (.iload 5, 2)), (84, (.iaload, 1)), (85, (.invokevirtual 74, 3)), (88, (.invokestatic 81, 3)), (91, (.invokestatic 86, 3)), (94, (.ireturn, 1)), (95, (.iinc 5 1, 3)), (98, (.goto (-92), 3)), (101, (.iload 4, 2)), (103, (.ireturn, 1))]
theorem dm_X1_amount : ∀ q ∈ tb_X1_amount, decode zX1_amount.2.1 q.1 = .ok q.2 := by decide +kernel
def b_X1_amount_6 (n : Nat) (j : Nat) (K6 : Int32 → Int32 → Int32 → Int32 → qM → qR) (a1 a2 a4 a5 : Int32) (M : qM) : qR :=
  (if (M j 7) ≤ a5 then some (a4, M) else qg a5 16 ((if (M (j + 3) a5.toNatClampNeg) = a1 then qg a5 16 (qg a5 16 (qc (f_X1_run n j (M (j + 5) a5.toNatClampNeg) (M (j + 6) a5.toNatClampNeg) M) (fun r2 m3 => (if r2 = (0 : Int32) then ql (a5 + (1 : Int32)) (fun x4 => K6 a1 a2 (0 : Int32) x4 m3) else qg a5 16 (qg a5 16 (qc (f_X1_run n j (m3 (j + 4) a5.toNatClampNeg) (m3 (j + 5) a5.toNatClampNeg) m3) (fun r5 m6 => some ((qmax (0 : Int32) (qmin a2 r5)), m6)))))))) else ql (a5 + (1 : Int32)) (fun x1 => K6 a1 a2 a4 x1 M))))
set_option maxRecDepth 4000 in
theorem wb_X1_amount_6 {g : qG} {k : qK} (n : Nat) (j r : Nat) (hj : q_isLaw j) (hr : q_isLaw r) (o : qOk g 2 zX1_amount k) (K6 : Int32 → Int32 → Int32 → Int32 → qM → qR) (hK6 : ∀ (a1 a2 a4 a5 : Int32) (M : qM), qAE g k zX1_amount (qL j r) 6 [some (.inr (some 34)), some (.inl a1), some (.inl a2), none, some (.inl a4), some (.inl a5)] [] (qL j r, M) (K6 a1 a2 a4 a5 M)) (a1 a2 a4 a5 : Int32) (M : qM) : qAE g k zX1_amount (qL j r) 6 [some (.inr (some 34)), some (.inl a1), some (.inl a2), none, some (.inl a4), some (.inl a5)] [] (qL j r, M) (b_X1_amount_6 n j K6 a1 a2 a4 a5 M) := by
  unfold b_X1_amount_6
  refine qr_iload o (q_dm dm_X1_amount 4 rfl) rfl ?_
  refine qr_aload_n o (q_dm dm_X1_amount 5 rfl) rfl ?_
  refine qr_getr (kf := 3) o cf_X1 (sh34 j r) rfl (Nat.le_of_ble_eq_true rfl) fl_X1_24 (q_dm dm_X1_amount 6 rfl) ?_
  refine qr_getf (kf := 7) o cf_X3 (shW0 j r hj) rfl (Nat.le_of_ble_eq_true rfl) fl_X1_61 (q_dm dm_X1_amount 7 rfl) ?_
  refine qr_icmp_ge (tgt := 101) o (q_dm dm_X1_amount 8 rfl) (by decide) ?_ ?_
  · refine qr_iload o (q_dm dm_X1_amount 50 rfl) rfl ?_
    exact qr_iret o rfl rfl (q_dm dm_X1_amount 51 rfl)
  · refine qr_aload_n o (q_dm dm_X1_amount 9 rfl) rfl ?_
    refine qr_getr (kf := 3) o cf_X1 (sh34 j r) rfl (Nat.le_of_ble_eq_true rfl) fl_X1_24 (q_dm dm_X1_amount 10 rfl) ?_
    refine qr_getr (kf := 2) o cf_X3 (shW0 j r hj) rfl (Nat.le_of_ble_eq_true rfl) fl_X1_65 (q_dm dm_X1_amount 11 rfl) ?_
    refine qr_iload o (q_dm dm_X1_amount 12 rfl) rfl ?_
    refine qr_iald o (shW3 j r hj) (q_dm dm_X1_amount 13 rfl) ?_
    refine qr_iload_n o (q_dm dm_X1_amount 14 rfl) rfl ?_
    refine qr_icmp_ne (tgt := 95) o (q_dm dm_X1_amount 15 rfl) (by decide) ?_ ?_
    · refine qs_iincl2 (L' := fun x1 => [some (.inr (some 34)), some (.inl a1), some (.inl a2), none, some (.inl a4), some (.inl x1)]) o (q_dm dm_X1_amount 48 rfl) rfl ic_1 (Nat.le_of_ble_eq_true rfl) (fun _ => rfl) (fun x1 => ?_)
      refine qr_goto (tgt := 6) o (q_dm dm_X1_amount 49 rfl) (by decide) ?_
      exact qr_loc (q_leS (q_leS (q_leS (q_leN (q_leS (q_leS q_le0)))))) (hK6 a1 a2 a4 x1 M)
    · refine qr_iconst o (q_dm dm_X1_amount 16 rfl) ic_0 ?_
      refine qs_istore (L' := [some (.inr (some 34)), some (.inl a1), some (.inl a2), none, some (.inl (0 : Int32)), some (.inl a5)]) o (q_dm dm_X1_amount 17 rfl) (Nat.le_of_ble_eq_true rfl) rfl ?_
      refine qr_aload_n o (q_dm dm_X1_amount 18 rfl) rfl ?_
      refine qr_aload_n o (q_dm dm_X1_amount 19 rfl) rfl ?_
      refine qr_getr (kf := 3) o cf_X1 (sh34 j r) rfl (Nat.le_of_ble_eq_true rfl) fl_X1_24 (q_dm dm_X1_amount 20 rfl) ?_
      refine qr_getr (kf := 4) o cf_X3 (shW0 j r hj) rfl (Nat.le_of_ble_eq_true rfl) fl_X1_68 (q_dm dm_X1_amount 21 rfl) ?_
      refine qr_iload o (q_dm dm_X1_amount 22 rfl) rfl ?_
      refine qr_iald o (shW5 j r hj) (q_dm dm_X1_amount 23 rfl) ?_
      refine qr_aload_n o (q_dm dm_X1_amount 24 rfl) rfl ?_
      refine qr_getr (kf := 3) o cf_X1 (sh34 j r) rfl (Nat.le_of_ble_eq_true rfl) fl_X1_24 (q_dm dm_X1_amount 25 rfl) ?_
      refine qr_getr (kf := 5) o cf_X3 (shW0 j r hj) rfl (Nat.le_of_ble_eq_true rfl) fl_X1_71 (q_dm dm_X1_amount 26 rfl) ?_
      refine qr_iload o (q_dm dm_X1_amount 27 rfl) rfl ?_
      refine qr_iald o (shW6 j r hj) (q_dm dm_X1_amount 28 rfl) ?_
      refine qr_callv_i (As := [.inl (M (j + 5) a5.toNatClampNeg), .inl (M (j + 6) a5.toNatClampNeg)]) (S := []) o (a_X1_run g k.2.1 n j r hj hr (M (j + 5) a5.toNatClampNeg) (M (j + 6) a5.toNatClampNeg) M) (Nat.le_of_ble_eq_true rfl) zv_X1_run rfl cf_X1 (sh34 j r) ml_X1_74 (Nat.le_of_ble_eq_true rfl) (q_dm dm_X1_amount 29 rfl) (fun r2 m3 => ?_)
      refine qr_if_eq (tgt := 95) o (q_dm dm_X1_amount 30 rfl) (by decide) ?_ ?_
      · refine qs_iincl2 (L' := fun x4 => [some (.inr (some 34)), some (.inl a1), some (.inl a2), none, some (.inl (0 : Int32)), some (.inl x4)]) o (q_dm dm_X1_amount 48 rfl) rfl ic_1 (Nat.le_of_ble_eq_true rfl) (fun _ => rfl) (fun x4 => ?_)
        refine qr_goto (tgt := 6) o (q_dm dm_X1_amount 49 rfl) (by decide) ?_
        exact qr_loc (q_leS (q_leS (q_leS (q_leN (q_leS (q_leS q_le0)))))) (hK6 a1 a2 (0 : Int32) x4 m3)
      · refine qr_iconst o (q_dm dm_X1_amount 31 rfl) ic_0 ?_
        refine qr_iload_n o (q_dm dm_X1_amount 32 rfl) rfl ?_
        refine qr_aload_n o (q_dm dm_X1_amount 33 rfl) rfl ?_
        refine qr_aload_n o (q_dm dm_X1_amount 34 rfl) rfl ?_
        refine qr_getr (kf := 3) o cf_X1 (sh34 j r) rfl (Nat.le_of_ble_eq_true rfl) fl_X1_24 (q_dm dm_X1_amount 35 rfl) ?_
        refine qr_getr (kf := 3) o cf_X3 (shW0 j r hj) rfl (Nat.le_of_ble_eq_true rfl) fl_X1_78 (q_dm dm_X1_amount 36 rfl) ?_
        refine qr_iload o (q_dm dm_X1_amount 37 rfl) rfl ?_
        refine qr_iald o (shW4 j r hj) (q_dm dm_X1_amount 38 rfl) ?_
        refine qr_aload_n o (q_dm dm_X1_amount 39 rfl) rfl ?_
        refine qr_getr (kf := 3) o cf_X1 (sh34 j r) rfl (Nat.le_of_ble_eq_true rfl) fl_X1_24 (q_dm dm_X1_amount 40 rfl) ?_
        refine qr_getr (kf := 4) o cf_X3 (shW0 j r hj) rfl (Nat.le_of_ble_eq_true rfl) fl_X1_68 (q_dm dm_X1_amount 41 rfl) ?_
        refine qr_iload o (q_dm dm_X1_amount 42 rfl) rfl ?_
        refine qr_iald o (shW5 j r hj) (q_dm dm_X1_amount 43 rfl) ?_
        refine qr_callv_i (As := [.inl (m3 (j + 4) a5.toNatClampNeg), .inl (m3 (j + 5) a5.toNatClampNeg)]) (S := [.inl a2, .inl (0 : Int32)]) o (a_X1_run g k.2.1 n j r hj hr (m3 (j + 4) a5.toNatClampNeg) (m3 (j + 5) a5.toNatClampNeg) m3) (Nat.le_of_ble_eq_true rfl) zv_X1_run rfl cf_X1 (sh34 j r) ml_X1_74 (Nat.le_of_ble_eq_true rfl) (q_dm dm_X1_amount 44 rfl) (fun r5 m6 => ?_)
        refine qr_min o ml_X1_81 (by omega) (Nat.le_of_ble_eq_true rfl) (q_dm dm_X1_amount 45 rfl) ?_
        refine qr_max o ml_X1_86 (by omega) (Nat.le_of_ble_eq_true rfl) (q_dm dm_X1_amount 46 rfl) ?_
        exact qr_iret o rfl rfl (q_dm dm_X1_amount 47 rfl)

def f_X1_amount_6 (n : Nat) (j : Nat) : Nat → Int32 → Int32 → Int32 → Int32 → qM → qR
  | 0, _, _, _, _, _ => none
  | m + 1, a1, a2, a4, a5, M => b_X1_amount_6 n j (f_X1_amount_6 n j m) a1 a2 a4 a5 M
theorem w_X1_amount_6 {g : qG} {k : qK} (n : Nat) (j r : Nat) (hj : q_isLaw j) (hr : q_isLaw r) (o : qOk g 2 zX1_amount k) : ∀ (m : Nat) (a1 a2 a4 a5 : Int32) (M : qM), qAE g k zX1_amount (qL j r) 6 [some (.inr (some 34)), some (.inl a1), some (.inl a2), none, some (.inl a4), some (.inl a5)] [] (qL j r, M) (f_X1_amount_6 n j m a1 a2 a4 a5 M) := by
  intro m
  induction m with
  | zero =>
    intro a1 a2 a4 a5 M
    exact qr_none
  | succ m ih =>
    intro a1 a2 a4 a5 M
    exact wb_X1_amount_6 n j r hj hr o (f_X1_amount_6 n j m) ih a1 a2 a4 a5 M
def f_X1_amount (n : Nat) (j : Nat) (a1 a2 a3 : Int32) (M : qM) : qR :=
  f_X1_amount_6 n j n a1 a2 a3 (0 : Int32) M
set_option maxRecDepth 4000 in
theorem w_X1_amount {g : qG} {k : qK} (n : Nat) (j r : Nat) (hj : q_isLaw j) (hr : q_isLaw r) (o : qOk g 2 zX1_amount k) (a1 a2 a3 : Int32) (M : qM) : qAE g k zX1_amount (qL j r) 0 [some (.inr (some 34)), some (.inl a1), some (.inl a2), some (.inl a3), none, none] [] (qL j r, M) (f_X1_amount n j a1 a2 a3 M) := by
  unfold f_X1_amount
  refine qr_iload_n o (q_dm dm_X1_amount 0 rfl) rfl ?_
  refine qs_istore (L' := [some (.inr (some 34)), some (.inl a1), some (.inl a2), some (.inl a3), some (.inl a3), none]) o (q_dm dm_X1_amount 1 rfl) (Nat.le_of_ble_eq_true rfl) rfl ?_
  refine qr_iconst o (q_dm dm_X1_amount 2 rfl) ic_0 ?_
  refine qs_istore (L' := [some (.inr (some 34)), some (.inl a1), some (.inl a2), some (.inl a3), some (.inl a3), some (.inl (0 : Int32))]) o (q_dm dm_X1_amount 3 rfl) (Nat.le_of_ble_eq_true rfl) rfl ?_
  exact qr_loc (q_leS (q_leS (q_leS (q_leN (q_leS (q_leS q_le0)))))) (w_X1_amount_6 n j r hj hr o n a1 a2 a3 (0 : Int32) M)

theorem a_X1_amount (g : qG) (l : Launch) (n : Nat) (j r : Nat) (hj : q_isLaw j) (hr : q_isLaw r) (a1 a2 a3 : Int32) (M : qM) : qAM g l 2 zX1_amount (qL j r) [.inr (some 34), .inl a1, .inl a2, .inl a3] (qL j r, M) (f_X1_amount n j a1 a2 a3 M) :=
  qAM.of zv_X1_amount.1 (by show 4 ≤ 6; decide) (fun k hk o => w_X1_amount n j r hj hr o a1 a2 a3 M)
def tb_X0_forget : List (Nat × Instr × Nat) := [(0, (.iconst 0, 1)), (1, (.istore 4, 2)), (3, (.iload 4, 2)), (5, (.bipush 12, 2)), (7, (.if_icmp .ge 93, 3)), (10, (.iload_n 2, 1)), (11, (.bipush 12, 2)), (13, (.imul, 1)), (14, (.iload 4, 2)), (16, (.iadd, 1)), (17, (.istore 5, 2)), (19, (.iload_n 3, 1)), (20, (.iload 4, 2)), (22, (.ishr, 1)), (23, (.iconst 1, 1)), (24, (.iand, 1)), (25, (.iconst 1, 1)), (26, (.if_icmp .ne 68, 3)), (29, (.aload_n 1, 1)), (30, (.getfield 73, 3)), (33, (.iload 5, 2)), (35, (.iaload, 1)), (36, (.ifCond .le 58, 3)), (39, (.aload_n 0, 1)), (40, (.aload_n 1, 1)), (41, (.iload_n 2, 1)), (42, (.iload 4, 2)), (44, (.bipush 8, 2)), (46, (.invokevirtual 41, 3)), (49, (.aload_n 0, 1)), (50, (.getfield 15, 3)), (53, (.bipush 102, 2)), (55, (.sipush 999, 3)), (58, (.iconst 0, 1)), (59, (.invokevirtual 69, 3)), (62, (.istore 6, 2)), (64, (.iload 6, 2)), (66, (.ifCond .le 28, 3)), (69, (.aload_n 1, 1)), (70, (.getfield 19, 3)), (73, (.aload_n 1, 1)), (74, (.getfield 138, 3)), (77, (.iload 5, 2)), (79, (.iaload, 1)), (80, (.isub, 1)), (81, (.iload 6, 2)), (83, (.if_icmp .lt 11, 3)), (86, (.aload_n 1, 1)), (87, (.getfield 73, 3)), (90, (.iload 5, 2)), (92, (.iconst 0, 1)), (93, (.iastore, 1)), (94, (.iinc 4 1, 3)), (97, (.goto (-94), 3)), (100, (.return_, 1))]
theorem dm_X0_forget : ∀ q ∈ tb_X0_forget, decode zX0_forget.2.1 q.1 = .ok q.2 := by decide +kernel
def b_X0_forget_3 (n : Nat) (t j : Nat) (K3 : Int32 → Int32 → Int32 → qM → qR) (a2 a3 a4 : Int32) (M : qM) : qR :=
  (if (12 : Int32) ≤ a4 then some (0, M) else ql ((a2 * (12 : Int32)) + a4) (fun x1 => (if ((a3 >>> (a4 &&& 31)) &&& (1 : Int32)) = (1 : Int32) then qg x1 96 ((if (M (t + 2) x1.toNatClampNeg) ≤ (0 : Int32) then ql (a4 + (1 : Int32)) (fun x3 => K3 a2 a3 x3 M) else qc (f_X0_tellAll n t a2 a4 (8 : Int32) M) (fun _ m4 => qc (f_X1_amount n j (102 : Int32) (999 : Int32) (0 : Int32) m4) (fun r5 m6 => (if r5 ≤ (0 : Int32) then ql (a4 + (1 : Int32)) (fun x7 => K3 a2 a3 x7 m6) else qg x1 96 ((if ((m6 t 9) - (m6 (t + 3) x1.toNatClampNeg)) < r5 then ql (a4 + (1 : Int32)) (fun x8 => K3 a2 a3 x8 m6) else qg x1 96 (qlm (mu m6 (t + 2) x1.toNatClampNeg (0 : Int32)) (fun m9 => ql (a4 + (1 : Int32)) (fun x10 => K3 a2 a3 x10 m9)))))))))) else ql (a4 + (1 : Int32)) (fun x2 => K3 a2 a3 x2 M))))
set_option maxRecDepth 4000 in
theorem wb_X0_forget_3 {g : qG} {k : qK} (n : Nat) (j r : Nat) (hj : q_isLaw j) (hr : q_isLaw r) {t : Nat} (ht : q_isTown t) (o : qOk g 3 zX0_forget k) (K3 : Int32 → Int32 → Int32 → qM → qR) (hK3 : ∀ (a2 a3 a4 : Int32) (M : qM), qAE g k zX0_forget (qL j r) 3 [some (.inr (some 51)), some (.inr (some t)), some (.inl a2), some (.inl a3), some (.inl a4), none, none] [] (qL j r, M) (K3 a2 a3 a4 M)) (a2 a3 a4 : Int32) (M : qM) : qAE g k zX0_forget (qL j r) 3 [some (.inr (some 51)), some (.inr (some t)), some (.inl a2), some (.inl a3), some (.inl a4), none, none] [] (qL j r, M) (b_X0_forget_3 n t j K3 a2 a3 a4 M) := by
  unfold b_X0_forget_3
  refine qr_iload o (q_dm dm_X0_forget 2 rfl) rfl ?_
  refine qr_bipush o (q_dm dm_X0_forget 3 rfl) bi_12 ?_
  refine qr_icmp_ge (tgt := 100) o (q_dm dm_X0_forget 4 rfl) (by decide) ?_ ?_
  · exact qr_vret o rfl (q_dm dm_X0_forget 54 rfl)
  · refine qr_iload_n o (q_dm dm_X0_forget 5 rfl) rfl ?_
    refine qr_bipush o (q_dm dm_X0_forget 6 rfl) bi_12 ?_
    refine qr_imul o (q_dm dm_X0_forget 7 rfl) ?_
    refine qr_iload o (q_dm dm_X0_forget 8 rfl) rfl ?_
    refine qr_iadd o (q_dm dm_X0_forget 9 rfl) ?_
    refine qr_lt (fun x1 => ?_)
    refine qs_istore (L' := [some (.inr (some 51)), some (.inr (some t)), some (.inl a2), some (.inl a3), some (.inl a4), some (.inl x1), none]) o (q_dm dm_X0_forget 10 rfl) (Nat.le_of_ble_eq_true rfl) rfl ?_
    refine qr_iload_n o (q_dm dm_X0_forget 11 rfl) rfl ?_
    refine qr_iload o (q_dm dm_X0_forget 12 rfl) rfl ?_
    refine qr_ishr o (q_dm dm_X0_forget 13 rfl) ?_
    refine qr_iconst o (q_dm dm_X0_forget 14 rfl) ic_1 ?_
    refine qr_iand o (q_dm dm_X0_forget 15 rfl) ?_
    refine qr_iconst o (q_dm dm_X0_forget 16 rfl) ic_1 ?_
    refine qr_icmp_ne (tgt := 94) o (q_dm dm_X0_forget 17 rfl) (by decide) ?_ ?_
    · refine qs_iincl2 (L' := fun x2 => [some (.inr (some 51)), some (.inr (some t)), some (.inl a2), some (.inl a3), some (.inl x2), some (.inl x1), none]) o (q_dm dm_X0_forget 52 rfl) rfl ic_1 (Nat.le_of_ble_eq_true rfl) (fun _ => rfl) (fun x2 => ?_)
      refine qr_goto (tgt := 3) o (q_dm dm_X0_forget 53 rfl) (by decide) ?_
      exact qr_loc (q_leS (q_leS (q_leS (q_leS (q_leS (q_leN (q_leN q_le0))))))) (hK3 a2 a3 x2 M)
    · refine qr_aload_n o (q_dm dm_X0_forget 18 rfl) rfl ?_
      refine qr_getr (kf := 1) o cf_X10 (shT0 j r ht) rfl (Nat.le_of_ble_eq_true rfl) fl_X0_73 (q_dm dm_X0_forget 19 rfl) ?_
      refine qr_iload o (q_dm dm_X0_forget 20 rfl) rfl ?_
      refine qr_iald o (shT2 j r ht) (q_dm dm_X0_forget 21 rfl) ?_
      refine qr_if_le (tgt := 94) o (q_dm dm_X0_forget 22 rfl) (by decide) ?_ ?_
      · refine qs_iincl2 (L' := fun x3 => [some (.inr (some 51)), some (.inr (some t)), some (.inl a2), some (.inl a3), some (.inl x3), some (.inl x1), none]) o (q_dm dm_X0_forget 52 rfl) rfl ic_1 (Nat.le_of_ble_eq_true rfl) (fun _ => rfl) (fun x3 => ?_)
        refine qr_goto (tgt := 3) o (q_dm dm_X0_forget 53 rfl) (by decide) ?_
        exact qr_loc (q_leS (q_leS (q_leS (q_leS (q_leS (q_leN (q_leN q_le0))))))) (hK3 a2 a3 x3 M)
      · refine qr_aload_n o (q_dm dm_X0_forget 23 rfl) rfl ?_
        refine qr_aload_n o (q_dm dm_X0_forget 24 rfl) rfl ?_
        refine qr_iload_n o (q_dm dm_X0_forget 25 rfl) rfl ?_
        refine qr_iload o (q_dm dm_X0_forget 26 rfl) rfl ?_
        refine qr_bipush o (q_dm dm_X0_forget 27 rfl) bi_8 ?_
        refine qr_callv_v (As := [.inr (some t), .inl a2, .inl a4, .inl (8 : Int32)]) (S := []) o (a_X0_tellAll g k.2.1 n j r hj hr ht a2 a4 (8 : Int32) M) (Nat.le_of_ble_eq_true rfl) zv_X0_tellAll rfl cf_X0 (sh51 j r) ml_X0_41 (Nat.le_of_ble_eq_true rfl) (q_dm dm_X0_forget 28 rfl) (fun _ m4 => ?_)
        refine qr_aload_n o (q_dm dm_X0_forget 29 rfl) rfl ?_
        refine qr_getr (kf := 1) o cf_X0 (sh51 j r) rfl (Nat.le_of_ble_eq_true rfl) fl_X0_15 (q_dm dm_X0_forget 30 rfl) ?_
        refine qr_bipush o (q_dm dm_X0_forget 31 rfl) bi_102 ?_
        refine qr_sipush o (q_dm dm_X0_forget 32 rfl) si_999 ?_
        refine qr_iconst o (q_dm dm_X0_forget 33 rfl) ic_0 ?_
        refine qr_callv_i (As := [.inl (102 : Int32), .inl (999 : Int32), .inl (0 : Int32)]) (S := []) o (a_X1_amount g k.2.1 n j r hj hr (102 : Int32) (999 : Int32) (0 : Int32) m4) (Nat.le_of_ble_eq_true rfl) zv_X1_amount rfl cf_X1 (sh34 j r) ml_X0_69 (Nat.le_of_ble_eq_true rfl) (q_dm dm_X0_forget 34 rfl) (fun r5 m6 => ?_)
        refine qs_istore (L' := [some (.inr (some 51)), some (.inr (some t)), some (.inl a2), some (.inl a3), some (.inl a4), some (.inl x1), some (.inl r5)]) o (q_dm dm_X0_forget 35 rfl) (Nat.le_of_ble_eq_true rfl) rfl ?_
        refine qr_iload o (q_dm dm_X0_forget 36 rfl) rfl ?_
        refine qr_if_le (tgt := 94) o (q_dm dm_X0_forget 37 rfl) (by decide) ?_ ?_
        · refine qs_iincl2 (L' := fun x7 => [some (.inr (some 51)), some (.inr (some t)), some (.inl a2), some (.inl a3), some (.inl x7), some (.inl x1), some (.inl r5)]) o (q_dm dm_X0_forget 52 rfl) rfl ic_1 (Nat.le_of_ble_eq_true rfl) (fun _ => rfl) (fun x7 => ?_)
          refine qr_goto (tgt := 3) o (q_dm dm_X0_forget 53 rfl) (by decide) ?_
          exact qr_loc (q_leS (q_leS (q_leS (q_leS (q_leS (q_leN (q_leN q_le0))))))) (hK3 a2 a3 x7 m6)
        · refine qr_aload_n o (q_dm dm_X0_forget 38 rfl) rfl ?_
          refine qr_getf (kf := 9) o cf_X10 (shT0 j r ht) rfl (Nat.le_of_ble_eq_true rfl) fl_X0_19 (q_dm dm_X0_forget 39 rfl) ?_
          refine qr_aload_n o (q_dm dm_X0_forget 40 rfl) rfl ?_
          refine qr_getr (kf := 2) o cf_X10 (shT0 j r ht) rfl (Nat.le_of_ble_eq_true rfl) fl_X0_138 (q_dm dm_X0_forget 41 rfl) ?_
          refine qr_iload o (q_dm dm_X0_forget 42 rfl) rfl ?_
          refine qr_iald o (shT3 j r ht) (q_dm dm_X0_forget 43 rfl) ?_
          refine qr_isub o (q_dm dm_X0_forget 44 rfl) ?_
          refine qr_iload o (q_dm dm_X0_forget 45 rfl) rfl ?_
          refine qr_icmp_lt (tgt := 94) o (q_dm dm_X0_forget 46 rfl) (by decide) ?_ ?_
          · refine qs_iincl2 (L' := fun x8 => [some (.inr (some 51)), some (.inr (some t)), some (.inl a2), some (.inl a3), some (.inl x8), some (.inl x1), some (.inl r5)]) o (q_dm dm_X0_forget 52 rfl) rfl ic_1 (Nat.le_of_ble_eq_true rfl) (fun _ => rfl) (fun x8 => ?_)
            refine qr_goto (tgt := 3) o (q_dm dm_X0_forget 53 rfl) (by decide) ?_
            exact qr_loc (q_leS (q_leS (q_leS (q_leS (q_leS (q_leN (q_leN q_le0))))))) (hK3 a2 a3 x8 m6)
          · refine qr_aload_n o (q_dm dm_X0_forget 47 rfl) rfl ?_
            refine qr_getr (kf := 1) o cf_X10 (shT0 j r ht) rfl (Nat.le_of_ble_eq_true rfl) fl_X0_73 (q_dm dm_X0_forget 48 rfl) ?_
            refine qr_iload o (q_dm dm_X0_forget 49 rfl) rfl ?_
            refine qr_iconst o (q_dm dm_X0_forget 50 rfl) ic_0 ?_
            refine qr_iast o (shT2 j r ht) (q_dm dm_X0_forget 51 rfl) ?_
            refine qr_letm (fun m9 => ?_)
            refine qs_iincl2 (L' := fun x10 => [some (.inr (some 51)), some (.inr (some t)), some (.inl a2), some (.inl a3), some (.inl x10), some (.inl x1), some (.inl r5)]) o (q_dm dm_X0_forget 52 rfl) rfl ic_1 (Nat.le_of_ble_eq_true rfl) (fun _ => rfl) (fun x10 => ?_)
            refine qr_goto (tgt := 3) o (q_dm dm_X0_forget 53 rfl) (by decide) ?_
            exact qr_loc (q_leS (q_leS (q_leS (q_leS (q_leS (q_leN (q_leN q_le0))))))) (hK3 a2 a3 x10 m9)

def f_X0_forget_3 (n : Nat) (t j : Nat) : Nat → Int32 → Int32 → Int32 → qM → qR
  | 0, _, _, _, _ => none
  | m + 1, a2, a3, a4, M => b_X0_forget_3 n t j (f_X0_forget_3 n t j m) a2 a3 a4 M
theorem w_X0_forget_3 {g : qG} {k : qK} (n : Nat) (j r : Nat) (hj : q_isLaw j) (hr : q_isLaw r) {t : Nat} (ht : q_isTown t) (o : qOk g 3 zX0_forget k) : ∀ (m : Nat) (a2 a3 a4 : Int32) (M : qM), qAE g k zX0_forget (qL j r) 3 [some (.inr (some 51)), some (.inr (some t)), some (.inl a2), some (.inl a3), some (.inl a4), none, none] [] (qL j r, M) (f_X0_forget_3 n t j m a2 a3 a4 M) := by
  intro m
  induction m with
  | zero =>
    intro a2 a3 a4 M
    exact qr_none
  | succ m ih =>
    intro a2 a3 a4 M
    exact wb_X0_forget_3 n j r hj hr ht o (f_X0_forget_3 n t j m) ih a2 a3 a4 M
def f_X0_forget (n : Nat) (t j : Nat) (a2 a3 : Int32) (M : qM) : qR :=
  f_X0_forget_3 n t j n a2 a3 (0 : Int32) M
set_option maxRecDepth 4000 in
theorem w_X0_forget {g : qG} {k : qK} (n : Nat) (j r : Nat) (hj : q_isLaw j) (hr : q_isLaw r) {t : Nat} (ht : q_isTown t) (o : qOk g 3 zX0_forget k) (a2 a3 : Int32) (M : qM) : qAE g k zX0_forget (qL j r) 0 [some (.inr (some 51)), some (.inr (some t)), some (.inl a2), some (.inl a3), none, none, none] [] (qL j r, M) (f_X0_forget n t j a2 a3 M) := by
  unfold f_X0_forget
  refine qr_iconst o (q_dm dm_X0_forget 0 rfl) ic_0 ?_
  refine qs_istore (L' := [some (.inr (some 51)), some (.inr (some t)), some (.inl a2), some (.inl a3), some (.inl (0 : Int32)), none, none]) o (q_dm dm_X0_forget 1 rfl) (Nat.le_of_ble_eq_true rfl) rfl ?_
  exact qr_loc (q_leS (q_leS (q_leS (q_leS (q_leS (q_leN (q_leN q_le0))))))) (w_X0_forget_3 n j r hj hr ht o n a2 a3 (0 : Int32) M)

theorem a_X0_forget (g : qG) (l : Launch) (n : Nat) (j r : Nat) (hj : q_isLaw j) (hr : q_isLaw r) {t : Nat} (ht : q_isTown t) (a2 a3 : Int32) (M : qM) : qAM g l 3 zX0_forget (qL j r) [.inr (some 51), .inr (some t), .inl a2, .inl a3] (qL j r, M) (f_X0_forget n t j a2 a3 M) :=
  qAM.of zv_X0_forget.1 (by show 4 ≤ 7; decide) (fun k hk o => w_X0_forget n j r hj hr ht o a2 a3 M)
def tb_X10_addCounted : List (Nat × Instr × Nat) := [(0, (.iload_n 1, 1)), (1, (.bipush 12, 2)), (3, (.imul, 1)), (4, (.iload_n 2, 1)), (5, (.iadd, 1)), (6, (.istore_n 3, 1)), (7, (.aload_n 0, 1)), (8, (.getfield 21, 3)), (11, (.iload_n 3, 1)), (12, (.sipush 999, 3)), (15, (.aload_n 0, 1)), (16, (.getfield 21, 3)), (19, (.iload_n 3, 1)), (20, (.iaload, 1)), (21, (.iconst 1, 1)), (22, (.iadd, 1)), (23, (.invokestatic 55, 3)), (26, (.iastore, 1)), (27, (.return_, 1))]
theorem dm_X10_addCounted : ∀ q ∈ tb_X10_addCounted, decode zX10_addCounted.2.1 q.1 = .ok q.2 := by decide +kernel
def f_X10_addCounted (n : Nat) (t : Nat) (a1 a2 : Int32) (M : qM) : qR :=
  ql ((a1 * (12 : Int32)) + a2) (fun x1 => qg x1 96 (qg x1 96 (qlm (mu M (t + 4) x1.toNatClampNeg (qmin (999 : Int32) ((M (t + 4) x1.toNatClampNeg) + (1 : Int32)))) (fun m2 => some (0, m2)))))
set_option maxRecDepth 4000 in
theorem w_X10_addCounted {g : qG} {k : qK} (n : Nat) (j r : Nat) (hj : q_isLaw j) (hr : q_isLaw r) {t : Nat} (ht : q_isTown t) (o : qOk g 1 zX10_addCounted k) (a1 a2 : Int32) (M : qM) : qAE g k zX10_addCounted (qL j r) 0 [some (.inr (some t)), some (.inl a1), some (.inl a2), none] [] (qL j r, M) (f_X10_addCounted n t a1 a2 M) := by
  unfold f_X10_addCounted
  refine qr_iload_n o (q_dm dm_X10_addCounted 0 rfl) rfl ?_
  refine qr_bipush o (q_dm dm_X10_addCounted 1 rfl) bi_12 ?_
  refine qr_imul o (q_dm dm_X10_addCounted 2 rfl) ?_
  refine qr_iload_n o (q_dm dm_X10_addCounted 3 rfl) rfl ?_
  refine qr_iadd o (q_dm dm_X10_addCounted 4 rfl) ?_
  refine qr_lt (fun x1 => ?_)
  refine qs_istore_n (L' := [some (.inr (some t)), some (.inl a1), some (.inl a2), some (.inl x1)]) o (q_dm dm_X10_addCounted 5 rfl) (Nat.le_of_ble_eq_true rfl) rfl ?_
  refine qr_aload_n o (q_dm dm_X10_addCounted 6 rfl) rfl ?_
  refine qr_getr (kf := 3) o cf_X10 (shT0 j r ht) rfl (Nat.le_of_ble_eq_true rfl) fl_X10_21 (q_dm dm_X10_addCounted 7 rfl) ?_
  refine qr_iload_n o (q_dm dm_X10_addCounted 8 rfl) rfl ?_
  refine qr_sipush o (q_dm dm_X10_addCounted 9 rfl) si_999 ?_
  refine qr_aload_n o (q_dm dm_X10_addCounted 10 rfl) rfl ?_
  refine qr_getr (kf := 3) o cf_X10 (shT0 j r ht) rfl (Nat.le_of_ble_eq_true rfl) fl_X10_21 (q_dm dm_X10_addCounted 11 rfl) ?_
  refine qr_iload_n o (q_dm dm_X10_addCounted 12 rfl) rfl ?_
  refine qr_iald o (shT4 j r ht) (q_dm dm_X10_addCounted 13 rfl) ?_
  refine qr_iconst o (q_dm dm_X10_addCounted 14 rfl) ic_1 ?_
  refine qr_iadd o (q_dm dm_X10_addCounted 15 rfl) ?_
  refine qr_min o ml_X10_55 (by omega) (Nat.le_of_ble_eq_true rfl) (q_dm dm_X10_addCounted 16 rfl) ?_
  refine qr_iast o (shT4 j r ht) (q_dm dm_X10_addCounted 17 rfl) ?_
  refine qr_letm (fun m2 => ?_)
  exact qr_vret o rfl (q_dm dm_X10_addCounted 18 rfl)

theorem a_X10_addCounted (g : qG) (l : Launch) (n : Nat) (j r : Nat) (hj : q_isLaw j) (hr : q_isLaw r) {t : Nat} (ht : q_isTown t) (a1 a2 : Int32) (M : qM) : qAM g l 1 zX10_addCounted (qL j r) [.inr (some t), .inl a1, .inl a2] (qL j r, M) (f_X10_addCounted n t a1 a2 M) :=
  qAM.of zv_X10_addCounted.1 (by show 3 ≤ 4; decide) (fun k hk o => w_X10_addCounted n j r hj hr ht o a1 a2 M)
def tb_X10_addTry : List (Nat × Instr × Nat) := [(0, (.iload_n 1, 1)), (1, (.bipush 12, 2)), (3, (.imul, 1)), (4, (.iload_n 2, 1)), (5, (.iadd, 1)), (6, (.istore_n 3, 1)), (7, (.aload_n 0, 1)), (8, (.getfield 15, 3)), (11, (.iload_n 3, 1)), (12, (.sipush 999, 3)), (15, (.aload_n 0, 1)), (16, (.getfield 15, 3)), (19, (.iload_n 3, 1)), (20, (.iaload, 1)), (21, (.iconst 1, 1)), (22, (.iadd, 1)), (23, (.invokestatic 55, 3)), (26, (.iastore, 1)), (27, (.aload_n 0, 1)), (28, (.getfield 18, 3)), (31, (.iload_n 3, 1)), (32, (.aload_n 0, 1)), (33, (.getfield 46, 3)), (36, (.iastore, 1)), (37, (.return_, 1))]
theorem dm_X10_addTry : ∀ q ∈ tb_X10_addTry, decode zX10_addTry.2.1 q.1 = .ok q.2 := by decide +kernel
def f_X10_addTry (n : Nat) (t : Nat) (a1 a2 : Int32) (M : qM) : qR :=
  ql ((a1 * (12 : Int32)) + a2) (fun x1 => qg x1 96 (qg x1 96 (qlm (mu M (t + 2) x1.toNatClampNeg (qmin (999 : Int32) ((M (t + 2) x1.toNatClampNeg) + (1 : Int32)))) (fun m2 => qg x1 96 (qlm (mu m2 (t + 3) x1.toNatClampNeg (m2 t 9)) (fun m3 => some (0, m3)))))))
set_option maxRecDepth 4000 in
theorem w_X10_addTry {g : qG} {k : qK} (n : Nat) (j r : Nat) (hj : q_isLaw j) (hr : q_isLaw r) {t : Nat} (ht : q_isTown t) (o : qOk g 1 zX10_addTry k) (a1 a2 : Int32) (M : qM) : qAE g k zX10_addTry (qL j r) 0 [some (.inr (some t)), some (.inl a1), some (.inl a2), none] [] (qL j r, M) (f_X10_addTry n t a1 a2 M) := by
  unfold f_X10_addTry
  refine qr_iload_n o (q_dm dm_X10_addTry 0 rfl) rfl ?_
  refine qr_bipush o (q_dm dm_X10_addTry 1 rfl) bi_12 ?_
  refine qr_imul o (q_dm dm_X10_addTry 2 rfl) ?_
  refine qr_iload_n o (q_dm dm_X10_addTry 3 rfl) rfl ?_
  refine qr_iadd o (q_dm dm_X10_addTry 4 rfl) ?_
  refine qr_lt (fun x1 => ?_)
  refine qs_istore_n (L' := [some (.inr (some t)), some (.inl a1), some (.inl a2), some (.inl x1)]) o (q_dm dm_X10_addTry 5 rfl) (Nat.le_of_ble_eq_true rfl) rfl ?_
  refine qr_aload_n o (q_dm dm_X10_addTry 6 rfl) rfl ?_
  refine qr_getr (kf := 1) o cf_X10 (shT0 j r ht) rfl (Nat.le_of_ble_eq_true rfl) fl_X10_15 (q_dm dm_X10_addTry 7 rfl) ?_
  refine qr_iload_n o (q_dm dm_X10_addTry 8 rfl) rfl ?_
  refine qr_sipush o (q_dm dm_X10_addTry 9 rfl) si_999 ?_
  refine qr_aload_n o (q_dm dm_X10_addTry 10 rfl) rfl ?_
  refine qr_getr (kf := 1) o cf_X10 (shT0 j r ht) rfl (Nat.le_of_ble_eq_true rfl) fl_X10_15 (q_dm dm_X10_addTry 11 rfl) ?_
  refine qr_iload_n o (q_dm dm_X10_addTry 12 rfl) rfl ?_
  refine qr_iald o (shT2 j r ht) (q_dm dm_X10_addTry 13 rfl) ?_
  refine qr_iconst o (q_dm dm_X10_addTry 14 rfl) ic_1 ?_
  refine qr_iadd o (q_dm dm_X10_addTry 15 rfl) ?_
  refine qr_min o ml_X10_55 (by omega) (Nat.le_of_ble_eq_true rfl) (q_dm dm_X10_addTry 16 rfl) ?_
  refine qr_iast o (shT2 j r ht) (q_dm dm_X10_addTry 17 rfl) ?_
  refine qr_letm (fun m2 => ?_)
  refine qr_aload_n o (q_dm dm_X10_addTry 18 rfl) rfl ?_
  refine qr_getr (kf := 2) o cf_X10 (shT0 j r ht) rfl (Nat.le_of_ble_eq_true rfl) fl_X10_18 (q_dm dm_X10_addTry 19 rfl) ?_
  refine qr_iload_n o (q_dm dm_X10_addTry 20 rfl) rfl ?_
  refine qr_aload_n o (q_dm dm_X10_addTry 21 rfl) rfl ?_
  refine qr_getf (kf := 9) o cf_X10 (shT0 j r ht) rfl (Nat.le_of_ble_eq_true rfl) fl_X10_46 (q_dm dm_X10_addTry 22 rfl) ?_
  refine qr_iast o (shT3 j r ht) (q_dm dm_X10_addTry 23 rfl) ?_
  refine qr_letm (fun m3 => ?_)
  exact qr_vret o rfl (q_dm dm_X10_addTry 24 rfl)

theorem a_X10_addTry (g : qG) (l : Launch) (n : Nat) (j r : Nat) (hj : q_isLaw j) (hr : q_isLaw r) {t : Nat} (ht : q_isTown t) (a1 a2 : Int32) (M : qM) : qAM g l 1 zX10_addTry (qL j r) [.inr (some t), .inl a1, .inl a2] (qL j r, M) (f_X10_addTry n t a1 a2 M) :=
  qAM.of zv_X10_addTry.1 (by show 3 ≤ 4; decide) (fun k hk o => w_X10_addTry n j r hj hr ht o a1 a2 M)
end
section
def tb_X10_hasCounted : List (Nat × Instr × Nat) := [(0, (.iconst 0, 1)), (1, (.istore_n 3, 1)), (2, (.iload_n 3, 1)), (3, (.bipush 12, 2)), (5, (.if_icmp .ge 34, 3)), (8, (.iload_n 2, 1)), (9, (.iload_n 3, 1)), (10, (.ishr, 1)), (11, (.iconst 1, 1)), (12, (.iand, 1)), (13, (.iconst 1, 1)), (14, (.if_icmp .ne 19, 3)), (17, (.aload_n 0, 1)), (18, (.getfield 21, 3)), (21, (.iload_n 1, 1)), (22, (.bipush 12, 2)), (24, (.imul, 1)), (25, (.iload_n 3, 1)), (26, (.iadd, 1)), (27, (.iaload, 1)), (28, (.ifCond .ne 5, 3)), (31, (.iconst 0, 1)), (32, (.ireturn, 1)), (33, (.iinc 3 1, 3)), (36, (.goto (-34), 3)), (39, (.iconst 1, 1)), (40, (.ireturn, 1))]
theorem dm_X10_hasCounted : ∀ q ∈ tb_X10_hasCounted, decode zX10_hasCounted.2.1 q.1 = .ok q.2 := by decide +kernel
def b_X10_hasCounted_2 (n : Nat) (t : Nat) (K2 : Int32 → Int32 → Int32 → qM → qR) (a1 a2 a3 : Int32) (M : qM) : qR :=
  (if (12 : Int32) ≤ a3 then some ((1 : Int32), M) else (if ((a2 >>> (a3 &&& 31)) &&& (1 : Int32)) = (1 : Int32) then qg ((a1 * (12 : Int32)) + a3) 96 ((if (M (t + 4) ((a1 * (12 : Int32)) + a3).toNatClampNeg) = (0 : Int32) then some ((0 : Int32), M) else ql (a3 + (1 : Int32)) (fun x2 => K2 a1 a2 x2 M))) else ql (a3 + (1 : Int32)) (fun x1 => K2 a1 a2 x1 M)))
set_option maxRecDepth 4000 in
theorem wb_X10_hasCounted_2 {g : qG} {k : qK} (n : Nat) (j r : Nat) (hj : q_isLaw j) (hr : q_isLaw r) {t : Nat} (ht : q_isTown t) (o : qOk g 0 zX10_hasCounted k) (K2 : Int32 → Int32 → Int32 → qM → qR) (hK2 : ∀ (a1 a2 a3 : Int32) (M : qM), qAE g k zX10_hasCounted (qL j r) 2 [some (.inr (some t)), some (.inl a1), some (.inl a2), some (.inl a3)] [] (qL j r, M) (K2 a1 a2 a3 M)) (a1 a2 a3 : Int32) (M : qM) : qAE g k zX10_hasCounted (qL j r) 2 [some (.inr (some t)), some (.inl a1), some (.inl a2), some (.inl a3)] [] (qL j r, M) (b_X10_hasCounted_2 n t K2 a1 a2 a3 M) := by
  unfold b_X10_hasCounted_2
  refine qr_iload_n o (q_dm dm_X10_hasCounted 2 rfl) rfl ?_
  refine qr_bipush o (q_dm dm_X10_hasCounted 3 rfl) bi_12 ?_
  refine qr_icmp_ge (tgt := 39) o (q_dm dm_X10_hasCounted 4 rfl) (by decide) ?_ ?_
  · refine qr_iconst o (q_dm dm_X10_hasCounted 25 rfl) ic_1 ?_
    exact qr_iret o rfl (by decide) (q_dm dm_X10_hasCounted 26 rfl)
  · refine qr_iload_n o (q_dm dm_X10_hasCounted 5 rfl) rfl ?_
    refine qr_iload_n o (q_dm dm_X10_hasCounted 6 rfl) rfl ?_
    refine qr_ishr o (q_dm dm_X10_hasCounted 7 rfl) ?_
    refine qr_iconst o (q_dm dm_X10_hasCounted 8 rfl) ic_1 ?_
    refine qr_iand o (q_dm dm_X10_hasCounted 9 rfl) ?_
    refine qr_iconst o (q_dm dm_X10_hasCounted 10 rfl) ic_1 ?_
    refine qr_icmp_ne (tgt := 33) o (q_dm dm_X10_hasCounted 11 rfl) (by decide) ?_ ?_
    · refine qs_iincl2 (L' := fun x1 => [some (.inr (some t)), some (.inl a1), some (.inl a2), some (.inl x1)]) o (q_dm dm_X10_hasCounted 23 rfl) rfl ic_1 (Nat.le_of_ble_eq_true rfl) (fun _ => rfl) (fun x1 => ?_)
      refine qr_goto (tgt := 2) o (q_dm dm_X10_hasCounted 24 rfl) (by decide) ?_
      exact qr_loc (q_leS (q_leS (q_leS (q_leS q_le0)))) (hK2 a1 a2 x1 M)
    · refine qr_aload_n o (q_dm dm_X10_hasCounted 12 rfl) rfl ?_
      refine qr_getr (kf := 3) o cf_X10 (shT0 j r ht) rfl (Nat.le_of_ble_eq_true rfl) fl_X10_21 (q_dm dm_X10_hasCounted 13 rfl) ?_
      refine qr_iload_n o (q_dm dm_X10_hasCounted 14 rfl) rfl ?_
      refine qr_bipush o (q_dm dm_X10_hasCounted 15 rfl) bi_12 ?_
      refine qr_imul o (q_dm dm_X10_hasCounted 16 rfl) ?_
      refine qr_iload_n o (q_dm dm_X10_hasCounted 17 rfl) rfl ?_
      refine qr_iadd o (q_dm dm_X10_hasCounted 18 rfl) ?_
      refine qr_iald o (shT4 j r ht) (q_dm dm_X10_hasCounted 19 rfl) ?_
      refine qr_if_ne (tgt := 33) o (q_dm dm_X10_hasCounted 20 rfl) (by decide) ?_ ?_
      · refine qs_iincl2 (L' := fun x2 => [some (.inr (some t)), some (.inl a1), some (.inl a2), some (.inl x2)]) o (q_dm dm_X10_hasCounted 23 rfl) rfl ic_1 (Nat.le_of_ble_eq_true rfl) (fun _ => rfl) (fun x2 => ?_)
        refine qr_goto (tgt := 2) o (q_dm dm_X10_hasCounted 24 rfl) (by decide) ?_
        exact qr_loc (q_leS (q_leS (q_leS (q_leS q_le0)))) (hK2 a1 a2 x2 M)
      · refine qr_iconst o (q_dm dm_X10_hasCounted 21 rfl) ic_0 ?_
        exact qr_iret o rfl (by decide) (q_dm dm_X10_hasCounted 22 rfl)

def f_X10_hasCounted_2 (n : Nat) (t : Nat) : Nat → Int32 → Int32 → Int32 → qM → qR
  | 0, _, _, _, _ => none
  | m + 1, a1, a2, a3, M => b_X10_hasCounted_2 n t (f_X10_hasCounted_2 n t m) a1 a2 a3 M
theorem w_X10_hasCounted_2 {g : qG} {k : qK} (n : Nat) (j r : Nat) (hj : q_isLaw j) (hr : q_isLaw r) {t : Nat} (ht : q_isTown t) (o : qOk g 0 zX10_hasCounted k) : ∀ (m : Nat) (a1 a2 a3 : Int32) (M : qM), qAE g k zX10_hasCounted (qL j r) 2 [some (.inr (some t)), some (.inl a1), some (.inl a2), some (.inl a3)] [] (qL j r, M) (f_X10_hasCounted_2 n t m a1 a2 a3 M) := by
  intro m
  induction m with
  | zero =>
    intro a1 a2 a3 M
    exact qr_none
  | succ m ih =>
    intro a1 a2 a3 M
    exact wb_X10_hasCounted_2 n j r hj hr ht o (f_X10_hasCounted_2 n t m) ih a1 a2 a3 M
def f_X10_hasCounted (n : Nat) (t : Nat) (a1 a2 : Int32) (M : qM) : qR :=
  f_X10_hasCounted_2 n t n a1 a2 (0 : Int32) M
set_option maxRecDepth 4000 in
theorem w_X10_hasCounted {g : qG} {k : qK} (n : Nat) (j r : Nat) (hj : q_isLaw j) (hr : q_isLaw r) {t : Nat} (ht : q_isTown t) (o : qOk g 0 zX10_hasCounted k) (a1 a2 : Int32) (M : qM) : qAE g k zX10_hasCounted (qL j r) 0 [some (.inr (some t)), some (.inl a1), some (.inl a2), none] [] (qL j r, M) (f_X10_hasCounted n t a1 a2 M) := by
  unfold f_X10_hasCounted
  refine qr_iconst o (q_dm dm_X10_hasCounted 0 rfl) ic_0 ?_
  refine qs_istore_n (L' := [some (.inr (some t)), some (.inl a1), some (.inl a2), some (.inl (0 : Int32))]) o (q_dm dm_X10_hasCounted 1 rfl) (Nat.le_of_ble_eq_true rfl) rfl ?_
  exact qr_loc (q_leS (q_leS (q_leS (q_leS q_le0)))) (w_X10_hasCounted_2 n j r hj hr ht o n a1 a2 (0 : Int32) M)

theorem a_X10_hasCounted (g : qG) (l : Launch) (n : Nat) (j r : Nat) (hj : q_isLaw j) (hr : q_isLaw r) {t : Nat} (ht : q_isTown t) (a1 a2 : Int32) (M : qM) : qAM g l 0 zX10_hasCounted (qL j r) [.inr (some t), .inl a1, .inl a2] (qL j r, M) (f_X10_hasCounted n t a1 a2 M) :=
  qAM.of zv_X10_hasCounted.1 (by show 3 ≤ 4; decide) (fun k hk o => w_X10_hasCounted n j r hj hr ht o a1 a2 M)
def tb_X10_triesAmong : List (Nat × Instr × Nat) := [(0, (.iconst 0, 1)), (1, (.istore_n 3, 1)), (2, (.iconst 0, 1)), (3, (.istore 4, 2)), (5, (.iload 4, 2)), (7, (.bipush 12, 2)), (9, (.if_icmp .ge 34, 3)), (12, (.iload_n 2, 1)), (13, (.iload 4, 2)), (15, (.ishr, 1)), (16, (.iconst 1, 1)), (17, (.iand, 1)), (18, (.iconst 1, 1)), (19, (.if_icmp .ne 18, 3)), (22, (.iload_n 3, 1)), (23, (.aload_n 0, 1)), (24, (.getfield 15, 3)), (27, (.iload_n 1, 1)), (28, (.bipush 12, 2)), (30, (.imul, 1)), (31, (.iload 4, 2)), (33, (.iadd, 1)), (34, (.iaload, 1)), (35, (.iadd, 1)), (36, (.istore_n 3, 1)), (37, (.iinc 4 1, 3)), (40, (.goto (-35), 3)), (43, (.iload_n 3, 1)), (44, (.ireturn, 1))]
theorem dm_X10_triesAmong : ∀ q ∈ tb_X10_triesAmong, decode zX10_triesAmong.2.1 q.1 = .ok q.2 := by decide +kernel
def b_X10_triesAmong_5 (n : Nat) (t : Nat) (K5 : Int32 → Int32 → Int32 → Int32 → qM → qR) (a1 a2 a3 a4 : Int32) (M : qM) : qR :=
  (if (12 : Int32) ≤ a4 then some (a3, M) else (if ((a2 >>> (a4 &&& 31)) &&& (1 : Int32)) = (1 : Int32) then qg ((a1 * (12 : Int32)) + a4) 96 (ql (a3 + (M (t + 2) ((a1 * (12 : Int32)) + a4).toNatClampNeg)) (fun x2 => ql (a4 + (1 : Int32)) (fun x3 => K5 a1 a2 x2 x3 M))) else ql (a4 + (1 : Int32)) (fun x1 => K5 a1 a2 a3 x1 M)))
set_option maxRecDepth 4000 in
theorem wb_X10_triesAmong_5 {g : qG} {k : qK} (n : Nat) (j r : Nat) (hj : q_isLaw j) (hr : q_isLaw r) {t : Nat} (ht : q_isTown t) (o : qOk g 0 zX10_triesAmong k) (K5 : Int32 → Int32 → Int32 → Int32 → qM → qR) (hK5 : ∀ (a1 a2 a3 a4 : Int32) (M : qM), qAE g k zX10_triesAmong (qL j r) 5 [some (.inr (some t)), some (.inl a1), some (.inl a2), some (.inl a3), some (.inl a4)] [] (qL j r, M) (K5 a1 a2 a3 a4 M)) (a1 a2 a3 a4 : Int32) (M : qM) : qAE g k zX10_triesAmong (qL j r) 5 [some (.inr (some t)), some (.inl a1), some (.inl a2), some (.inl a3), some (.inl a4)] [] (qL j r, M) (b_X10_triesAmong_5 n t K5 a1 a2 a3 a4 M) := by
  unfold b_X10_triesAmong_5
  refine qr_iload o (q_dm dm_X10_triesAmong 4 rfl) rfl ?_
  refine qr_bipush o (q_dm dm_X10_triesAmong 5 rfl) bi_12 ?_
  refine qr_icmp_ge (tgt := 43) o (q_dm dm_X10_triesAmong 6 rfl) (by decide) ?_ ?_
  · refine qr_iload_n o (q_dm dm_X10_triesAmong 27 rfl) rfl ?_
    exact qr_iret o rfl rfl (q_dm dm_X10_triesAmong 28 rfl)
  · refine qr_iload_n o (q_dm dm_X10_triesAmong 7 rfl) rfl ?_
    refine qr_iload o (q_dm dm_X10_triesAmong 8 rfl) rfl ?_
    refine qr_ishr o (q_dm dm_X10_triesAmong 9 rfl) ?_
    refine qr_iconst o (q_dm dm_X10_triesAmong 10 rfl) ic_1 ?_
    refine qr_iand o (q_dm dm_X10_triesAmong 11 rfl) ?_
    refine qr_iconst o (q_dm dm_X10_triesAmong 12 rfl) ic_1 ?_
    refine qr_icmp_ne (tgt := 37) o (q_dm dm_X10_triesAmong 13 rfl) (by decide) ?_ ?_
    · refine qs_iincl2 (L' := fun x1 => [some (.inr (some t)), some (.inl a1), some (.inl a2), some (.inl a3), some (.inl x1)]) o (q_dm dm_X10_triesAmong 25 rfl) rfl ic_1 (Nat.le_of_ble_eq_true rfl) (fun _ => rfl) (fun x1 => ?_)
      refine qr_goto (tgt := 5) o (q_dm dm_X10_triesAmong 26 rfl) (by decide) ?_
      exact qr_loc (q_leS (q_leS (q_leS (q_leS (q_leS q_le0))))) (hK5 a1 a2 a3 x1 M)
    · refine qr_iload_n o (q_dm dm_X10_triesAmong 14 rfl) rfl ?_
      refine qr_aload_n o (q_dm dm_X10_triesAmong 15 rfl) rfl ?_
      refine qr_getr (kf := 1) o cf_X10 (shT0 j r ht) rfl (Nat.le_of_ble_eq_true rfl) fl_X10_15 (q_dm dm_X10_triesAmong 16 rfl) ?_
      refine qr_iload_n o (q_dm dm_X10_triesAmong 17 rfl) rfl ?_
      refine qr_bipush o (q_dm dm_X10_triesAmong 18 rfl) bi_12 ?_
      refine qr_imul o (q_dm dm_X10_triesAmong 19 rfl) ?_
      refine qr_iload o (q_dm dm_X10_triesAmong 20 rfl) rfl ?_
      refine qr_iadd o (q_dm dm_X10_triesAmong 21 rfl) ?_
      refine qr_iald o (shT2 j r ht) (q_dm dm_X10_triesAmong 22 rfl) ?_
      refine qr_iadd o (q_dm dm_X10_triesAmong 23 rfl) ?_
      refine qr_lt (fun x2 => ?_)
      refine qs_istore_n (L' := [some (.inr (some t)), some (.inl a1), some (.inl a2), some (.inl x2), some (.inl a4)]) o (q_dm dm_X10_triesAmong 24 rfl) (Nat.le_of_ble_eq_true rfl) rfl ?_
      refine qs_iincl2 (L' := fun x3 => [some (.inr (some t)), some (.inl a1), some (.inl a2), some (.inl x2), some (.inl x3)]) o (q_dm dm_X10_triesAmong 25 rfl) rfl ic_1 (Nat.le_of_ble_eq_true rfl) (fun _ => rfl) (fun x3 => ?_)
      refine qr_goto (tgt := 5) o (q_dm dm_X10_triesAmong 26 rfl) (by decide) ?_
      exact qr_loc (q_leS (q_leS (q_leS (q_leS (q_leS q_le0))))) (hK5 a1 a2 x2 x3 M)

def f_X10_triesAmong_5 (n : Nat) (t : Nat) : Nat → Int32 → Int32 → Int32 → Int32 → qM → qR
  | 0, _, _, _, _, _ => none
  | m + 1, a1, a2, a3, a4, M => b_X10_triesAmong_5 n t (f_X10_triesAmong_5 n t m) a1 a2 a3 a4 M
theorem w_X10_triesAmong_5 {g : qG} {k : qK} (n : Nat) (j r : Nat) (hj : q_isLaw j) (hr : q_isLaw r) {t : Nat} (ht : q_isTown t) (o : qOk g 0 zX10_triesAmong k) : ∀ (m : Nat) (a1 a2 a3 a4 : Int32) (M : qM), qAE g k zX10_triesAmong (qL j r) 5 [some (.inr (some t)), some (.inl a1), some (.inl a2), some (.inl a3), some (.inl a4)] [] (qL j r, M) (f_X10_triesAmong_5 n t m a1 a2 a3 a4 M) := by
  intro m
  induction m with
  | zero =>
    intro a1 a2 a3 a4 M
    exact qr_none
  | succ m ih =>
    intro a1 a2 a3 a4 M
    exact wb_X10_triesAmong_5 n j r hj hr ht o (f_X10_triesAmong_5 n t m) ih a1 a2 a3 a4 M
def f_X10_triesAmong (n : Nat) (t : Nat) (a1 a2 : Int32) (M : qM) : qR :=
  f_X10_triesAmong_5 n t n a1 a2 (0 : Int32) (0 : Int32) M
set_option maxRecDepth 4000 in
theorem w_X10_triesAmong {g : qG} {k : qK} (n : Nat) (j r : Nat) (hj : q_isLaw j) (hr : q_isLaw r) {t : Nat} (ht : q_isTown t) (o : qOk g 0 zX10_triesAmong k) (a1 a2 : Int32) (M : qM) : qAE g k zX10_triesAmong (qL j r) 0 [some (.inr (some t)), some (.inl a1), some (.inl a2), none, none] [] (qL j r, M) (f_X10_triesAmong n t a1 a2 M) := by
  unfold f_X10_triesAmong
  refine qr_iconst o (q_dm dm_X10_triesAmong 0 rfl) ic_0 ?_
  refine qs_istore_n (L' := [some (.inr (some t)), some (.inl a1), some (.inl a2), some (.inl (0 : Int32)), none]) o (q_dm dm_X10_triesAmong 1 rfl) (Nat.le_of_ble_eq_true rfl) rfl ?_
  refine qr_iconst o (q_dm dm_X10_triesAmong 2 rfl) ic_0 ?_
  refine qs_istore (L' := [some (.inr (some t)), some (.inl a1), some (.inl a2), some (.inl (0 : Int32)), some (.inl (0 : Int32))]) o (q_dm dm_X10_triesAmong 3 rfl) (Nat.le_of_ble_eq_true rfl) rfl ?_
  exact qr_loc (q_leS (q_leS (q_leS (q_leS (q_leS q_le0))))) (w_X10_triesAmong_5 n j r hj hr ht o n a1 a2 (0 : Int32) (0 : Int32) M)

theorem a_X10_triesAmong (g : qG) (l : Launch) (n : Nat) (j r : Nat) (hj : q_isLaw j) (hr : q_isLaw r) {t : Nat} (ht : q_isTown t) (a1 a2 : Int32) (M : qM) : qAM g l 0 zX10_triesAmong (qL j r) [.inr (some t), .inl a1, .inl a2] (qL j r, M) (f_X10_triesAmong n t a1 a2 M) :=
  qAM.of zv_X10_triesAmong.1 (by show 3 ≤ 5; decide) (fun k hk o => w_X10_triesAmong n j r hj hr ht o a1 a2 M)
def tb_X1_isAlike : List (Nat × Instr × Nat) := [(0, (.aload_n 0, 1)), (1, (.getfield 13, 3)), (4, (.iconst 3, 1)), (5, (.iload_n 1, 1)), (6, (.iastore, 1)), (7, (.aload_n 0, 1)), (8, (.getfield 13, 3)), (11, (.iconst 4, 1)), (12, (.aload_n 0, 1)), (13, (.getfield 28, 3)), (16, (.getfield 37, 3)), (19, (.iload_n 1, 1)), (20, (.iaload, 1)), (21, (.iastore, 1)), (22, (.aload_n 0, 1)), (23, (.getfield 13, 3)), (26, (.iconst 5, 1)), (27, (.aload_n 0, 1)), (28, (.getfield 13, 3)), (31, (.iconst 2, 1)), (32, (.iaload, 1)), (33, (.aload_n 0, 1)), (34, (.getfield 28, 3)), (37, (.getfield 37, 3)), (40, (.iload_n 1, 1)), (41, (.iaload, 1)), (42, (.iand, 1)), (43, (.invokestatic 89, 3)), (46, (.iastore, 1)), (47, (.iconst 0, 1)), (48, (.istore_n 2, 1)), (49, (.iload_n 2, 1)), (50, (.aload_n 0, 1)), (51, (.getfield 24, 3)), (54, (.getfield 61, 3)), (57, (.if_icmp .ge 50, 3)), (60, (.aload_n 0, 1)), (61, (.getfield 24, 3)), (64, (.getfield 65, 3)), (67, (.iload_n 2, 1)), (68, (.iaload, 1)), (69, (.bipush 97, 2)), (71, (.if_icmp .ne 30, 3)), (74, (.aload_n 0, 1)), (75, (.aload_n 0, 1)), (76, (.getfield 24, 3)), (79, (.getfield 68, 3)), (82, (.iload_n 2, 1)), (83, (.iaload, 1)), (84, (.aload_n 0, 1)), (85, (.getfield 24, 3)), (88, (.getfield 71, 3)), (91, (.iload_n 2, 1)), (92, (.iaload, 1)), (93, (.invokevirtual 74, 3)), (96, (.ifCond .eq 5, 3)), (99, (.iconst 1, 1)), (100, (.ireturn, 1)), (101, (.iinc 2 1, 3)), (104, (.goto (-55), 3)), (107, (.iconst 0, 1)), (108, (.ireturn, 1))]
theorem dm_X1_isAlike : ∀ q ∈ tb_X1_isAlike, decode zX1_isAlike.2.1 q.1 = .ok q.2 := by decide +kernel
def b_X1_isAlike_49 (n : Nat) (j : Nat) (K49 : Int32 → qM → qR) (a2 : Int32) (M : qM) : qR :=
  (if (M j 7) ≤ a2 then some ((0 : Int32), M) else qg a2 16 ((if (M (j + 3) a2.toNatClampNeg) = (97 : Int32) then qg a2 16 (qg a2 16 (qc (f_X1_run n j (M (j + 5) a2.toNatClampNeg) (M (j + 6) a2.toNatClampNeg) M) (fun r2 m3 => (if r2 = (0 : Int32) then ql (a2 + (1 : Int32)) (fun x4 => K49 x4 m3) else some ((1 : Int32), m3))))) else ql (a2 + (1 : Int32)) (fun x1 => K49 x1 M))))
set_option maxRecDepth 4000 in
theorem wb_X1_isAlike_49 {g : qG} {k : qK} (n : Nat) (j r : Nat) (hj : q_isLaw j) (hr : q_isLaw r) (o : qOk g 2 zX1_isAlike k) (K49 : Int32 → qM → qR) (hK49 : ∀ (a2 : Int32) (M : qM), qAE g k zX1_isAlike (qL j r) 49 [some (.inr (some 34)), none, some (.inl a2)] [] (qL j r, M) (K49 a2 M)) (a2 : Int32) (M : qM) : qAE g k zX1_isAlike (qL j r) 49 [some (.inr (some 34)), none, some (.inl a2)] [] (qL j r, M) (b_X1_isAlike_49 n j K49 a2 M) := by
  unfold b_X1_isAlike_49
  refine qr_iload_n o (q_dm dm_X1_isAlike 31 rfl) rfl ?_
  refine qr_aload_n o (q_dm dm_X1_isAlike 32 rfl) rfl ?_
  refine qr_getr (kf := 3) o cf_X1 (sh34 j r) rfl (Nat.le_of_ble_eq_true rfl) fl_X1_24 (q_dm dm_X1_isAlike 33 rfl) ?_
  refine qr_getf (kf := 7) o cf_X3 (shW0 j r hj) rfl (Nat.le_of_ble_eq_true rfl) fl_X1_61 (q_dm dm_X1_isAlike 34 rfl) ?_
  refine qr_icmp_ge (tgt := 107) o (q_dm dm_X1_isAlike 35 rfl) (by decide) ?_ ?_
  · refine qr_iconst o (q_dm dm_X1_isAlike 60 rfl) ic_0 ?_
    exact qr_iret o rfl (by decide) (q_dm dm_X1_isAlike 61 rfl)
  · refine qr_aload_n o (q_dm dm_X1_isAlike 36 rfl) rfl ?_
    refine qr_getr (kf := 3) o cf_X1 (sh34 j r) rfl (Nat.le_of_ble_eq_true rfl) fl_X1_24 (q_dm dm_X1_isAlike 37 rfl) ?_
    refine qr_getr (kf := 2) o cf_X3 (shW0 j r hj) rfl (Nat.le_of_ble_eq_true rfl) fl_X1_65 (q_dm dm_X1_isAlike 38 rfl) ?_
    refine qr_iload_n o (q_dm dm_X1_isAlike 39 rfl) rfl ?_
    refine qr_iald o (shW3 j r hj) (q_dm dm_X1_isAlike 40 rfl) ?_
    refine qr_bipush o (q_dm dm_X1_isAlike 41 rfl) bi_97 ?_
    refine qr_icmp_ne (tgt := 101) o (q_dm dm_X1_isAlike 42 rfl) (by decide) ?_ ?_
    · refine qs_iincl2 (L' := fun x1 => [some (.inr (some 34)), none, some (.inl x1)]) o (q_dm dm_X1_isAlike 58 rfl) rfl ic_1 (Nat.le_of_ble_eq_true rfl) (fun _ => rfl) (fun x1 => ?_)
      refine qr_goto (tgt := 49) o (q_dm dm_X1_isAlike 59 rfl) (by decide) ?_
      exact qr_loc (q_leS (q_leN (q_leS q_le0))) (hK49 x1 M)
    · refine qr_aload_n o (q_dm dm_X1_isAlike 43 rfl) rfl ?_
      refine qr_aload_n o (q_dm dm_X1_isAlike 44 rfl) rfl ?_
      refine qr_getr (kf := 3) o cf_X1 (sh34 j r) rfl (Nat.le_of_ble_eq_true rfl) fl_X1_24 (q_dm dm_X1_isAlike 45 rfl) ?_
      refine qr_getr (kf := 4) o cf_X3 (shW0 j r hj) rfl (Nat.le_of_ble_eq_true rfl) fl_X1_68 (q_dm dm_X1_isAlike 46 rfl) ?_
      refine qr_iload_n o (q_dm dm_X1_isAlike 47 rfl) rfl ?_
      refine qr_iald o (shW5 j r hj) (q_dm dm_X1_isAlike 48 rfl) ?_
      refine qr_aload_n o (q_dm dm_X1_isAlike 49 rfl) rfl ?_
      refine qr_getr (kf := 3) o cf_X1 (sh34 j r) rfl (Nat.le_of_ble_eq_true rfl) fl_X1_24 (q_dm dm_X1_isAlike 50 rfl) ?_
      refine qr_getr (kf := 5) o cf_X3 (shW0 j r hj) rfl (Nat.le_of_ble_eq_true rfl) fl_X1_71 (q_dm dm_X1_isAlike 51 rfl) ?_
      refine qr_iload_n o (q_dm dm_X1_isAlike 52 rfl) rfl ?_
      refine qr_iald o (shW6 j r hj) (q_dm dm_X1_isAlike 53 rfl) ?_
      refine qr_callv_i (As := [.inl (M (j + 5) a2.toNatClampNeg), .inl (M (j + 6) a2.toNatClampNeg)]) (S := []) o (a_X1_run g k.2.1 n j r hj hr (M (j + 5) a2.toNatClampNeg) (M (j + 6) a2.toNatClampNeg) M) (Nat.le_of_ble_eq_true rfl) zv_X1_run rfl cf_X1 (sh34 j r) ml_X1_74 (Nat.le_of_ble_eq_true rfl) (q_dm dm_X1_isAlike 54 rfl) (fun r2 m3 => ?_)
      refine qr_if_eq (tgt := 101) o (q_dm dm_X1_isAlike 55 rfl) (by decide) ?_ ?_
      · refine qs_iincl2 (L' := fun x4 => [some (.inr (some 34)), none, some (.inl x4)]) o (q_dm dm_X1_isAlike 58 rfl) rfl ic_1 (Nat.le_of_ble_eq_true rfl) (fun _ => rfl) (fun x4 => ?_)
        refine qr_goto (tgt := 49) o (q_dm dm_X1_isAlike 59 rfl) (by decide) ?_
        exact qr_loc (q_leS (q_leN (q_leS q_le0))) (hK49 x4 m3)
      · refine qr_iconst o (q_dm dm_X1_isAlike 56 rfl) ic_1 ?_
        exact qr_iret o rfl (by decide) (q_dm dm_X1_isAlike 57 rfl)

def f_X1_isAlike_49 (n : Nat) (j : Nat) : Nat → Int32 → qM → qR
  | 0, _, _ => none
  | m + 1, a2, M => b_X1_isAlike_49 n j (f_X1_isAlike_49 n j m) a2 M
theorem w_X1_isAlike_49 {g : qG} {k : qK} (n : Nat) (j r : Nat) (hj : q_isLaw j) (hr : q_isLaw r) (o : qOk g 2 zX1_isAlike k) : ∀ (m : Nat) (a2 : Int32) (M : qM), qAE g k zX1_isAlike (qL j r) 49 [some (.inr (some 34)), none, some (.inl a2)] [] (qL j r, M) (f_X1_isAlike_49 n j m a2 M) := by
  intro m
  induction m with
  | zero =>
    intro a2 M
    exact qr_none
  | succ m ih =>
    intro a2 M
    exact wb_X1_isAlike_49 n j r hj hr o (f_X1_isAlike_49 n j m) ih a2 M
def f_X1_isAlike (n : Nat) (j : Nat) (a1 : Int32) (M : qM) : qR :=
  qlm (mu M 35 3 a1) (fun m1 => qg a1 12 (qlm (mu m1 35 4 (m1 5 a1.toNatClampNeg)) (fun m2 => qg a1 12 (qc (f_J6_bitCount_0f7a4 n ((m2 35 2) &&& (m2 5 a1.toNatClampNeg)) m2) (fun r3 m4 => qlm (mu m4 35 5 r3) (fun m5 => f_X1_isAlike_49 n j n (0 : Int32) m5))))))
set_option maxRecDepth 4000 in
theorem w_X1_isAlike {g : qG} {k : qK} (n : Nat) (j r : Nat) (hj : q_isLaw j) (hr : q_isLaw r) (o : qOk g 2 zX1_isAlike k) (a1 : Int32) (M : qM) : qAE g k zX1_isAlike (qL j r) 0 [some (.inr (some 34)), some (.inl a1), none] [] (qL j r, M) (f_X1_isAlike n j a1 M) := by
  unfold f_X1_isAlike
  refine qr_aload_n o (q_dm dm_X1_isAlike 0 rfl) rfl ?_
  refine qr_getr (kf := 1) o cf_X1 (sh34 j r) rfl (Nat.le_of_ble_eq_true rfl) fl_X1_13 (q_dm dm_X1_isAlike 1 rfl) ?_
  refine qr_iconst o (q_dm dm_X1_isAlike 2 rfl) ic_3 ?_
  refine qr_iload_n o (q_dm dm_X1_isAlike 3 rfl) rfl ?_
  refine qr_iast0 (c := 3) o (sh35 j r) (by decide) (by decide) (q_dm dm_X1_isAlike 4 rfl) ?_
  refine qr_letm (fun m1 => ?_)
  refine qr_aload_n o (q_dm dm_X1_isAlike 5 rfl) rfl ?_
  refine qr_getr (kf := 1) o cf_X1 (sh34 j r) rfl (Nat.le_of_ble_eq_true rfl) fl_X1_13 (q_dm dm_X1_isAlike 6 rfl) ?_
  refine qr_iconst o (q_dm dm_X1_isAlike 7 rfl) ic_4 ?_
  refine qr_aload_n o (q_dm dm_X1_isAlike 8 rfl) rfl ?_
  refine qr_getr (kf := 0) o cf_X1 (sh34 j r) rfl (Nat.le_of_ble_eq_true rfl) fl_X1_28 (q_dm dm_X1_isAlike 9 rfl) ?_
  refine qr_getr (kf := 1) o cf_X2 (sh3 j r) rfl (Nat.le_of_ble_eq_true rfl) fl_X1_37 (q_dm dm_X1_isAlike 10 rfl) ?_
  refine qr_iload_n o (q_dm dm_X1_isAlike 11 rfl) rfl ?_
  refine qr_iald o (sh5 j r) (q_dm dm_X1_isAlike 12 rfl) ?_
  refine qr_iast0 (c := 4) o (sh35 j r) (by decide) (by decide) (q_dm dm_X1_isAlike 13 rfl) ?_
  refine qr_letm (fun m2 => ?_)
  refine qr_aload_n o (q_dm dm_X1_isAlike 14 rfl) rfl ?_
  refine qr_getr (kf := 1) o cf_X1 (sh34 j r) rfl (Nat.le_of_ble_eq_true rfl) fl_X1_13 (q_dm dm_X1_isAlike 15 rfl) ?_
  refine qr_iconst o (q_dm dm_X1_isAlike 16 rfl) ic_5 ?_
  refine qr_aload_n o (q_dm dm_X1_isAlike 17 rfl) rfl ?_
  refine qr_getr (kf := 1) o cf_X1 (sh34 j r) rfl (Nat.le_of_ble_eq_true rfl) fl_X1_13 (q_dm dm_X1_isAlike 18 rfl) ?_
  refine qr_iconst o (q_dm dm_X1_isAlike 19 rfl) ic_2 ?_
  refine qr_iald0 (c := 2) o (sh35 j r) (by decide) (by decide) (q_dm dm_X1_isAlike 20 rfl) ?_
  refine qr_aload_n o (q_dm dm_X1_isAlike 21 rfl) rfl ?_
  refine qr_getr (kf := 0) o cf_X1 (sh34 j r) rfl (Nat.le_of_ble_eq_true rfl) fl_X1_28 (q_dm dm_X1_isAlike 22 rfl) ?_
  refine qr_getr (kf := 1) o cf_X2 (sh3 j r) rfl (Nat.le_of_ble_eq_true rfl) fl_X1_37 (q_dm dm_X1_isAlike 23 rfl) ?_
  refine qr_iload_n o (q_dm dm_X1_isAlike 24 rfl) rfl ?_
  refine qr_iald o (sh5 j r) (q_dm dm_X1_isAlike 25 rfl) ?_
  refine qr_iand o (q_dm dm_X1_isAlike 26 rfl) ?_
  refine qr_calls_i (As := [.inl ((m2 35 2) &&& (m2 5 a1.toNatClampNeg))]) (S := [.inl (5 : Int32), .inr (some 35)]) o (a_J6_bitCount_0f7a4 g k.2.1 n j r hj hr ((m2 35 2) &&& (m2 5 a1.toNatClampNeg)) m2) (Nat.le_of_ble_eq_true rfl) zs_J6_bitCount_0f7a4 rfl ml_X1_89 (Nat.le_of_ble_eq_true rfl) (q_dm dm_X1_isAlike 27 rfl) (fun r3 m4 => ?_)
  refine qr_iast0 (c := 5) o (sh35 j r) (by decide) (by decide) (q_dm dm_X1_isAlike 28 rfl) ?_
  refine qr_letm (fun m5 => ?_)
  refine qr_iconst o (q_dm dm_X1_isAlike 29 rfl) ic_0 ?_
  refine qs_istore_n (L' := [some (.inr (some 34)), some (.inl a1), some (.inl (0 : Int32))]) o (q_dm dm_X1_isAlike 30 rfl) (Nat.le_of_ble_eq_true rfl) rfl ?_
  exact qr_loc (q_leS (q_leN (q_leS q_le0))) (w_X1_isAlike_49 n j r hj hr o n (0 : Int32) m5)

theorem a_X1_isAlike (g : qG) (l : Launch) (n : Nat) (j r : Nat) (hj : q_isLaw j) (hr : q_isLaw r) (a1 : Int32) (M : qM) : qAM g l 2 zX1_isAlike (qL j r) [.inr (some 34), .inl a1] (qL j r, M) (f_X1_isAlike n j a1 M) :=
  qAM.of zv_X1_isAlike.1 (by show 2 ≤ 3; decide) (fun k hk o => w_X1_isAlike n j r hj hr o a1 M)
def tb_X2_knows : List (Nat × Instr × Nat) := [(0, (.iload_n 1, 1)), (1, (.ifCond .lt 25, 3)), (4, (.iload_n 1, 1)), (5, (.bipush 12, 2)), (7, (.if_icmp .ge 19, 3)), (10, (.aload_n 0, 1)), (11, (.getfield 21, 3)), (14, (.iload_n 1, 1)), (15, (.ishr, 1)), (16, (.iconst 1, 1)), (17, (.iand, 1)), (18, (.iconst 1, 1)), (19, (.if_icmp .ne 7, 3)), (22, (.iconst 1, 1)), (23, (.goto 4, 3)), (26, (.iconst 0, 1)), (27, (.ireturn, 1))]
theorem dm_X2_knows : ∀ q ∈ tb_X2_knows, decode zX2_knows.2.1 q.1 = .ok q.2 := by decide +kernel
def f_X2_knows (n : Nat) (a1 : Int32) (M : qM) : qR :=
  (if a1 < (0 : Int32) then some ((0 : Int32), M) else (if (12 : Int32) ≤ a1 then some ((0 : Int32), M) else (if (((M 3 3) >>> (a1 &&& 31)) &&& (1 : Int32)) = (1 : Int32) then some ((1 : Int32), M) else some ((0 : Int32), M))))
set_option maxRecDepth 4000 in
theorem w_X2_knows {g : qG} {k : qK} (n : Nat) (j r : Nat) (hj : q_isLaw j) (hr : q_isLaw r) (o : qOk g 0 zX2_knows k) (a1 : Int32) (M : qM) : qAE g k zX2_knows (qL j r) 0 [some (.inr (some 3)), some (.inl a1)] [] (qL j r, M) (f_X2_knows n a1 M) := by
  unfold f_X2_knows
  refine qr_iload_n o (q_dm dm_X2_knows 0 rfl) rfl ?_
  refine qr_if_lt (tgt := 26) o (q_dm dm_X2_knows 1 rfl) (by decide) ?_ ?_
  · refine qr_iconst o (q_dm dm_X2_knows 15 rfl) ic_0 ?_
    exact qr_iret o rfl (by decide) (q_dm dm_X2_knows 16 rfl)
  · refine qr_iload_n o (q_dm dm_X2_knows 2 rfl) rfl ?_
    refine qr_bipush o (q_dm dm_X2_knows 3 rfl) bi_12 ?_
    refine qr_icmp_ge (tgt := 26) o (q_dm dm_X2_knows 4 rfl) (by decide) ?_ ?_
    · refine qr_iconst o (q_dm dm_X2_knows 15 rfl) ic_0 ?_
      exact qr_iret o rfl (by decide) (q_dm dm_X2_knows 16 rfl)
    · refine qr_aload_n o (q_dm dm_X2_knows 5 rfl) rfl ?_
      refine qr_getf (kf := 3) o cf_X2 (sh3 j r) rfl (Nat.le_of_ble_eq_true rfl) fl_X2_21 (q_dm dm_X2_knows 6 rfl) ?_
      refine qr_iload_n o (q_dm dm_X2_knows 7 rfl) rfl ?_
      refine qr_ishr o (q_dm dm_X2_knows 8 rfl) ?_
      refine qr_iconst o (q_dm dm_X2_knows 9 rfl) ic_1 ?_
      refine qr_iand o (q_dm dm_X2_knows 10 rfl) ?_
      refine qr_iconst o (q_dm dm_X2_knows 11 rfl) ic_1 ?_
      refine qr_icmp_ne (tgt := 26) o (q_dm dm_X2_knows 12 rfl) (by decide) ?_ ?_
      · refine qr_iconst o (q_dm dm_X2_knows 15 rfl) ic_0 ?_
        exact qr_iret o rfl (by decide) (q_dm dm_X2_knows 16 rfl)
      · refine qr_iconst o (q_dm dm_X2_knows 13 rfl) ic_1 ?_
        refine qr_goto (tgt := 27) o (q_dm dm_X2_knows 14 rfl) (by decide) ?_
        exact qr_iret o rfl (by decide) (q_dm dm_X2_knows 16 rfl)

theorem a_X2_knows (g : qG) (l : Launch) (n : Nat) (j r : Nat) (hj : q_isLaw j) (hr : q_isLaw r) (a1 : Int32) (M : qM) : qAM g l 0 zX2_knows (qL j r) [.inr (some 3), .inl a1] (qL j r, M) (f_X2_knows n a1 M) :=
  qAM.of zv_X2_knows.1 (by show 2 ≤ 2; decide) (fun k hk o => w_X2_knows n j r hj hr o a1 M)
def tb_X1_alikes : List (Nat × Instr × Nat) := [(0, (.iconst 0, 1)), (1, (.istore_n 3, 1)), (2, (.aload_n 0, 1)), (3, (.iload_n 1, 1)), (4, (.aload_n 0, 1)), (5, (.getfield 28, 3)), (8, (.getfield 32, 3)), (11, (.iload_n 1, 1)), (12, (.iaload, 1)), (13, (.aload_n 0, 1)), (14, (.getfield 28, 3)), (17, (.getfield 37, 3)), (20, (.iload_n 1, 1)), (21, (.iaload, 1)), (22, (.iload_n 2, 1)), (23, (.invokevirtual 40, 3)), (26, (.iconst 0, 1)), (27, (.istore 4, 2)), (29, (.iload 4, 2)), (31, (.bipush 12, 2)), (33, (.if_icmp .ge 43, 3)), (36, (.iload 4, 2)), (38, (.iload_n 1, 1)), (39, (.if_icmp .eq 24, 3)), (42, (.aload_n 0, 1)), (43, (.getfield 28, 3)), (46, (.iload 4, 2)), (48, (.invokevirtual 48, 3)), (51, (.ifCond .eq 19, 3)), (54, (.aload_n 0, 1)), (55, (.iload 4, 2)), (57, (.invokevirtual 44, 3)), (60, (.ifCond .eq 10, 3)), (63, (.iload_n 3, 1)), (64, (.iconst 1, 1)), (65, (.iload 4, 2)), (67, (.ishl, 1)), (68, (.ior, 1)), (69, (.istore_n 3, 1)), (70, (.iinc 4 1, 3)), (73, (.goto (-44), 3)), (76, (.iload_n 3, 1)), (77, (.ireturn, 1))]
theorem dm_X1_alikes : ∀ q ∈ tb_X1_alikes, decode zX1_alikes.2.1 q.1 = .ok q.2 := by decide +kernel
def f_X1_alikes_63 (n : Nat) (j : Nat) (K29 : Int32 → Int32 → Int32 → qM → qR) (a1 a3 a4 : Int32) (M : qM) : qR :=
  ql (a3 ||| ((1 : Int32) <<< (a4 &&& 31))) (fun x1 => ql (a4 + (1 : Int32)) (fun x2 => K29 a1 x1 x2 M))
set_option maxRecDepth 4000 in
theorem w_X1_alikes_63 {g : qG} {k : qK} (n : Nat) (j r : Nat) (hj : q_isLaw j) (hr : q_isLaw r) (o : qOk g 3 zX1_alikes k) (K29 : Int32 → Int32 → Int32 → qM → qR) (hK29 : ∀ (a1 a3 a4 : Int32) (M : qM), qAE g k zX1_alikes (qL j r) 29 [some (.inr (some 34)), some (.inl a1), none, some (.inl a3), some (.inl a4)] [] (qL j r, M) (K29 a1 a3 a4 M)) (a1 a3 a4 : Int32) (M : qM) : qAE g k zX1_alikes (qL j r) 63 [some (.inr (some 34)), some (.inl a1), none, some (.inl a3), some (.inl a4)] [] (qL j r, M) (f_X1_alikes_63 n j K29 a1 a3 a4 M) := by
  unfold f_X1_alikes_63
  refine qr_iload_n o (q_dm dm_X1_alikes 33 rfl) rfl ?_
  refine qr_iconst o (q_dm dm_X1_alikes 34 rfl) ic_1 ?_
  refine qr_iload o (q_dm dm_X1_alikes 35 rfl) rfl ?_
  refine qr_ishl o (q_dm dm_X1_alikes 36 rfl) ?_
  refine qr_ior o (q_dm dm_X1_alikes 37 rfl) ?_
  refine qr_lt (fun x1 => ?_)
  refine qs_istore_n (L' := [some (.inr (some 34)), some (.inl a1), none, some (.inl x1), some (.inl a4)]) o (q_dm dm_X1_alikes 38 rfl) (Nat.le_of_ble_eq_true rfl) rfl ?_
  refine qs_iincl2 (L' := fun x2 => [some (.inr (some 34)), some (.inl a1), none, some (.inl x1), some (.inl x2)]) o (q_dm dm_X1_alikes 39 rfl) rfl ic_1 (Nat.le_of_ble_eq_true rfl) (fun _ => rfl) (fun x2 => ?_)
  refine qr_goto (tgt := 29) o (q_dm dm_X1_alikes 40 rfl) (by decide) ?_
  exact qr_loc (q_leS (q_leS (q_leN (q_leS (q_leS q_le0))))) (hK29 a1 x1 x2 M)

def b_X1_alikes_29 (n : Nat) (j : Nat) (K29 : Int32 → Int32 → Int32 → qM → qR) (a1 a3 a4 : Int32) (M : qM) : qR :=
  (if (12 : Int32) ≤ a4 then some (a3, M) else (if a4 = a1 then f_X1_alikes_63 n j K29 a1 a3 a4 M else qc (f_X2_knows n a4 M) (fun r1 m2 => (if r1 = (0 : Int32) then ql (a4 + (1 : Int32)) (fun x3 => K29 a1 a3 x3 m2) else qc (f_X1_isAlike n j a4 m2) (fun r4 m5 => (if r4 = (0 : Int32) then ql (a4 + (1 : Int32)) (fun x6 => K29 a1 a3 x6 m5) else f_X1_alikes_63 n j K29 a1 a3 a4 m5))))))
set_option maxRecDepth 4000 in
theorem wb_X1_alikes_29 {g : qG} {k : qK} (n : Nat) (j r : Nat) (hj : q_isLaw j) (hr : q_isLaw r) (o : qOk g 3 zX1_alikes k) (K29 : Int32 → Int32 → Int32 → qM → qR) (hK29 : ∀ (a1 a3 a4 : Int32) (M : qM), qAE g k zX1_alikes (qL j r) 29 [some (.inr (some 34)), some (.inl a1), none, some (.inl a3), some (.inl a4)] [] (qL j r, M) (K29 a1 a3 a4 M)) (a1 a3 a4 : Int32) (M : qM) : qAE g k zX1_alikes (qL j r) 29 [some (.inr (some 34)), some (.inl a1), none, some (.inl a3), some (.inl a4)] [] (qL j r, M) (b_X1_alikes_29 n j K29 a1 a3 a4 M) := by
  unfold b_X1_alikes_29
  refine qr_iload o (q_dm dm_X1_alikes 18 rfl) rfl ?_
  refine qr_bipush o (q_dm dm_X1_alikes 19 rfl) bi_12 ?_
  refine qr_icmp_ge (tgt := 76) o (q_dm dm_X1_alikes 20 rfl) (by decide) ?_ ?_
  · refine qr_iload_n o (q_dm dm_X1_alikes 41 rfl) rfl ?_
    exact qr_iret o rfl rfl (q_dm dm_X1_alikes 42 rfl)
  · refine qr_iload o (q_dm dm_X1_alikes 21 rfl) rfl ?_
    refine qr_iload_n o (q_dm dm_X1_alikes 22 rfl) rfl ?_
    refine qr_icmp_eq (tgt := 63) o (q_dm dm_X1_alikes 23 rfl) (by decide) ?_ ?_
    · exact qr_loc (q_leS (q_leS (q_leN (q_leS (q_leS q_le0))))) (w_X1_alikes_63 n j r hj hr o K29 hK29 a1 a3 a4 M)
    · refine qr_aload_n o (q_dm dm_X1_alikes 24 rfl) rfl ?_
      refine qr_getr (kf := 0) o cf_X1 (sh34 j r) rfl (Nat.le_of_ble_eq_true rfl) fl_X1_28 (q_dm dm_X1_alikes 25 rfl) ?_
      refine qr_iload o (q_dm dm_X1_alikes 26 rfl) rfl ?_
      refine qr_callv_i (As := [.inl a4]) (S := []) o (a_X2_knows g k.2.1 n j r hj hr a4 M) (Nat.le_of_ble_eq_true rfl) zv_X2_knows rfl cf_X2 (sh3 j r) ml_X1_48 (Nat.le_of_ble_eq_true rfl) (q_dm dm_X1_alikes 27 rfl) (fun r1 m2 => ?_)
      refine qr_if_eq (tgt := 70) o (q_dm dm_X1_alikes 28 rfl) (by decide) ?_ ?_
      · refine qs_iincl2 (L' := fun x3 => [some (.inr (some 34)), some (.inl a1), none, some (.inl a3), some (.inl x3)]) o (q_dm dm_X1_alikes 39 rfl) rfl ic_1 (Nat.le_of_ble_eq_true rfl) (fun _ => rfl) (fun x3 => ?_)
        refine qr_goto (tgt := 29) o (q_dm dm_X1_alikes 40 rfl) (by decide) ?_
        exact qr_loc (q_leS (q_leS (q_leN (q_leS (q_leS q_le0))))) (hK29 a1 a3 x3 m2)
      · refine qr_aload_n o (q_dm dm_X1_alikes 29 rfl) rfl ?_
        refine qr_iload o (q_dm dm_X1_alikes 30 rfl) rfl ?_
        refine qr_callv_i (As := [.inl a4]) (S := []) o (a_X1_isAlike g k.2.1 n j r hj hr a4 m2) (Nat.le_of_ble_eq_true rfl) zv_X1_isAlike rfl cf_X1 (sh34 j r) ml_X1_44 (Nat.le_of_ble_eq_true rfl) (q_dm dm_X1_alikes 31 rfl) (fun r4 m5 => ?_)
        refine qr_if_eq (tgt := 70) o (q_dm dm_X1_alikes 32 rfl) (by decide) ?_ ?_
        · refine qs_iincl2 (L' := fun x6 => [some (.inr (some 34)), some (.inl a1), none, some (.inl a3), some (.inl x6)]) o (q_dm dm_X1_alikes 39 rfl) rfl ic_1 (Nat.le_of_ble_eq_true rfl) (fun _ => rfl) (fun x6 => ?_)
          refine qr_goto (tgt := 29) o (q_dm dm_X1_alikes 40 rfl) (by decide) ?_
          exact qr_loc (q_leS (q_leS (q_leN (q_leS (q_leS q_le0))))) (hK29 a1 a3 x6 m5)
        · exact qr_loc (q_leS (q_leS (q_leN (q_leS (q_leS q_le0))))) (w_X1_alikes_63 n j r hj hr o K29 hK29 a1 a3 a4 m5)

def f_X1_alikes_29 (n : Nat) (j : Nat) : Nat → Int32 → Int32 → Int32 → qM → qR
  | 0, _, _, _, _ => none
  | m + 1, a1, a3, a4, M => b_X1_alikes_29 n j (f_X1_alikes_29 n j m) a1 a3 a4 M
theorem w_X1_alikes_29 {g : qG} {k : qK} (n : Nat) (j r : Nat) (hj : q_isLaw j) (hr : q_isLaw r) (o : qOk g 3 zX1_alikes k) : ∀ (m : Nat) (a1 a3 a4 : Int32) (M : qM), qAE g k zX1_alikes (qL j r) 29 [some (.inr (some 34)), some (.inl a1), none, some (.inl a3), some (.inl a4)] [] (qL j r, M) (f_X1_alikes_29 n j m a1 a3 a4 M) := by
  intro m
  induction m with
  | zero =>
    intro a1 a3 a4 M
    exact qr_none
  | succ m ih =>
    intro a1 a3 a4 M
    exact wb_X1_alikes_29 n j r hj hr o (f_X1_alikes_29 n j m) ih a1 a3 a4 M
def f_X1_alikes (n : Nat) (j : Nat) (a1 a2 : Int32) (M : qM) : qR :=
  qg a1 12 (qg a1 12 (qc (f_X1_tellDeed n a1 (M 4 a1.toNatClampNeg) (M 5 a1.toNatClampNeg) a2 M) (fun _ m1 => f_X1_alikes_29 n j n a1 (0 : Int32) (0 : Int32) m1)))
set_option maxRecDepth 4000 in
theorem w_X1_alikes {g : qG} {k : qK} (n : Nat) (j r : Nat) (hj : q_isLaw j) (hr : q_isLaw r) (o : qOk g 3 zX1_alikes k) (a1 a2 : Int32) (M : qM) : qAE g k zX1_alikes (qL j r) 0 [some (.inr (some 34)), some (.inl a1), some (.inl a2), none, none] [] (qL j r, M) (f_X1_alikes n j a1 a2 M) := by
  unfold f_X1_alikes
  refine qr_iconst o (q_dm dm_X1_alikes 0 rfl) ic_0 ?_
  refine qs_istore_n (L' := [some (.inr (some 34)), some (.inl a1), some (.inl a2), some (.inl (0 : Int32)), none]) o (q_dm dm_X1_alikes 1 rfl) (Nat.le_of_ble_eq_true rfl) rfl ?_
  refine qr_aload_n o (q_dm dm_X1_alikes 2 rfl) rfl ?_
  refine qr_iload_n o (q_dm dm_X1_alikes 3 rfl) rfl ?_
  refine qr_aload_n o (q_dm dm_X1_alikes 4 rfl) rfl ?_
  refine qr_getr (kf := 0) o cf_X1 (sh34 j r) rfl (Nat.le_of_ble_eq_true rfl) fl_X1_28 (q_dm dm_X1_alikes 5 rfl) ?_
  refine qr_getr (kf := 0) o cf_X2 (sh3 j r) rfl (Nat.le_of_ble_eq_true rfl) fl_X1_32 (q_dm dm_X1_alikes 6 rfl) ?_
  refine qr_iload_n o (q_dm dm_X1_alikes 7 rfl) rfl ?_
  refine qr_iald o (sh4 j r) (q_dm dm_X1_alikes 8 rfl) ?_
  refine qr_aload_n o (q_dm dm_X1_alikes 9 rfl) rfl ?_
  refine qr_getr (kf := 0) o cf_X1 (sh34 j r) rfl (Nat.le_of_ble_eq_true rfl) fl_X1_28 (q_dm dm_X1_alikes 10 rfl) ?_
  refine qr_getr (kf := 1) o cf_X2 (sh3 j r) rfl (Nat.le_of_ble_eq_true rfl) fl_X1_37 (q_dm dm_X1_alikes 11 rfl) ?_
  refine qr_iload_n o (q_dm dm_X1_alikes 12 rfl) rfl ?_
  refine qr_iald o (sh5 j r) (q_dm dm_X1_alikes 13 rfl) ?_
  refine qr_iload_n o (q_dm dm_X1_alikes 14 rfl) rfl ?_
  refine qr_callv_v (As := [.inl a1, .inl (M 4 a1.toNatClampNeg), .inl (M 5 a1.toNatClampNeg), .inl a2]) (S := []) o (a_X1_tellDeed g k.2.1 n j r hj hr a1 (M 4 a1.toNatClampNeg) (M 5 a1.toNatClampNeg) a2 M) (Nat.le_of_ble_eq_true rfl) zv_X1_tellDeed rfl cf_X1 (sh34 j r) ml_X1_40 (Nat.le_of_ble_eq_true rfl) (q_dm dm_X1_alikes 15 rfl) (fun _ m1 => ?_)
  refine qr_iconst o (q_dm dm_X1_alikes 16 rfl) ic_0 ?_
  refine qs_istore (L' := [some (.inr (some 34)), some (.inl a1), some (.inl a2), some (.inl (0 : Int32)), some (.inl (0 : Int32))]) o (q_dm dm_X1_alikes 17 rfl) (Nat.le_of_ble_eq_true rfl) rfl ?_
  exact qr_loc (q_leS (q_leS (q_leN (q_leS (q_leS q_le0))))) (w_X1_alikes_29 n j r hj hr o n a1 (0 : Int32) (0 : Int32) m1)

theorem a_X1_alikes (g : qG) (l : Launch) (n : Nat) (j r : Nat) (hj : q_isLaw j) (hr : q_isLaw r) (a1 a2 : Int32) (M : qM) : qAM g l 3 zX1_alikes (qL j r) [.inr (some 34), .inl a1, .inl a2] (qL j r, M) (f_X1_alikes n j a1 a2 M) :=
  qAM.of zv_X1_alikes.1 (by show 3 ≤ 5; decide) (fun k hk o => w_X1_alikes n j r hj hr o a1 a2 M)
def tb_X1_voidTries : List (Nat × Instr × Nat) := [(0, (.aload_n 0, 1)), (1, (.bipush 118, 2)), (3, (.bipush 99, 2)), (5, (.iconst 1, 1)), (6, (.invokevirtual 57, 3)), (9, (.ireturn, 1))]
theorem dm_X1_voidTries : ∀ q ∈ tb_X1_voidTries, decode zX1_voidTries.2.1 q.1 = .ok q.2 := by decide +kernel
def f_X1_voidTries (n : Nat) (j : Nat) (M : qM) : qR :=
  qc (f_X1_amount n j (118 : Int32) (99 : Int32) (1 : Int32) M) (fun r1 m2 => some (r1, m2))
set_option maxRecDepth 4000 in
theorem w_X1_voidTries {g : qG} {k : qK} (n : Nat) (j r : Nat) (hj : q_isLaw j) (hr : q_isLaw r) (o : qOk g 3 zX1_voidTries k) (M : qM) : qAE g k zX1_voidTries (qL j r) 0 [some (.inr (some 34))] [] (qL j r, M) (f_X1_voidTries n j  M) := by
  unfold f_X1_voidTries
  refine qr_aload_n o (q_dm dm_X1_voidTries 0 rfl) rfl ?_
  refine qr_bipush o (q_dm dm_X1_voidTries 1 rfl) bi_118 ?_
  refine qr_bipush o (q_dm dm_X1_voidTries 2 rfl) bi_99 ?_
  refine qr_iconst o (q_dm dm_X1_voidTries 3 rfl) ic_1 ?_
  refine qr_callv_i (As := [.inl (118 : Int32), .inl (99 : Int32), .inl (1 : Int32)]) (S := []) o (a_X1_amount g k.2.1 n j r hj hr (118 : Int32) (99 : Int32) (1 : Int32) M) (Nat.le_of_ble_eq_true rfl) zv_X1_amount rfl cf_X1 (sh34 j r) ml_X1_57 (Nat.le_of_ble_eq_true rfl) (q_dm dm_X1_voidTries 4 rfl) (fun r1 m2 => ?_)
  exact qr_iret o rfl rfl (q_dm dm_X1_voidTries 5 rfl)

theorem a_X1_voidTries (g : qG) (l : Launch) (n : Nat) (j r : Nat) (hj : q_isLaw j) (hr : q_isLaw r) (M : qM) : qAM g l 3 zX1_voidTries (qL j r) [.inr (some 34)] (qL j r, M) (f_X1_voidTries n j  M) :=
  qAM.of zv_X1_voidTries.1 (by show 1 ≤ 1; decide) (fun k hk o => w_X1_voidTries n j r hj hr o  M)
def tb_X0_attempt : List (Nat × Instr × Nat) := [(0, (.aload_n 0, 1)), (1, (.getfield 15, 3)), (4, (.iload_n 3, 1)), (5, (.aload_n 1, 1)), (6, (.getfield 19, 3)), (9, (.invokevirtual 25, 3)), (12, (.istore 5, 2)), (14, (.aload_n 0, 1)), (15, (.aload_n 1, 1)), (16, (.iload_n 2, 1)), (17, (.iload 5, 2)), (19, (.invokevirtual 31, 3)), (22, (.aload_n 0, 1)), (23, (.aload_n 1, 1)), (24, (.iload_n 2, 1)), (25, (.iload 5, 2)), (27, (.invokevirtual 35, 3)), (30, (.putfield 38, 3)), (33, (.aload_n 0, 1)), (34, (.aload_n 1, 1)), (35, (.iload_n 2, 1)), (36, (.iload_n 3, 1)), (37, (.iload 4, 2)), (39, (.invokevirtual 41, 3)), (42, (.aload_n 0, 1)), (43, (.aload_n 0, 1)), (44, (.getfield 15, 3)), (47, (.invokevirtual 45, 3)), (50, (.putfield 49, 3)), (53, (.aload_n 1, 1)), (54, (.iload_n 2, 1)), (55, (.iload_n 3, 1)), (56, (.invokevirtual 52, 3)), (59, (.aload_n 0, 1)), (60, (.getfield 38, 3)), (63, (.aload_n 0, 1)), (64, (.getfield 49, 3)), (67, (.if_icmp .ge 5, 3)), (70, (.iconst 0, 1)), (71, (.ireturn, 1)), (72, (.aload_n 1, 1)), (73, (.iload_n 2, 1)), (74, (.aload_n 0, 1)), (75, (.getfield 9, 3)), (78, (.getfield 56, 3)), (81, (.iload_n 3, 1)), (82, (.iaload, 1)), (83, (.invokevirtual 62, 3)), (86, (.ifCond .ne 6, 3)), (89, (.bipush (-2), 2)), (91, (.ireturn, 1)), (92, (.aload_n 1, 1)), (93, (.iload_n 2, 1)), (94, (.iload_n 3, 1)), (95, (.invokevirtual 66, 3)), (98, (.iconst 1, 1)), (99, (.ireturn, 1))]
theorem dm_X0_attempt : ∀ q ∈ tb_X0_attempt, decode zX0_attempt.2.1 q.1 = .ok q.2 := by decide +kernel
def f_X0_attempt (n : Nat) (t j : Nat) (a2 a3 a4 : Int32) (M : qM) : qR :=
  qc (f_X1_alikes n j a3 (M t 9) M) (fun r1 m2 => qc (f_X0_forget n t j a2 r1 m2) (fun _ m3 => qc (f_X10_triesAmong n t a2 r1 m3) (fun r4 m5 => qlm (mu m5 51 2 r4) (fun m6 => qc (f_X0_tellAll n t a2 a3 a4 m6) (fun _ m7 => qc (f_X1_voidTries n j m7) (fun r8 m9 => qlm (mu m9 51 3 r8) (fun m10 => qc (f_X10_addTry n t a2 a3 m10) (fun _ m11 => (if (m11 51 3) ≤ (m11 51 2) then qg a3 12 (qc (f_X10_hasCounted n t a2 (m11 6 a3.toNatClampNeg) m11) (fun r12 m13 => (if r12 = (0 : Int32) then some ((-2 : Int32), m13) else qc (f_X10_addCounted n t a2 a3 m13) (fun _ m14 => some ((1 : Int32), m14))))) else some ((0 : Int32), m11))))))))))
set_option maxRecDepth 4000 in
theorem w_X0_attempt {g : qG} {k : qK} (n : Nat) (j r : Nat) (hj : q_isLaw j) (hr : q_isLaw r) {t : Nat} (ht : q_isTown t) (o : qOk g 4 zX0_attempt k) (a2 a3 a4 : Int32) (M : qM) : qAE g k zX0_attempt (qL j r) 0 [some (.inr (some 51)), some (.inr (some t)), some (.inl a2), some (.inl a3), some (.inl a4), none] [] (qL j r, M) (f_X0_attempt n t j a2 a3 a4 M) := by
  unfold f_X0_attempt
  refine qr_aload_n o (q_dm dm_X0_attempt 0 rfl) rfl ?_
  refine qr_getr (kf := 1) o cf_X0 (sh51 j r) rfl (Nat.le_of_ble_eq_true rfl) fl_X0_15 (q_dm dm_X0_attempt 1 rfl) ?_
  refine qr_iload_n o (q_dm dm_X0_attempt 2 rfl) rfl ?_
  refine qr_aload_n o (q_dm dm_X0_attempt 3 rfl) rfl ?_
  refine qr_getf (kf := 9) o cf_X10 (shT0 j r ht) rfl (Nat.le_of_ble_eq_true rfl) fl_X0_19 (q_dm dm_X0_attempt 4 rfl) ?_
  refine qr_callv_i (As := [.inl a3, .inl (M t 9)]) (S := []) o (a_X1_alikes g k.2.1 n j r hj hr a3 (M t 9) M) (Nat.le_of_ble_eq_true rfl) zv_X1_alikes rfl cf_X1 (sh34 j r) ml_X0_25 (Nat.le_of_ble_eq_true rfl) (q_dm dm_X0_attempt 5 rfl) (fun r1 m2 => ?_)
  refine qs_istore (L' := [some (.inr (some 51)), some (.inr (some t)), some (.inl a2), some (.inl a3), some (.inl a4), some (.inl r1)]) o (q_dm dm_X0_attempt 6 rfl) (Nat.le_of_ble_eq_true rfl) rfl ?_
  refine qr_aload_n o (q_dm dm_X0_attempt 7 rfl) rfl ?_
  refine qr_aload_n o (q_dm dm_X0_attempt 8 rfl) rfl ?_
  refine qr_iload_n o (q_dm dm_X0_attempt 9 rfl) rfl ?_
  refine qr_iload o (q_dm dm_X0_attempt 10 rfl) rfl ?_
  refine qr_callv_v (As := [.inr (some t), .inl a2, .inl r1]) (S := []) o (a_X0_forget g k.2.1 n j r hj hr ht a2 r1 m2) (Nat.le_of_ble_eq_true rfl) zv_X0_forget rfl cf_X0 (sh51 j r) ml_X0_31 (Nat.le_of_ble_eq_true rfl) (q_dm dm_X0_attempt 11 rfl) (fun _ m3 => ?_)
  refine qr_aload_n o (q_dm dm_X0_attempt 12 rfl) rfl ?_
  refine qr_aload_n o (q_dm dm_X0_attempt 13 rfl) rfl ?_
  refine qr_iload_n o (q_dm dm_X0_attempt 14 rfl) rfl ?_
  refine qr_iload o (q_dm dm_X0_attempt 15 rfl) rfl ?_
  refine qr_callv_i (As := [.inl a2, .inl r1]) (S := [.inr (some 51)]) o (a_X10_triesAmong g k.2.1 n j r hj hr ht a2 r1 m3) (Nat.le_of_ble_eq_true rfl) zv_X10_triesAmong rfl cf_X10 (shT0 j r ht) ml_X0_35 (Nat.le_of_ble_eq_true rfl) (q_dm dm_X0_attempt 16 rfl) (fun r4 m5 => ?_)
  refine qr_putf (kf := 2) o cf_X0 (sh51 j r) rfl (Nat.le_of_ble_eq_true rfl) fl_X0_38 rfl (by decide +kernel) (q_dm dm_X0_attempt 17 rfl) ?_
  refine qr_letm (fun m6 => ?_)
  refine qr_aload_n o (q_dm dm_X0_attempt 18 rfl) rfl ?_
  refine qr_aload_n o (q_dm dm_X0_attempt 19 rfl) rfl ?_
  refine qr_iload_n o (q_dm dm_X0_attempt 20 rfl) rfl ?_
  refine qr_iload_n o (q_dm dm_X0_attempt 21 rfl) rfl ?_
  refine qr_iload o (q_dm dm_X0_attempt 22 rfl) rfl ?_
  refine qr_callv_v (As := [.inr (some t), .inl a2, .inl a3, .inl a4]) (S := []) o (a_X0_tellAll g k.2.1 n j r hj hr ht a2 a3 a4 m6) (Nat.le_of_ble_eq_true rfl) zv_X0_tellAll rfl cf_X0 (sh51 j r) ml_X0_41 (Nat.le_of_ble_eq_true rfl) (q_dm dm_X0_attempt 23 rfl) (fun _ m7 => ?_)
  refine qr_aload_n o (q_dm dm_X0_attempt 24 rfl) rfl ?_
  refine qr_aload_n o (q_dm dm_X0_attempt 25 rfl) rfl ?_
  refine qr_getr (kf := 1) o cf_X0 (sh51 j r) rfl (Nat.le_of_ble_eq_true rfl) fl_X0_15 (q_dm dm_X0_attempt 26 rfl) ?_
  refine qr_callv_i (As := []) (S := [.inr (some 51)]) o (a_X1_voidTries g k.2.1 n j r hj hr  m7) (Nat.le_of_ble_eq_true rfl) zv_X1_voidTries rfl cf_X1 (sh34 j r) ml_X0_45 (Nat.le_of_ble_eq_true rfl) (q_dm dm_X0_attempt 27 rfl) (fun r8 m9 => ?_)
  refine qr_putf (kf := 3) o cf_X0 (sh51 j r) rfl (Nat.le_of_ble_eq_true rfl) fl_X0_49 rfl (by decide +kernel) (q_dm dm_X0_attempt 28 rfl) ?_
  refine qr_letm (fun m10 => ?_)
  refine qr_aload_n o (q_dm dm_X0_attempt 29 rfl) rfl ?_
  refine qr_iload_n o (q_dm dm_X0_attempt 30 rfl) rfl ?_
  refine qr_iload_n o (q_dm dm_X0_attempt 31 rfl) rfl ?_
  refine qr_callv_v (As := [.inl a2, .inl a3]) (S := []) o (a_X10_addTry g k.2.1 n j r hj hr ht a2 a3 m10) (Nat.le_of_ble_eq_true rfl) zv_X10_addTry rfl cf_X10 (shT0 j r ht) ml_X0_52 (Nat.le_of_ble_eq_true rfl) (q_dm dm_X0_attempt 32 rfl) (fun _ m11 => ?_)
  refine qr_aload_n o (q_dm dm_X0_attempt 33 rfl) rfl ?_
  refine qr_getf (kf := 2) o cf_X0 (sh51 j r) rfl (Nat.le_of_ble_eq_true rfl) fl_X0_38 (q_dm dm_X0_attempt 34 rfl) ?_
  refine qr_aload_n o (q_dm dm_X0_attempt 35 rfl) rfl ?_
  refine qr_getf (kf := 3) o cf_X0 (sh51 j r) rfl (Nat.le_of_ble_eq_true rfl) fl_X0_49 (q_dm dm_X0_attempt 36 rfl) ?_
  refine qr_icmp_ge (tgt := 72) o (q_dm dm_X0_attempt 37 rfl) (by decide) ?_ ?_
  · refine qr_aload_n o (q_dm dm_X0_attempt 40 rfl) rfl ?_
    refine qr_iload_n o (q_dm dm_X0_attempt 41 rfl) rfl ?_
    refine qr_aload_n o (q_dm dm_X0_attempt 42 rfl) rfl ?_
    refine qr_getr (kf := 0) o cf_X0 (sh51 j r) rfl (Nat.le_of_ble_eq_true rfl) fl_X0_9 (q_dm dm_X0_attempt 43 rfl) ?_
    refine qr_getr (kf := 2) o cf_X2 (sh3 j r) rfl (Nat.le_of_ble_eq_true rfl) fl_X0_56 (q_dm dm_X0_attempt 44 rfl) ?_
    refine qr_iload_n o (q_dm dm_X0_attempt 45 rfl) rfl ?_
    refine qr_iald o (sh6 j r) (q_dm dm_X0_attempt 46 rfl) ?_
    refine qr_callv_i (As := [.inl a2, .inl (m11 6 a3.toNatClampNeg)]) (S := []) o (a_X10_hasCounted g k.2.1 n j r hj hr ht a2 (m11 6 a3.toNatClampNeg) m11) (Nat.le_of_ble_eq_true rfl) zv_X10_hasCounted rfl cf_X10 (shT0 j r ht) ml_X0_62 (Nat.le_of_ble_eq_true rfl) (q_dm dm_X0_attempt 47 rfl) (fun r12 m13 => ?_)
    refine qr_if_ne (tgt := 92) o (q_dm dm_X0_attempt 48 rfl) (by decide) ?_ ?_
    · refine qr_aload_n o (q_dm dm_X0_attempt 51 rfl) rfl ?_
      refine qr_iload_n o (q_dm dm_X0_attempt 52 rfl) rfl ?_
      refine qr_iload_n o (q_dm dm_X0_attempt 53 rfl) rfl ?_
      refine qr_callv_v (As := [.inl a2, .inl a3]) (S := []) o (a_X10_addCounted g k.2.1 n j r hj hr ht a2 a3 m13) (Nat.le_of_ble_eq_true rfl) zv_X10_addCounted rfl cf_X10 (shT0 j r ht) ml_X0_66 (Nat.le_of_ble_eq_true rfl) (q_dm dm_X0_attempt 54 rfl) (fun _ m14 => ?_)
      refine qr_iconst o (q_dm dm_X0_attempt 55 rfl) ic_1 ?_
      exact qr_iret o rfl rfl (q_dm dm_X0_attempt 56 rfl)
    · refine qr_bipush o (q_dm dm_X0_attempt 49 rfl) bi_m2 ?_
      exact qr_iret o rfl rfl (q_dm dm_X0_attempt 50 rfl)
  · refine qr_iconst o (q_dm dm_X0_attempt 38 rfl) ic_0 ?_
    exact qr_iret o rfl rfl (q_dm dm_X0_attempt 39 rfl)

theorem a_X0_attempt (g : qG) (l : Launch) (n : Nat) (j r : Nat) (hj : q_isLaw j) (hr : q_isLaw r) {t : Nat} (ht : q_isTown t) (a2 a3 a4 : Int32) (M : qM) : qAM g l 4 zX0_attempt (qL j r) [.inr (some 51), .inr (some t), .inl a2, .inl a3, .inl a4] (qL j r, M) (f_X0_attempt n t j a2 a3 a4 M) :=
  qAM.of zv_X0_attempt.1 (by show 5 ≤ 6; decide) (fun k hk o => w_X0_attempt n j r hj hr ht o a2 a3 a4 M)
def tb_X0_price : List (Nat × Instr × Nat) := [(0, (.aload_n 0, 1)), (1, (.aload_n 1, 1)), (2, (.iload_n 2, 1)), (3, (.iload_n 3, 1)), (4, (.iload 4, 2)), (6, (.invokevirtual 41, 3)), (9, (.aload_n 0, 1)), (10, (.getfield 15, 3)), (13, (.bipush 99, 2)), (15, (.sipush 999, 3)), (18, (.iconst 0, 1)), (19, (.invokevirtual 69, 3)), (22, (.ireturn, 1))]
theorem dm_X0_price : ∀ q ∈ tb_X0_price, decode zX0_price.2.1 q.1 = .ok q.2 := by decide +kernel
def f_X0_price (n : Nat) (t j : Nat) (a2 a3 a4 : Int32) (M : qM) : qR :=
  qc (f_X0_tellAll n t a2 a3 a4 M) (fun _ m1 => qc (f_X1_amount n j (99 : Int32) (999 : Int32) (0 : Int32) m1) (fun r2 m3 => some (r2, m3)))
set_option maxRecDepth 4000 in
theorem w_X0_price {g : qG} {k : qK} (n : Nat) (j r : Nat) (hj : q_isLaw j) (hr : q_isLaw r) {t : Nat} (ht : q_isTown t) (o : qOk g 3 zX0_price k) (a2 a3 a4 : Int32) (M : qM) : qAE g k zX0_price (qL j r) 0 [some (.inr (some 51)), some (.inr (some t)), some (.inl a2), some (.inl a3), some (.inl a4)] [] (qL j r, M) (f_X0_price n t j a2 a3 a4 M) := by
  unfold f_X0_price
  refine qr_aload_n o (q_dm dm_X0_price 0 rfl) rfl ?_
  refine qr_aload_n o (q_dm dm_X0_price 1 rfl) rfl ?_
  refine qr_iload_n o (q_dm dm_X0_price 2 rfl) rfl ?_
  refine qr_iload_n o (q_dm dm_X0_price 3 rfl) rfl ?_
  refine qr_iload o (q_dm dm_X0_price 4 rfl) rfl ?_
  refine qr_callv_v (As := [.inr (some t), .inl a2, .inl a3, .inl a4]) (S := []) o (a_X0_tellAll g k.2.1 n j r hj hr ht a2 a3 a4 M) (Nat.le_of_ble_eq_true rfl) zv_X0_tellAll rfl cf_X0 (sh51 j r) ml_X0_41 (Nat.le_of_ble_eq_true rfl) (q_dm dm_X0_price 5 rfl) (fun _ m1 => ?_)
  refine qr_aload_n o (q_dm dm_X0_price 6 rfl) rfl ?_
  refine qr_getr (kf := 1) o cf_X0 (sh51 j r) rfl (Nat.le_of_ble_eq_true rfl) fl_X0_15 (q_dm dm_X0_price 7 rfl) ?_
  refine qr_bipush o (q_dm dm_X0_price 8 rfl) bi_99 ?_
  refine qr_sipush o (q_dm dm_X0_price 9 rfl) si_999 ?_
  refine qr_iconst o (q_dm dm_X0_price 10 rfl) ic_0 ?_
  refine qr_callv_i (As := [.inl (99 : Int32), .inl (999 : Int32), .inl (0 : Int32)]) (S := []) o (a_X1_amount g k.2.1 n j r hj hr (99 : Int32) (999 : Int32) (0 : Int32) m1) (Nat.le_of_ble_eq_true rfl) zv_X1_amount rfl cf_X1 (sh34 j r) ml_X0_69 (Nat.le_of_ble_eq_true rfl) (q_dm dm_X0_price 11 rfl) (fun r2 m3 => ?_)
  exact qr_iret o rfl rfl (q_dm dm_X0_price 12 rfl)

theorem a_X0_price (g : qG) (l : Launch) (n : Nat) (j r : Nat) (hj : q_isLaw j) (hr : q_isLaw r) {t : Nat} (ht : q_isTown t) (a2 a3 a4 : Int32) (M : qM) : qAM g l 3 zX0_price (qL j r) [.inr (some 51), .inr (some t), .inl a2, .inl a3, .inl a4] (qL j r, M) (f_X0_price n t j a2 a3 a4 M) :=
  qAM.of zv_X0_price.1 (by show 5 ≤ 5; decide) (fun k hk o => w_X0_price n j r hj hr ht o a2 a3 a4 M)
end
