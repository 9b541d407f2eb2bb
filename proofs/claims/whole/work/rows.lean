section
-- ===== PART A: goes FIRST, ahead of the names: the tables' words, and 'selects' of the private methods out of them =====
/-- a private method of a class that the tables say can be made, by its rows of tables_1 -/
def lw_okq (q : MethodName × Nat) : Prop := (q.1.cls ≠ "java/lang/invoke/MethodHandle" ∧ q.1.cls ≠ "java/lang/invoke/VarHandle") ∧ Cond.instantiable q.1.cls q.2 ∈ tables_1 ∧ Cond.privateMethod q.1 ∈ tables_1 ∧ Cond.instanceMethod q.1 ∈ tables_1
theorem lw_p0 : lw_okq (⟨"PaymentRuns$Tape", "nextToken", "()V"⟩, 9) := ⟨⟨by decide +kernel, by decide +kernel⟩, List.mem_of_getElem? (i := 28) (by decide +kernel), List.mem_of_getElem? (i := 417) (by decide +kernel), List.mem_of_getElem? (i := 418) (by decide +kernel)⟩
theorem lw_p1 : lw_okq (⟨"PaymentRuns$Tape", "readDesk", "()V"⟩, 9) := ⟨⟨by decide +kernel, by decide +kernel⟩, List.mem_of_getElem? (i := 28) (by decide +kernel), List.mem_of_getElem? (i := 431) (by decide +kernel), List.mem_of_getElem? (i := 432) (by decide +kernel)⟩
theorem lw_p2 : lw_okq (⟨"PaymentRuns$Tape", "takeWord", "(Ljava/lang/String;)V"⟩, 9) := ⟨⟨by decide +kernel, by decide +kernel⟩, List.mem_of_getElem? (i := 28) (by decide +kernel), List.mem_of_getElem? (i := 436) (by decide +kernel), List.mem_of_getElem? (i := 437) (by decide +kernel)⟩
theorem lw_p3 : lw_okq (⟨"PaymentRuns$Tape", "isWord", "(Ljava/lang/String;)Z"⟩, 9) := ⟨⟨by decide +kernel, by decide +kernel⟩, List.mem_of_getElem? (i := 28) (by decide +kernel), List.mem_of_getElem? (i := 440) (by decide +kernel), List.mem_of_getElem? (i := 441) (by decide +kernel)⟩
theorem lw_p4 : lw_okq (⟨"PaymentRuns$Tape", "refuse", "(I)V"⟩, 9) := ⟨⟨by decide +kernel, by decide +kernel⟩, List.mem_of_getElem? (i := 28) (by decide +kernel), List.mem_of_getElem? (i := 492) (by decide +kernel), List.mem_of_getElem? (i := 493) (by decide +kernel)⟩
theorem lw_p5 : lw_okq (⟨"PaymentRuns$Tape", "takeField", "(Ljava/lang/String;II)I"⟩, 9) := ⟨⟨by decide +kernel, by decide +kernel⟩, List.mem_of_getElem? (i := 28) (by decide +kernel), List.mem_of_getElem? (i := 497) (by decide +kernel), List.mem_of_getElem? (i := 498) (by decide +kernel)⟩
theorem lw_p6 : lw_okq (⟨"PaymentRuns$Tape", "takeNumber", "(II)I"⟩, 9) := ⟨⟨by decide +kernel, by decide +kernel⟩, List.mem_of_getElem? (i := 28) (by decide +kernel), List.mem_of_getElem? (i := 501) (by decide +kernel), List.mem_of_getElem? (i := 502) (by decide +kernel)⟩
theorem lw_p7 : lw_okq (⟨"PaymentRuns$Tape", "readSupplier", "()V"⟩, 9) := ⟨⟨by decide +kernel, by decide +kernel⟩, List.mem_of_getElem? (i := 28) (by decide +kernel), List.mem_of_getElem? (i := 511) (by decide +kernel), List.mem_of_getElem? (i := 512) (by decide +kernel)⟩
theorem lw_p8 : lw_okq (⟨"PaymentRuns$Tape", "readBill", "()V"⟩, 9) := ⟨⟨by decide +kernel, by decide +kernel⟩, List.mem_of_getElem? (i := 28) (by decide +kernel), List.mem_of_getElem? (i := 517) (by decide +kernel), List.mem_of_getElem? (i := 518) (by decide +kernel)⟩
theorem lw_p9 : lw_okq (⟨"PaymentRuns$Tape", "readIncome", "()V"⟩, 9) := ⟨⟨by decide +kernel, by decide +kernel⟩, List.mem_of_getElem? (i := 28) (by decide +kernel), List.mem_of_getElem? (i := 528) (by decide +kernel), List.mem_of_getElem? (i := 529) (by decide +kernel)⟩
theorem lw_p10 : lw_okq (⟨"PaymentRuns$Tape", "takeSign", "()V"⟩, 9) := ⟨⟨by decide +kernel, by decide +kernel⟩, List.mem_of_getElem? (i := 28) (by decide +kernel), List.mem_of_getElem? (i := 533) (by decide +kernel), List.mem_of_getElem? (i := 534) (by decide +kernel)⟩
theorem lw_p11 : lw_okq (⟨"PaymentRuns", "isSupplier", "(I)Z"⟩, 11) := ⟨⟨by decide +kernel, by decide +kernel⟩, List.mem_of_getElem? (i := 20) (by decide +kernel), List.mem_of_getElem? (i := 552) (by decide +kernel), List.mem_of_getElem? (i := 553) (by decide +kernel)⟩
theorem lw_p12 : lw_okq (⟨"PaymentRuns", "isBill", "(I)Z"⟩, 11) := ⟨⟨by decide +kernel, by decide +kernel⟩, List.mem_of_getElem? (i := 20) (by decide +kernel), List.mem_of_getElem? (i := 560) (by decide +kernel), List.mem_of_getElem? (i := 561) (by decide +kernel)⟩
theorem lw_p13 : lw_okq (⟨"PaymentRuns", "isDay", "(I)Z"⟩, 11) := ⟨⟨by decide +kernel, by decide +kernel⟩, List.mem_of_getElem? (i := 20) (by decide +kernel), List.mem_of_getElem? (i := 605) (by decide +kernel), List.mem_of_getElem? (i := 606) (by decide +kernel)⟩
theorem lw_p14 : lw_okq (⟨"PaymentRuns", "isThere", "()Z"⟩, 11) := ⟨⟨by decide +kernel, by decide +kernel⟩, List.mem_of_getElem? (i := 20) (by decide +kernel), List.mem_of_getElem? (i := 621) (by decide +kernel), List.mem_of_getElem? (i := 622) (by decide +kernel)⟩
theorem lw_p15 : lw_okq (⟨"PaymentRuns", "planByOtherLaw", "(I)V"⟩, 11) := ⟨⟨by decide +kernel, by decide +kernel⟩, List.mem_of_getElem? (i := 20) (by decide +kernel), List.mem_of_getElem? (i := 654) (by decide +kernel), List.mem_of_getElem? (i := 655) (by decide +kernel)⟩
def lw_privs_1 : List (MethodName × Nat) := [(⟨"PaymentRuns$Tape", "nextToken", "()V"⟩, 9), (⟨"PaymentRuns$Tape", "readDesk", "()V"⟩, 9), (⟨"PaymentRuns$Tape", "takeWord", "(Ljava/lang/String;)V"⟩, 9), (⟨"PaymentRuns$Tape", "isWord", "(Ljava/lang/String;)Z"⟩, 9), (⟨"PaymentRuns$Tape", "refuse", "(I)V"⟩, 9), (⟨"PaymentRuns$Tape", "takeField", "(Ljava/lang/String;II)I"⟩, 9), (⟨"PaymentRuns$Tape", "takeNumber", "(II)I"⟩, 9), (⟨"PaymentRuns$Tape", "readSupplier", "()V"⟩, 9), (⟨"PaymentRuns$Tape", "readBill", "()V"⟩, 9), (⟨"PaymentRuns$Tape", "readIncome", "()V"⟩, 9), (⟨"PaymentRuns$Tape", "takeSign", "()V"⟩, 9), (⟨"PaymentRuns", "isSupplier", "(I)Z"⟩, 11), (⟨"PaymentRuns", "isBill", "(I)Z"⟩, 11), (⟨"PaymentRuns", "isDay", "(I)Z"⟩, 11), (⟨"PaymentRuns", "isThere", "()Z"⟩, 11), (⟨"PaymentRuns", "planByOtherLaw", "(I)V"⟩, 11)]
theorem lw_r1 : ∀ q ∈ lw_privs_1, lw_okq q := List.forall_mem_cons.mpr ⟨lw_p0, List.forall_mem_cons.mpr ⟨lw_p1, List.forall_mem_cons.mpr ⟨lw_p2, List.forall_mem_cons.mpr ⟨lw_p3, List.forall_mem_cons.mpr ⟨lw_p4, List.forall_mem_cons.mpr ⟨lw_p5, List.forall_mem_cons.mpr ⟨lw_p6, List.forall_mem_cons.mpr ⟨lw_p7, List.forall_mem_cons.mpr ⟨lw_p8, List.forall_mem_cons.mpr ⟨lw_p9, List.forall_mem_cons.mpr ⟨lw_p10, List.forall_mem_cons.mpr ⟨lw_p11, List.forall_mem_cons.mpr ⟨lw_p12, List.forall_mem_cons.mpr ⟨lw_p13, List.forall_mem_cons.mpr ⟨lw_p14, List.forall_mem_cons.mpr ⟨lw_p15, fun _ h => absurd h List.not_mem_nil⟩⟩⟩⟩⟩⟩⟩⟩⟩⟩⟩⟩⟩⟩⟩⟩
theorem lw_p16 : lw_okq (⟨"PaymentRuns$Week", "putInOrder", "()V"⟩, 15) := ⟨⟨by decide +kernel, by decide +kernel⟩, List.mem_of_getElem? (i := 168) (by decide +kernel), List.mem_of_getElem? (i := 667) (by decide +kernel), List.mem_of_getElem? (i := 668) (by decide +kernel)⟩
theorem lw_p17 : lw_okq (⟨"PaymentRuns$Week", "isAhead", "(II)Z"⟩, 15) := ⟨⟨by decide +kernel, by decide +kernel⟩, List.mem_of_getElem? (i := 168) (by decide +kernel), List.mem_of_getElem? (i := 675) (by decide +kernel), List.mem_of_getElem? (i := 676) (by decide +kernel)⟩
theorem lw_p18 : lw_okq (⟨"PaymentRuns$Week", "rankOf", "(I)I"⟩, 15) := ⟨⟨by decide +kernel, by decide +kernel⟩, List.mem_of_getElem? (i := 168) (by decide +kernel), List.mem_of_getElem? (i := 679) (by decide +kernel), List.mem_of_getElem? (i := 680) (by decide +kernel)⟩
theorem lw_p19 : lw_okq (⟨"PaymentRuns$Week", "dayByLaw", "(I)I"⟩, 15) := ⟨⟨by decide +kernel, by decide +kernel⟩, List.mem_of_getElem? (i := 168) (by decide +kernel), List.mem_of_getElem? (i := 684) (by decide +kernel), List.mem_of_getElem? (i := 685) (by decide +kernel)⟩
theorem lw_p20 : lw_okq (⟨"PaymentRuns$Week", "spend", "(II)V"⟩, 15) := ⟨⟨by decide +kernel, by decide +kernel⟩, List.mem_of_getElem? (i := 168) (by decide +kernel), List.mem_of_getElem? (i := 703) (by decide +kernel), List.mem_of_getElem? (i := 704) (by decide +kernel)⟩
theorem lw_p21 : lw_okq (⟨"PaymentRuns", "byLaw", "()LPaymentRuns$Week;"⟩, 11) := ⟨⟨by decide +kernel, by decide +kernel⟩, List.mem_of_getElem? (i := 20) (by decide +kernel), List.mem_of_getElem? (i := 711) (by decide +kernel), List.mem_of_getElem? (i := 712) (by decide +kernel)⟩
theorem lw_p22 : lw_okq (⟨"PaymentRuns", "refusedPlan", "(I)I"⟩, 11) := ⟨⟨by decide +kernel, by decide +kernel⟩, List.mem_of_getElem? (i := 20) (by decide +kernel), List.mem_of_getElem? (i := 834) (by decide +kernel), List.mem_of_getElem? (i := 835) (by decide +kernel)⟩
theorem lw_p23 : lw_okq (⟨"PaymentRuns", "layPlan", "(I)V"⟩, 11) := ⟨⟨by decide +kernel, by decide +kernel⟩, List.mem_of_getElem? (i := 20) (by decide +kernel), List.mem_of_getElem? (i := 851) (by decide +kernel), List.mem_of_getElem? (i := 852) (by decide +kernel)⟩
theorem lw_p24 : lw_okq (⟨"PaymentRuns", "leastOfAll", "()I"⟩, 11) := ⟨⟨by decide +kernel, by decide +kernel⟩, List.mem_of_getElem? (i := 20) (by decide +kernel), List.mem_of_getElem? (i := 873) (by decide +kernel), List.mem_of_getElem? (i := 874) (by decide +kernel)⟩
theorem lw_p25 : lw_okq (⟨"PaymentRuns$Search", "reckonRest", "(LPaymentRuns$Week;)V"⟩, 6) := ⟨⟨by decide +kernel, by decide +kernel⟩, List.mem_of_getElem? (i := 273) (by decide +kernel), List.mem_of_getElem? (i := 883) (by decide +kernel), List.mem_of_getElem? (i := 884) (by decide +kernel)⟩
theorem lw_p26 : lw_okq (⟨"PaymentRuns$Search", "choose", "(LPaymentRuns$Week;II)V"⟩, 6) := ⟨⟨by decide +kernel, by decide +kernel⟩, List.mem_of_getElem? (i := 273) (by decide +kernel), List.mem_of_getElem? (i := 890) (by decide +kernel), List.mem_of_getElem? (i := 891) (by decide +kernel)⟩
theorem lw_p27 : lw_okq (⟨"PaymentRuns$Search", "tryDay", "(LPaymentRuns$Week;III)V"⟩, 6) := ⟨⟨by decide +kernel, by decide +kernel⟩, List.mem_of_getElem? (i := 273) (by decide +kernel), List.mem_of_getElem? (i := 895) (by decide +kernel), List.mem_of_getElem? (i := 896) (by decide +kernel)⟩
theorem lw_p28 : lw_okq (⟨"PaymentRuns", "idle", "()I"⟩, 11) := ⟨⟨by decide +kernel, by decide +kernel⟩, List.mem_of_getElem? (i := 20) (by decide +kernel), List.mem_of_getElem? (i := 918) (by decide +kernel), List.mem_of_getElem? (i := 919) (by decide +kernel)⟩
theorem lw_p29 : lw_okq (⟨"PaymentRuns", "leastOnDay", "(I)I"⟩, 11) := ⟨⟨by decide +kernel, by decide +kernel⟩, List.mem_of_getElem? (i := 20) (by decide +kernel), List.mem_of_getElem? (i := 922) (by decide +kernel), List.mem_of_getElem? (i := 923) (by decide +kernel)⟩
theorem lw_p30 : lw_okq (⟨"PaymentRuns", "totalOfSet", "(I)I"⟩, 11) := ⟨⟨by decide +kernel, by decide +kernel⟩, List.mem_of_getElem? (i := 20) (by decide +kernel), List.mem_of_getElem? (i := 944) (by decide +kernel), List.mem_of_getElem? (i := 945) (by decide +kernel)⟩
theorem lw_p31 : lw_okq (⟨"PaymentRuns", "planWithClosed", "(I)V"⟩, 11) := ⟨⟨by decide +kernel, by decide +kernel⟩, List.mem_of_getElem? (i := 20) (by decide +kernel), List.mem_of_getElem? (i := 963) (by decide +kernel), List.mem_of_getElem? (i := 964) (by decide +kernel)⟩
def lw_privs_2 : List (MethodName × Nat) := [(⟨"PaymentRuns$Week", "putInOrder", "()V"⟩, 15), (⟨"PaymentRuns$Week", "isAhead", "(II)Z"⟩, 15), (⟨"PaymentRuns$Week", "rankOf", "(I)I"⟩, 15), (⟨"PaymentRuns$Week", "dayByLaw", "(I)I"⟩, 15), (⟨"PaymentRuns$Week", "spend", "(II)V"⟩, 15), (⟨"PaymentRuns", "byLaw", "()LPaymentRuns$Week;"⟩, 11), (⟨"PaymentRuns", "refusedPlan", "(I)I"⟩, 11), (⟨"PaymentRuns", "layPlan", "(I)V"⟩, 11), (⟨"PaymentRuns", "leastOfAll", "()I"⟩, 11), (⟨"PaymentRuns$Search", "reckonRest", "(LPaymentRuns$Week;)V"⟩, 6), (⟨"PaymentRuns$Search", "choose", "(LPaymentRuns$Week;II)V"⟩, 6), (⟨"PaymentRuns$Search", "tryDay", "(LPaymentRuns$Week;III)V"⟩, 6), (⟨"PaymentRuns", "idle", "()I"⟩, 11), (⟨"PaymentRuns", "leastOnDay", "(I)I"⟩, 11), (⟨"PaymentRuns", "totalOfSet", "(I)I"⟩, 11), (⟨"PaymentRuns", "planWithClosed", "(I)V"⟩, 11)]
theorem lw_r2 : ∀ q ∈ lw_privs_2, lw_okq q := List.forall_mem_cons.mpr ⟨lw_p16, List.forall_mem_cons.mpr ⟨lw_p17, List.forall_mem_cons.mpr ⟨lw_p18, List.forall_mem_cons.mpr ⟨lw_p19, List.forall_mem_cons.mpr ⟨lw_p20, List.forall_mem_cons.mpr ⟨lw_p21, List.forall_mem_cons.mpr ⟨lw_p22, List.forall_mem_cons.mpr ⟨lw_p23, List.forall_mem_cons.mpr ⟨lw_p24, List.forall_mem_cons.mpr ⟨lw_p25, List.forall_mem_cons.mpr ⟨lw_p26, List.forall_mem_cons.mpr ⟨lw_p27, List.forall_mem_cons.mpr ⟨lw_p28, List.forall_mem_cons.mpr ⟨lw_p29, List.forall_mem_cons.mpr ⟨lw_p30, List.forall_mem_cons.mpr ⟨lw_p31, fun _ h => absurd h List.not_mem_nil⟩⟩⟩⟩⟩⟩⟩⟩⟩⟩⟩⟩⟩⟩⟩⟩
theorem lw_p32 : lw_okq (⟨"PaymentRuns", "refusedSeen", "(II)I"⟩, 11) := ⟨⟨by decide +kernel, by decide +kernel⟩, List.mem_of_getElem? (i := 20) (by decide +kernel), List.mem_of_getElem? (i := 975) (by decide +kernel), List.mem_of_getElem? (i := 976) (by decide +kernel)⟩
theorem lw_p33 : lw_okq (⟨"PaymentRuns", "arePlayers", "(II)Z"⟩, 11) := ⟨⟨by decide +kernel, by decide +kernel⟩, List.mem_of_getElem? (i := 20) (by decide +kernel), List.mem_of_getElem? (i := 1071) (by decide +kernel), List.mem_of_getElem? (i := 1072) (by decide +kernel)⟩
theorem lw_p34 : lw_okq (⟨"PaymentRuns$Desk", "addAct", "(I)Z"⟩, 16) := ⟨⟨by decide +kernel, by decide +kernel⟩, List.mem_of_getElem? (i := 34) (by decide +kernel), List.mem_of_getElem? (i := 1132) (by decide +kernel), List.mem_of_getElem? (i := 1133) (by decide +kernel)⟩
theorem lw_p35 : lw_okq (⟨"PaymentRuns", "planWithIncomes", "(I)V"⟩, 11) := ⟨⟨by decide +kernel, by decide +kernel⟩, List.mem_of_getElem? (i := 20) (by decide +kernel), List.mem_of_getElem? (i := 1168) (by decide +kernel), List.mem_of_getElem? (i := 1169) (by decide +kernel)⟩
theorem lw_p36 : lw_okq (⟨"PaymentRunsModel", "four", "(I)V"⟩, 43) := ⟨⟨by decide +kernel, by decide +kernel⟩, List.mem_of_getElem? (i := 1222) (by decide +kernel), List.mem_of_getElem? (i := 1384) (by decide +kernel), List.mem_of_getElem? (i := 1385) (by decide +kernel)⟩
theorem lw_p37 : lw_okq (⟨"PaymentRunsModel", "clears", "()V"⟩, 43) := ⟨⟨by decide +kernel, by decide +kernel⟩, List.mem_of_getElem? (i := 1222) (by decide +kernel), List.mem_of_getElem? (i := 1400) (by decide +kernel), List.mem_of_getElem? (i := 1401) (by decide +kernel)⟩
theorem lw_p38 : lw_okq (⟨"PaymentRunsModel", "tells", "(II)V"⟩, 43) := ⟨⟨by decide +kernel, by decide +kernel⟩, List.mem_of_getElem? (i := 1222) (by decide +kernel), List.mem_of_getElem? (i := 1404) (by decide +kernel), List.mem_of_getElem? (i := 1405) (by decide +kernel)⟩
theorem lw_p39 : lw_okq (⟨"PaymentRunsModel", "begins", "()V"⟩, 43) := ⟨⟨by decide +kernel, by decide +kernel⟩, List.mem_of_getElem? (i := 1222) (by decide +kernel), List.mem_of_getElem? (i := 1408) (by decide +kernel), List.mem_of_getElem? (i := 1409) (by decide +kernel)⟩
theorem lw_p40 : lw_okq (⟨"PaymentRunsModel", "next", "()V"⟩, 43) := ⟨⟨by decide +kernel, by decide +kernel⟩, List.mem_of_getElem? (i := 1222) (by decide +kernel), List.mem_of_getElem? (i := 1412) (by decide +kernel), List.mem_of_getElem? (i := 1413) (by decide +kernel)⟩
theorem lw_p41 : lw_okq (⟨"PaymentRunsModel", "isByte", "(III)Z"⟩, 43) := ⟨⟨by decide +kernel, by decide +kernel⟩, List.mem_of_getElem? (i := 1222) (by decide +kernel), List.mem_of_getElem? (i := 1416) (by decide +kernel), List.mem_of_getElem? (i := 1417) (by decide +kernel)⟩
theorem lw_p42 : lw_okq (⟨"PaymentRunsModel", "isGood", "()Z"⟩, 43) := ⟨⟨by decide +kernel, by decide +kernel⟩, List.mem_of_getElem? (i := 1222) (by decide +kernel), List.mem_of_getElem? (i := 1425) (by decide +kernel), List.mem_of_getElem? (i := 1426) (by decide +kernel)⟩
theorem lw_p43 : lw_okq (⟨"PaymentRunsModel", "asks", "(J)V"⟩, 43) := ⟨⟨by decide +kernel, by decide +kernel⟩, List.mem_of_getElem? (i := 1222) (by decide +kernel), List.mem_of_getElem? (i := 1430) (by decide +kernel), List.mem_of_getElem? (i := 1431) (by decide +kernel)⟩
theorem lw_p44 : lw_okq (⟨"PaymentRunsModel", "takesWord", "(J)Z"⟩, 43) := ⟨⟨by decide +kernel, by decide +kernel⟩, List.mem_of_getElem? (i := 1222) (by decide +kernel), List.mem_of_getElem? (i := 1434) (by decide +kernel), List.mem_of_getElem? (i := 1435) (by decide +kernel)⟩
theorem lw_p45 : lw_okq (⟨"PaymentRunsModel", "is", "(J)Z"⟩, 43) := ⟨⟨by decide +kernel, by decide +kernel⟩, List.mem_of_getElem? (i := 1222) (by decide +kernel), List.mem_of_getElem? (i := 1438) (by decide +kernel), List.mem_of_getElem? (i := 1439) (by decide +kernel)⟩
theorem lw_p46 : lw_okq (⟨"PaymentRunsModel", "errs", "(I)V"⟩, 43) := ⟨⟨by decide +kernel, by decide +kernel⟩, List.mem_of_getElem? (i := 1222) (by decide +kernel), List.mem_of_getElem? (i := 1442) (by decide +kernel), List.mem_of_getElem? (i := 1443) (by decide +kernel)⟩
theorem lw_p47 : lw_okq (⟨"PaymentRunsModel", "number", "(JII)I"⟩, 43) := ⟨⟨by decide +kernel, by decide +kernel⟩, List.mem_of_getElem? (i := 1222) (by decide +kernel), List.mem_of_getElem? (i := 1447) (by decide +kernel), List.mem_of_getElem? (i := 1448) (by decide +kernel)⟩
def lw_privs_3 : List (MethodName × Nat) := [(⟨"PaymentRuns", "refusedSeen", "(II)I"⟩, 11), (⟨"PaymentRuns", "arePlayers", "(II)Z"⟩, 11), (⟨"PaymentRuns$Desk", "addAct", "(I)Z"⟩, 16), (⟨"PaymentRuns", "planWithIncomes", "(I)V"⟩, 11), (⟨"PaymentRunsModel", "four", "(I)V"⟩, 43), (⟨"PaymentRunsModel", "clears", "()V"⟩, 43), (⟨"PaymentRunsModel", "tells", "(II)V"⟩, 43), (⟨"PaymentRunsModel", "begins", "()V"⟩, 43), (⟨"PaymentRunsModel", "next", "()V"⟩, 43), (⟨"PaymentRunsModel", "isByte", "(III)Z"⟩, 43), (⟨"PaymentRunsModel", "isGood", "()Z"⟩, 43), (⟨"PaymentRunsModel", "asks", "(J)V"⟩, 43), (⟨"PaymentRunsModel", "takesWord", "(J)Z"⟩, 43), (⟨"PaymentRunsModel", "is", "(J)Z"⟩, 43), (⟨"PaymentRunsModel", "errs", "(I)V"⟩, 43), (⟨"PaymentRunsModel", "number", "(JII)I"⟩, 43)]
theorem lw_r3 : ∀ q ∈ lw_privs_3, lw_okq q := List.forall_mem_cons.mpr ⟨lw_p32, List.forall_mem_cons.mpr ⟨lw_p33, List.forall_mem_cons.mpr ⟨lw_p34, List.forall_mem_cons.mpr ⟨lw_p35, List.forall_mem_cons.mpr ⟨lw_p36, List.forall_mem_cons.mpr ⟨lw_p37, List.forall_mem_cons.mpr ⟨lw_p38, List.forall_mem_cons.mpr ⟨lw_p39, List.forall_mem_cons.mpr ⟨lw_p40, List.forall_mem_cons.mpr ⟨lw_p41, List.forall_mem_cons.mpr ⟨lw_p42, List.forall_mem_cons.mpr ⟨lw_p43, List.forall_mem_cons.mpr ⟨lw_p44, List.forall_mem_cons.mpr ⟨lw_p45, List.forall_mem_cons.mpr ⟨lw_p46, List.forall_mem_cons.mpr ⟨lw_p47, fun _ h => absurd h List.not_mem_nil⟩⟩⟩⟩⟩⟩⟩⟩⟩⟩⟩⟩⟩⟩⟩⟩
theorem lw_p48 : lw_okq (⟨"PaymentRunsModel", "number", "(II)I"⟩, 43) := ⟨⟨by decide +kernel, by decide +kernel⟩, List.mem_of_getElem? (i := 1222) (by decide +kernel), List.mem_of_getElem? (i := 1451) (by decide +kernel), List.mem_of_getElem? (i := 1452) (by decide +kernel)⟩
theorem lw_p49 : lw_okq (⟨"PaymentRunsModel", "lineHere", "()V"⟩, 43) := ⟨⟨by decide +kernel, by decide +kernel⟩, List.mem_of_getElem? (i := 1222) (by decide +kernel), List.mem_of_getElem? (i := 1460) (by decide +kernel), List.mem_of_getElem? (i := 1461) (by decide +kernel)⟩
theorem lw_p50 : lw_okq (⟨"PaymentRunsModel", "isRoom", "(ZII)Z"⟩, 43) := ⟨⟨by decide +kernel, by decide +kernel⟩, List.mem_of_getElem? (i := 1222) (by decide +kernel), List.mem_of_getElem? (i := 1465) (by decide +kernel), List.mem_of_getElem? (i := 1466) (by decide +kernel)⟩
theorem lw_p51 : lw_okq (⟨"PaymentRunsModel", "hasRead", "(I)I"⟩, 43) := ⟨⟨by decide +kernel, by decide +kernel⟩, List.mem_of_getElem? (i := 1222) (by decide +kernel), List.mem_of_getElem? (i := 1469) (by decide +kernel), List.mem_of_getElem? (i := 1470) (by decide +kernel)⟩
theorem lw_p52 : lw_okq (⟨"PaymentRunsModel", "billLine", "()V"⟩, 43) := ⟨⟨by decide +kernel, by decide +kernel⟩, List.mem_of_getElem? (i := 1222) (by decide +kernel), List.mem_of_getElem? (i := 1475) (by decide +kernel), List.mem_of_getElem? (i := 1476) (by decide +kernel)⟩
theorem lw_p53 : lw_okq (⟨"PaymentRunsModel", "loadLine", "()V"⟩, 43) := ⟨⟨by decide +kernel, by decide +kernel⟩, List.mem_of_getElem? (i := 1222) (by decide +kernel), List.mem_of_getElem? (i := 1486) (by decide +kernel), List.mem_of_getElem? (i := 1487) (by decide +kernel)⟩
theorem lw_p54 : lw_okq (⟨"PaymentRunsModel", "ends", "()V"⟩, 43) := ⟨⟨by decide +kernel, by decide +kernel⟩, List.mem_of_getElem? (i := 1222) (by decide +kernel), List.mem_of_getElem? (i := 1491) (by decide +kernel), List.mem_of_getElem? (i := 1492) (by decide +kernel)⟩
theorem lw_p55 : lw_okq (⟨"PaymentRunsModel", "isOver", "()V"⟩, 43) := ⟨⟨by decide +kernel, by decide +kernel⟩, List.mem_of_getElem? (i := 1222) (by decide +kernel), List.mem_of_getElem? (i := 1495) (by decide +kernel), List.mem_of_getElem? (i := 1496) (by decide +kernel)⟩
theorem lw_p56 : lw_okq (⟨"PaymentRunsModel", "copyDesk", "(II)V"⟩, 43) := ⟨⟨by decide +kernel, by decide +kernel⟩, List.mem_of_getElem? (i := 1222) (by decide +kernel), List.mem_of_getElem? (i := 1499) (by decide +kernel), List.mem_of_getElem? (i := 1500) (by decide +kernel)⟩
theorem lw_p57 : lw_okq (⟨"PaymentRunsModel", "isSupplier", "(I)Z"⟩, 43) := ⟨⟨by decide +kernel, by decide +kernel⟩, List.mem_of_getElem? (i := 1222) (by decide +kernel), List.mem_of_getElem? (i := 1510) (by decide +kernel), List.mem_of_getElem? (i := 1511) (by decide +kernel)⟩
theorem lw_p58 : lw_okq (⟨"PaymentRunsModel", "isBill", "(J)Z"⟩, 43) := ⟨⟨by decide +kernel, by decide +kernel⟩, List.mem_of_getElem? (i := 1222) (by decide +kernel), List.mem_of_getElem? (i := 1518) (by decide +kernel), List.mem_of_getElem? (i := 1519) (by decide +kernel)⟩
theorem lw_p59 : lw_okq (⟨"PaymentRunsModel", "bills", "()I"⟩, 43) := ⟨⟨by decide +kernel, by decide +kernel⟩, List.mem_of_getElem? (i := 1222) (by decide +kernel), List.mem_of_getElem? (i := 1522) (by decide +kernel), List.mem_of_getElem? (i := 1523) (by decide +kernel)⟩
theorem lw_p60 : lw_okq (⟨"PaymentRunsModel", "lays", "()V"⟩, 43) := ⟨⟨by decide +kernel, by decide +kernel⟩, List.mem_of_getElem? (i := 1222) (by decide +kernel), List.mem_of_getElem? (i := 1531) (by decide +kernel), List.mem_of_getElem? (i := 1532) (by decide +kernel)⟩
theorem lw_p61 : lw_okq (⟨"PaymentRunsModel", "days", "()I"⟩, 43) := ⟨⟨by decide +kernel, by decide +kernel⟩, List.mem_of_getElem? (i := 1222) (by decide +kernel), List.mem_of_getElem? (i := 1539) (by decide +kernel), List.mem_of_getElem? (i := 1540) (by decide +kernel)⟩
theorem lw_p62 : lw_okq (⟨"PaymentRunsModel", "costOf", "(II)I"⟩, 43) := ⟨⟨by decide +kernel, by decide +kernel⟩, List.mem_of_getElem? (i := 1222) (by decide +kernel), List.mem_of_getElem? (i := 1543) (by decide +kernel), List.mem_of_getElem? (i := 1544) (by decide +kernel)⟩
theorem lw_p63 : lw_okq (⟨"PaymentRunsModel", "offOf", "(I)I"⟩, 43) := ⟨⟨by decide +kernel, by decide +kernel⟩, List.mem_of_getElem? (i := 1222) (by decide +kernel), List.mem_of_getElem? (i := 1547) (by decide +kernel), List.mem_of_getElem? (i := 1548) (by decide +kernel)⟩
def lw_privs_4 : List (MethodName × Nat) := [(⟨"PaymentRunsModel", "number", "(II)I"⟩, 43), (⟨"PaymentRunsModel", "lineHere", "()V"⟩, 43), (⟨"PaymentRunsModel", "isRoom", "(ZII)Z"⟩, 43), (⟨"PaymentRunsModel", "hasRead", "(I)I"⟩, 43), (⟨"PaymentRunsModel", "billLine", "()V"⟩, 43), (⟨"PaymentRunsModel", "loadLine", "()V"⟩, 43), (⟨"PaymentRunsModel", "ends", "()V"⟩, 43), (⟨"PaymentRunsModel", "isOver", "()V"⟩, 43), (⟨"PaymentRunsModel", "copyDesk", "(II)V"⟩, 43), (⟨"PaymentRunsModel", "isSupplier", "(I)Z"⟩, 43), (⟨"PaymentRunsModel", "isBill", "(J)Z"⟩, 43), (⟨"PaymentRunsModel", "bills", "()I"⟩, 43), (⟨"PaymentRunsModel", "lays", "()V"⟩, 43), (⟨"PaymentRunsModel", "days", "()I"⟩, 43), (⟨"PaymentRunsModel", "costOf", "(II)I"⟩, 43), (⟨"PaymentRunsModel", "offOf", "(I)I"⟩, 43)]
theorem lw_r4 : ∀ q ∈ lw_privs_4, lw_okq q := List.forall_mem_cons.mpr ⟨lw_p48, List.forall_mem_cons.mpr ⟨lw_p49, List.forall_mem_cons.mpr ⟨lw_p50, List.forall_mem_cons.mpr ⟨lw_p51, List.forall_mem_cons.mpr ⟨lw_p52, List.forall_mem_cons.mpr ⟨lw_p53, List.forall_mem_cons.mpr ⟨lw_p54, List.forall_mem_cons.mpr ⟨lw_p55, List.forall_mem_cons.mpr ⟨lw_p56, List.forall_mem_cons.mpr ⟨lw_p57, List.forall_mem_cons.mpr ⟨lw_p58, List.forall_mem_cons.mpr ⟨lw_p59, List.forall_mem_cons.mpr ⟨lw_p60, List.forall_mem_cons.mpr ⟨lw_p61, List.forall_mem_cons.mpr ⟨lw_p62, List.forall_mem_cons.mpr ⟨lw_p63, fun _ h => absurd h List.not_mem_nil⟩⟩⟩⟩⟩⟩⟩⟩⟩⟩⟩⟩⟩⟩⟩⟩
theorem lw_p64 : lw_okq (⟨"PaymentRunsModel", "lateOf", "(II)I"⟩, 43) := ⟨⟨by decide +kernel, by decide +kernel⟩, List.mem_of_getElem? (i := 1222) (by decide +kernel), List.mem_of_getElem? (i := 1551) (by decide +kernel), List.mem_of_getElem? (i := 1552) (by decide +kernel)⟩
theorem lw_p65 : lw_okq (⟨"PaymentRunsModel", "isDay", "(I)Z"⟩, 43) := ⟨⟨by decide +kernel, by decide +kernel⟩, List.mem_of_getElem? (i := 1222) (by decide +kernel), List.mem_of_getElem? (i := 1562) (by decide +kernel), List.mem_of_getElem? (i := 1563) (by decide +kernel)⟩
theorem lw_p66 : lw_okq (⟨"PaymentRunsModel", "isDesk", "()Z"⟩, 43) := ⟨⟨by decide +kernel, by decide +kernel⟩, List.mem_of_getElem? (i := 1222) (by decide +kernel), List.mem_of_getElem? (i := 1570) (by decide +kernel), List.mem_of_getElem? (i := 1571) (by decide +kernel)⟩
theorem lw_p67 : lw_okq (⟨"PaymentRunsModel", "spanOf", "(I)I"⟩, 43) := ⟨⟨by decide +kernel, by decide +kernel⟩, List.mem_of_getElem? (i := 1222) (by decide +kernel), List.mem_of_getElem? (i := 1581) (by decide +kernel), List.mem_of_getElem? (i := 1582) (by decide +kernel)⟩
theorem lw_p68 : lw_okq (⟨"PaymentRunsModel", "isFirst", "(II)Z"⟩, 43) := ⟨⟨by decide +kernel, by decide +kernel⟩, List.mem_of_getElem? (i := 1222) (by decide +kernel), List.mem_of_getElem? (i := 1595) (by decide +kernel), List.mem_of_getElem? (i := 1596) (by decide +kernel)⟩
theorem lw_p69 : lw_okq (⟨"PaymentRunsModel", "laysNow", "()V"⟩, 43) := ⟨⟨by decide +kernel, by decide +kernel⟩, List.mem_of_getElem? (i := 1222) (by decide +kernel), List.mem_of_getElem? (i := 1603) (by decide +kernel), List.mem_of_getElem? (i := 1604) (by decide +kernel)⟩
theorem lw_p70 : lw_okq (⟨"PaymentRunsModel", "runs", "()V"⟩, 43) := ⟨⟨by decide +kernel, by decide +kernel⟩, List.mem_of_getElem? (i := 1222) (by decide +kernel), List.mem_of_getElem? (i := 1607) (by decide +kernel), List.mem_of_getElem? (i := 1608) (by decide +kernel)⟩
theorem lw_p71 : lw_okq (⟨"PaymentRunsModel", "laysTurns", "()V"⟩, 43) := ⟨⟨by decide +kernel, by decide +kernel⟩, List.mem_of_getElem? (i := 1222) (by decide +kernel), List.mem_of_getElem? (i := 1611) (by decide +kernel), List.mem_of_getElem? (i := 1612) (by decide +kernel)⟩
theorem lw_p72 : lw_okq (⟨"PaymentRunsModel", "isThere", "(I)Z"⟩, 43) := ⟨⟨by decide +kernel, by decide +kernel⟩, List.mem_of_getElem? (i := 1222) (by decide +kernel), List.mem_of_getElem? (i := 1615) (by decide +kernel), List.mem_of_getElem? (i := 1616) (by decide +kernel)⟩
theorem lw_p73 : lw_okq (⟨"PaymentRunsModel", "dayFor", "(I)I"⟩, 43) := ⟨⟨by decide +kernel, by decide +kernel⟩, List.mem_of_getElem? (i := 1222) (by decide +kernel), List.mem_of_getElem? (i := 1622) (by decide +kernel), List.mem_of_getElem? (i := 1623) (by decide +kernel)⟩
theorem lw_p74 : lw_okq (⟨"PaymentRunsModel", "isUsed", "(I)Z"⟩, 43) := ⟨⟨by decide +kernel, by decide +kernel⟩, List.mem_of_getElem? (i := 1222) (by decide +kernel), List.mem_of_getElem? (i := 1627) (by decide +kernel), List.mem_of_getElem? (i := 1628) (by decide +kernel)⟩
theorem lw_p75 : lw_okq (⟨"PaymentRunsModel", "isAbove", "(I)Z"⟩, 43) := ⟨⟨by decide +kernel, by decide +kernel⟩, List.mem_of_getElem? (i := 1222) (by decide +kernel), List.mem_of_getElem? (i := 1631) (by decide +kernel), List.mem_of_getElem? (i := 1632) (by decide +kernel)⟩
theorem lw_p76 : lw_okq (⟨"PaymentRunsModel", "laysCash", "()V"⟩, 43) := ⟨⟨by decide +kernel, by decide +kernel⟩, List.mem_of_getElem? (i := 1222) (by decide +kernel), List.mem_of_getElem? (i := 1635) (by decide +kernel), List.mem_of_getElem? (i := 1636) (by decide +kernel)⟩
theorem lw_p77 : lw_okq (⟨"PaymentRunsModel", "outOn", "(I)I"⟩, 43) := ⟨⟨by decide +kernel, by decide +kernel⟩, List.mem_of_getElem? (i := 1222) (by decide +kernel), List.mem_of_getElem? (i := 1639) (by decide +kernel), List.mem_of_getElem? (i := 1640) (by decide +kernel)⟩
theorem lw_p78 : lw_okq (⟨"PaymentRunsModel", "cameBy", "(I)I"⟩, 43) := ⟨⟨by decide +kernel, by decide +kernel⟩, List.mem_of_getElem? (i := 1222) (by decide +kernel), List.mem_of_getElem? (i := 1643) (by decide +kernel), List.mem_of_getElem? (i := 1644) (by decide +kernel)⟩
theorem lw_p79 : lw_okq (⟨"PaymentRunsModel", "dayOf", "(I)I"⟩, 43) := ⟨⟨by decide +kernel, by decide +kernel⟩, List.mem_of_getElem? (i := 1222) (by decide +kernel), List.mem_of_getElem? (i := 1647) (by decide +kernel), List.mem_of_getElem? (i := 1648) (by decide +kernel)⟩
def lw_privs_5 : List (MethodName × Nat) := [(⟨"PaymentRunsModel", "lateOf", "(II)I"⟩, 43), (⟨"PaymentRunsModel", "isDay", "(I)Z"⟩, 43), (⟨"PaymentRunsModel", "isDesk", "()Z"⟩, 43), (⟨"PaymentRunsModel", "spanOf", "(I)I"⟩, 43), (⟨"PaymentRunsModel", "isFirst", "(II)Z"⟩, 43), (⟨"PaymentRunsModel", "laysNow", "()V"⟩, 43), (⟨"PaymentRunsModel", "runs", "()V"⟩, 43), (⟨"PaymentRunsModel", "laysTurns", "()V"⟩, 43), (⟨"PaymentRunsModel", "isThere", "(I)Z"⟩, 43), (⟨"PaymentRunsModel", "dayFor", "(I)I"⟩, 43), (⟨"PaymentRunsModel", "isUsed", "(I)Z"⟩, 43), (⟨"PaymentRunsModel", "isAbove", "(I)Z"⟩, 43), (⟨"PaymentRunsModel", "laysCash", "()V"⟩, 43), (⟨"PaymentRunsModel", "outOn", "(I)I"⟩, 43), (⟨"PaymentRunsModel", "cameBy", "(I)I"⟩, 43), (⟨"PaymentRunsModel", "dayOf", "(I)I"⟩, 43)]
theorem lw_r5 : ∀ q ∈ lw_privs_5, lw_okq q := List.forall_mem_cons.mpr ⟨lw_p64, List.forall_mem_cons.mpr ⟨lw_p65, List.forall_mem_cons.mpr ⟨lw_p66, List.forall_mem_cons.mpr ⟨lw_p67, List.forall_mem_cons.mpr ⟨lw_p68, List.forall_mem_cons.mpr ⟨lw_p69, List.forall_mem_cons.mpr ⟨lw_p70, List.forall_mem_cons.mpr ⟨lw_p71, List.forall_mem_cons.mpr ⟨lw_p72, List.forall_mem_cons.mpr ⟨lw_p73, List.forall_mem_cons.mpr ⟨lw_p74, List.forall_mem_cons.mpr ⟨lw_p75, List.forall_mem_cons.mpr ⟨lw_p76, List.forall_mem_cons.mpr ⟨lw_p77, List.forall_mem_cons.mpr ⟨lw_p78, List.forall_mem_cons.mpr ⟨lw_p79, fun _ h => absurd h List.not_mem_nil⟩⟩⟩⟩⟩⟩⟩⟩⟩⟩⟩⟩⟩⟩⟩⟩
theorem lw_p80 : lw_okq (⟨"PaymentRunsModel", "fileOn", "(I)I"⟩, 43) := ⟨⟨by decide +kernel, by decide +kernel⟩, List.mem_of_getElem? (i := 1222) (by decide +kernel), List.mem_of_getElem? (i := 1659) (by decide +kernel), List.mem_of_getElem? (i := 1660) (by decide +kernel)⟩
theorem lw_p81 : lw_okq (⟨"PaymentRunsModel", "tightNow", "()I"⟩, 43) := ⟨⟨by decide +kernel, by decide +kernel⟩, List.mem_of_getElem? (i := 1222) (by decide +kernel), List.mem_of_getElem? (i := 1676) (by decide +kernel), List.mem_of_getElem? (i := 1677) (by decide +kernel)⟩
theorem lw_p82 : lw_okq (⟨"PaymentRunsModel", "isCaught", "(I)Z"⟩, 43) := ⟨⟨by decide +kernel, by decide +kernel⟩, List.mem_of_getElem? (i := 1222) (by decide +kernel), List.mem_of_getElem? (i := 1696) (by decide +kernel), List.mem_of_getElem? (i := 1697) (by decide +kernel)⟩
theorem lw_p83 : lw_okq (⟨"PaymentRunsModel", "totalNow", "()I"⟩, 43) := ⟨⟨by decide +kernel, by decide +kernel⟩, List.mem_of_getElem? (i := 1222) (by decide +kernel), List.mem_of_getElem? (i := 1716) (by decide +kernel), List.mem_of_getElem? (i := 1717) (by decide +kernel)⟩
theorem lw_p84 : lw_okq (⟨"PaymentRunsModel", "paidTo", "(I)I"⟩, 43) := ⟨⟨by decide +kernel, by decide +kernel⟩, List.mem_of_getElem? (i := 1222) (by decide +kernel), List.mem_of_getElem? (i := 1728) (by decide +kernel), List.mem_of_getElem? (i := 1729) (by decide +kernel)⟩
theorem lw_p85 : lw_okq (⟨"PaymentRunsModel", "whyNotPlan", "(I)I"⟩, 43) := ⟨⟨by decide +kernel, by decide +kernel⟩, List.mem_of_getElem? (i := 1222) (by decide +kernel), List.mem_of_getElem? (i := 1747) (by decide +kernel), List.mem_of_getElem? (i := 1748) (by decide +kernel)⟩
theorem lw_p86 : lw_okq (⟨"PaymentRunsModel", "laysPlan", "(I)V"⟩, 43) := ⟨⟨by decide +kernel, by decide +kernel⟩, List.mem_of_getElem? (i := 1222) (by decide +kernel), List.mem_of_getElem? (i := 1751) (by decide +kernel), List.mem_of_getElem? (i := 1752) (by decide +kernel)⟩
theorem lw_p87 : lw_okq (⟨"PaymentRunsModel", "isLawful", "()Z"⟩, 43) := ⟨⟨by decide +kernel, by decide +kernel⟩, List.mem_of_getElem? (i := 1222) (by decide +kernel), List.mem_of_getElem? (i := 1755) (by decide +kernel), List.mem_of_getElem? (i := 1756) (by decide +kernel)⟩
theorem lw_p88 : lw_okq (⟨"PaymentRunsModel", "laysBest", "(II)V"⟩, 43) := ⟨⟨by decide +kernel, by decide +kernel⟩, List.mem_of_getElem? (i := 1222) (by decide +kernel), List.mem_of_getElem? (i := 1774) (by decide +kernel), List.mem_of_getElem? (i := 1775) (by decide +kernel)⟩
theorem lw_p89 : lw_okq (⟨"PaymentRunsModel", "allPlans", "()I"⟩, 43) := ⟨⟨by decide +kernel, by decide +kernel⟩, List.mem_of_getElem? (i := 1222) (by decide +kernel), List.mem_of_getElem? (i := 1778) (by decide +kernel), List.mem_of_getElem? (i := 1779) (by decide +kernel)⟩
theorem lw_p90 : lw_okq (⟨"PaymentRunsModel", "laysNth", "(I)V"⟩, 43) := ⟨⟨by decide +kernel, by decide +kernel⟩, List.mem_of_getElem? (i := 1222) (by decide +kernel), List.mem_of_getElem? (i := 1782) (by decide +kernel), List.mem_of_getElem? (i := 1783) (by decide +kernel)⟩
theorem lw_p91 : lw_okq (⟨"PaymentRunsModel", "laysBatch", "()V"⟩, 43) := ⟨⟨by decide +kernel, by decide +kernel⟩, List.mem_of_getElem? (i := 1222) (by decide +kernel), List.mem_of_getElem? (i := 1798) (by decide +kernel), List.mem_of_getElem? (i := 1799) (by decide +kernel)⟩
theorem lw_p92 : lw_okq (⟨"PaymentRunsModel", "usedDays", "()I"⟩, 43) := ⟨⟨by decide +kernel, by decide +kernel⟩, List.mem_of_getElem? (i := 1222) (by decide +kernel), List.mem_of_getElem? (i := 1802) (by decide +kernel), List.mem_of_getElem? (i := 1803) (by decide +kernel)⟩
theorem lw_p93 : lw_okq (⟨"PaymentRunsModel", "totalBy", "()I"⟩, 43) := ⟨⟨by decide +kernel, by decide +kernel⟩, List.mem_of_getElem? (i := 1222) (by decide +kernel), List.mem_of_getElem? (i := 1822) (by decide +kernel), List.mem_of_getElem? (i := 1823) (by decide +kernel)⟩
theorem lw_p94 : lw_okq (⟨"PaymentRunsModel", "whyNot", "(IZ)I"⟩, 43) := ⟨⟨by decide +kernel, by decide +kernel⟩, List.mem_of_getElem? (i := 1222) (by decide +kernel), List.mem_of_getElem? (i := 1846) (by decide +kernel), List.mem_of_getElem? (i := 1847) (by decide +kernel)⟩
theorem lw_p95 : lw_okq (⟨"PaymentRunsModel", "laysSeen", "(II)V"⟩, 43) := ⟨⟨by decide +kernel, by decide +kernel⟩, List.mem_of_getElem? (i := 1222) (by decide +kernel), List.mem_of_getElem? (i := 1850) (by decide +kernel), List.mem_of_getElem? (i := 1851) (by decide +kernel)⟩
def lw_privs_6 : List (MethodName × Nat) := [(⟨"PaymentRunsModel", "fileOn", "(I)I"⟩, 43), (⟨"PaymentRunsModel", "tightNow", "()I"⟩, 43), (⟨"PaymentRunsModel", "isCaught", "(I)Z"⟩, 43), (⟨"PaymentRunsModel", "totalNow", "()I"⟩, 43), (⟨"PaymentRunsModel", "paidTo", "(I)I"⟩, 43), (⟨"PaymentRunsModel", "whyNotPlan", "(I)I"⟩, 43), (⟨"PaymentRunsModel", "laysPlan", "(I)V"⟩, 43), (⟨"PaymentRunsModel", "isLawful", "()Z"⟩, 43), (⟨"PaymentRunsModel", "laysBest", "(II)V"⟩, 43), (⟨"PaymentRunsModel", "allPlans", "()I"⟩, 43), (⟨"PaymentRunsModel", "laysNth", "(I)V"⟩, 43), (⟨"PaymentRunsModel", "laysBatch", "()V"⟩, 43), (⟨"PaymentRunsModel", "usedDays", "()I"⟩, 43), (⟨"PaymentRunsModel", "totalBy", "()I"⟩, 43), (⟨"PaymentRunsModel", "whyNot", "(IZ)I"⟩, 43), (⟨"PaymentRunsModel", "laysSeen", "(II)V"⟩, 43)]
theorem lw_r6 : ∀ q ∈ lw_privs_6, lw_okq q := List.forall_mem_cons.mpr ⟨lw_p80, List.forall_mem_cons.mpr ⟨lw_p81, List.forall_mem_cons.mpr ⟨lw_p82, List.forall_mem_cons.mpr ⟨lw_p83, List.forall_mem_cons.mpr ⟨lw_p84, List.forall_mem_cons.mpr ⟨lw_p85, List.forall_mem_cons.mpr ⟨lw_p86, List.forall_mem_cons.mpr ⟨lw_p87, List.forall_mem_cons.mpr ⟨lw_p88, List.forall_mem_cons.mpr ⟨lw_p89, List.forall_mem_cons.mpr ⟨lw_p90, List.forall_mem_cons.mpr ⟨lw_p91, List.forall_mem_cons.mpr ⟨lw_p92, List.forall_mem_cons.mpr ⟨lw_p93, List.forall_mem_cons.mpr ⟨lw_p94, List.forall_mem_cons.mpr ⟨lw_p95, fun _ h => absurd h List.not_mem_nil⟩⟩⟩⟩⟩⟩⟩⟩⟩⟩⟩⟩⟩⟩⟩⟩
theorem lw_p96 : lw_okq (⟨"PaymentRunsModel", "isSo", "(I)Z"⟩, 43) := ⟨⟨by decide +kernel, by decide +kernel⟩, List.mem_of_getElem? (i := 1222) (by decide +kernel), List.mem_of_getElem? (i := 1854) (by decide +kernel), List.mem_of_getElem? (i := 1855) (by decide +kernel)⟩
theorem lw_p97 : lw_okq (⟨"PaymentRunsModel", "worstBy", "(I)I"⟩, 43) := ⟨⟨by decide +kernel, by decide +kernel⟩, List.mem_of_getElem? (i := 1222) (by decide +kernel), List.mem_of_getElem? (i := 1858) (by decide +kernel), List.mem_of_getElem? (i := 1859) (by decide +kernel)⟩
theorem lw_p98 : lw_okq (⟨"PaymentRunsModel", "totalByLaw", "(I)I"⟩, 43) := ⟨⟨by decide +kernel, by decide +kernel⟩, List.mem_of_getElem? (i := 1222) (by decide +kernel), List.mem_of_getElem? (i := 1882) (by decide +kernel), List.mem_of_getElem? (i := 1883) (by decide +kernel)⟩
theorem lw_p99 : lw_okq (⟨"PaymentRunsModel", "every", "()I"⟩, 43) := ⟨⟨by decide +kernel, by decide +kernel⟩, List.mem_of_getElem? (i := 1222) (by decide +kernel), List.mem_of_getElem? (i := 1898) (by decide +kernel), List.mem_of_getElem? (i := 1899) (by decide +kernel)⟩
theorem lw_p100 : lw_okq (⟨"PaymentRunsModel", "worthOf", "(I)I"⟩, 43) := ⟨⟨by decide +kernel, by decide +kernel⟩, List.mem_of_getElem? (i := 1222) (by decide +kernel), List.mem_of_getElem? (i := 1902) (by decide +kernel), List.mem_of_getElem? (i := 1903) (by decide +kernel)⟩
theorem lw_p101 : lw_okq (⟨"PaymentRunsModel", "areTwo", "(II)Z"⟩, 43) := ⟨⟨by decide +kernel, by decide +kernel⟩, List.mem_of_getElem? (i := 1222) (by decide +kernel), List.mem_of_getElem? (i := 1918) (by decide +kernel), List.mem_of_getElem? (i := 1919) (by decide +kernel)⟩
theorem lw_p102 : lw_okq (⟨"PaymentRunsModel", "hasBy", "(IIIII)I"⟩, 43) := ⟨⟨by decide +kernel, by decide +kernel⟩, List.mem_of_getElem? (i := 1222) (by decide +kernel), List.mem_of_getElem? (i := 1922) (by decide +kernel), List.mem_of_getElem? (i := 1923) (by decide +kernel)⟩
theorem lw_p103 : lw_okq (⟨"PaymentRunsModel", "weightOf", "(I)J"⟩, 43) := ⟨⟨by decide +kernel, by decide +kernel⟩, List.mem_of_getElem? (i := 1222) (by decide +kernel), List.mem_of_getElem? (i := 1934) (by decide +kernel), List.mem_of_getElem? (i := 1935) (by decide +kernel)⟩
theorem lw_p104 : lw_okq (⟨"PaymentRunsModel", "draws", "(J)I"⟩, 43) := ⟨⟨by decide +kernel, by decide +kernel⟩, List.mem_of_getElem? (i := 1222) (by decide +kernel), List.mem_of_getElem? (i := 1955) (by decide +kernel), List.mem_of_getElem? (i := 1956) (by decide +kernel)⟩
theorem lw_p105 : lw_okq (⟨"PaymentRunsModel", "does", "(II)I"⟩, 43) := ⟨⟨by decide +kernel, by decide +kernel⟩, List.mem_of_getElem? (i := 1222) (by decide +kernel), List.mem_of_getElem? (i := 1972) (by decide +kernel), List.mem_of_getElem? (i := 1973) (by decide +kernel)⟩
def lw_privs_7 : List (MethodName × Nat) := [(⟨"PaymentRunsModel", "isSo", "(I)Z"⟩, 43), (⟨"PaymentRunsModel", "worstBy", "(I)I"⟩, 43), (⟨"PaymentRunsModel", "totalByLaw", "(I)I"⟩, 43), (⟨"PaymentRunsModel", "every", "()I"⟩, 43), (⟨"PaymentRunsModel", "worthOf", "(I)I"⟩, 43), (⟨"PaymentRunsModel", "areTwo", "(II)Z"⟩, 43), (⟨"PaymentRunsModel", "hasBy", "(IIIII)I"⟩, 43), (⟨"PaymentRunsModel", "weightOf", "(I)J"⟩, 43), (⟨"PaymentRunsModel", "draws", "(J)I"⟩, 43), (⟨"PaymentRunsModel", "does", "(II)I"⟩, 43)]
theorem lw_r7 : ∀ q ∈ lw_privs_7, lw_okq q := List.forall_mem_cons.mpr ⟨lw_p96, List.forall_mem_cons.mpr ⟨lw_p97, List.forall_mem_cons.mpr ⟨lw_p98, List.forall_mem_cons.mpr ⟨lw_p99, List.forall_mem_cons.mpr ⟨lw_p100, List.forall_mem_cons.mpr ⟨lw_p101, List.forall_mem_cons.mpr ⟨lw_p102, List.forall_mem_cons.mpr ⟨lw_p103, List.forall_mem_cons.mpr ⟨lw_p104, List.forall_mem_cons.mpr ⟨lw_p105, fun _ h => absurd h List.not_mem_nil⟩⟩⟩⟩⟩⟩⟩⟩⟩⟩
def lw_privs : List (MethodName × Nat) := lw_privs_1 ++ (lw_privs_2 ++ (lw_privs_3 ++ (lw_privs_4 ++ (lw_privs_5 ++ (lw_privs_6 ++ (lw_privs_7))))))
def lw_tbl : List Cond := k2_sels lw_privs ++ tables_1
theorem lw_privs_ok : ∀ q ∈ lw_privs, lw_okq q := by
  show ∀ q ∈ lw_privs_1 ++ (lw_privs_2 ++ (lw_privs_3 ++ (lw_privs_4 ++ (lw_privs_5 ++ (lw_privs_6 ++ (lw_privs_7)))))), lw_okq q
  exact List.forall_mem_append.mpr ⟨lw_r1, List.forall_mem_append.mpr ⟨lw_r2, List.forall_mem_append.mpr ⟨lw_r3, List.forall_mem_append.mpr ⟨lw_r4, List.forall_mem_append.mpr ⟨lw_r5, List.forall_mem_append.mpr ⟨lw_r6, lw_r7⟩⟩⟩⟩⟩⟩
-- ===== end of PART A; then your names; then what follows =====
end
section
def RX0 : String := "PaymentRuns$Desk"
def TX0 : u_T := fun k => match k with
  | 0 => ("PaymentRuns$Desk", "lines", "I", false)
  | 1 => ("PaymentRuns$Desk", "days", "I", false)
  | 2 => ("PaymentRuns$Desk", "law", "I", false)
  | 3 => ("PaymentRuns$Desk", "odds", "I", false)
  | 4 => ("PaymentRuns$Desk", "cash", "I", false)
  | 5 => ("PaymentRuns$Desk", "floor", "I", false)
  | 6 => ("PaymentRuns$Desk", "fee", "I", false)
  | 7 => ("PaymentRuns$Desk", "suppliers", "I", false)
  | 8 => ("PaymentRuns$Desk", "bills", "I", false)
  | 9 => ("PaymentRuns$Desk", "incomes", "I", false)
  | 10 => ("PaymentRuns$Desk", "acts", "I", false)
  | 11 => ("PaymentRuns$Desk", "rank", "[I", true)
  | 12 => ("PaymentRuns$Desk", "told", "[[I", true)
  | 13 => ("PaymentRuns$Desk", "amount", "[I", true)
  | 14 => ("PaymentRuns$Desk", "on", "[I", true)
  | _ => ("PaymentRuns$Desk", "act", "[I", true)
def tyX0 : Nat → FieldType := fun k => match k with
  | 0 => .int
  | 1 => .int
  | 2 => .int
  | 3 => .int
  | 4 => .int
  | 5 => .int
  | 6 => .int
  | 7 => .int
  | 8 => .int
  | 9 => .int
  | 10 => .int
  | 11 => .array .int
  | 12 => .array (.array .int)
  | 13 => .array .int
  | 14 => .array .int
  | _ => .array .int
theorem nmX0 : ∀ a, a < 16 → ∀ b, b < 16 → a ≠ b → (TX0 a).2.1 ≠ (TX0 b).2.1 := by decide +kernel
theorem tyX0_ok : ∀ k, k < 16 → parseFieldDescriptor (TX0 k).2.2.1 = some (tyX0 k) := by decide +kernel
def RX1 : String := "PaymentRuns$Game"
def TX1 : u_T := fun k => match k with
  | 0 => ("PaymentRuns$Game", "first", "[I", true)
  | _ => ("PaymentRuns$Game", "second", "[I", true)
def tyX1 : Nat → FieldType := fun k => match k with
  | 0 => .array .int
  | _ => .array .int
theorem nmX1 : ∀ a, a < 2 → ∀ b, b < 2 → a ≠ b → (TX1 a).2.1 ≠ (TX1 b).2.1 := by decide +kernel
theorem tyX1_ok : ∀ k, k < 2 → parseFieldDescriptor (TX1 k).2.2.1 = some (tyX1 k) := by decide +kernel
def RX2 : String := "PaymentRuns$Odds"
def TX2 : u_T := fun k => match k with
  | 0 => ("PaymentRuns$Odds", "above", "J", false)
  | _ => ("PaymentRuns$Odds", "below", "J", false)
def tyX2 : Nat → FieldType := fun k => match k with
  | 0 => .long
  | _ => .long
theorem nmX2 : ∀ a, a < 2 → ∀ b, b < 2 → a ≠ b → (TX2 a).2.1 ≠ (TX2 b).2.1 := by decide +kernel
theorem tyX2_ok : ∀ k, k < 2 → parseFieldDescriptor (TX2 k).2.2.1 = some (tyX2 k) := by decide +kernel
def RX3 : String := "PaymentRuns$Rows"
def TX3 : u_T := fun k => match k with
  | 0 => ("PaymentRuns$Rows", "number", "[[J", true)
  | 1 => ("PaymentRuns$Rows", "size", "[I", true)
  | _ => ("PaymentRuns$Rows", "width", "[I", true)
def tyX3 : Nat → FieldType := fun k => match k with
  | 0 => .array (.array .long)
  | 1 => .array .int
  | _ => .array .int
theorem nmX3 : ∀ a, a < 3 → ∀ b, b < 3 → a ≠ b → (TX3 a).2.1 ≠ (TX3 b).2.1 := by decide +kernel
theorem tyX3_ok : ∀ k, k < 3 → parseFieldDescriptor (TX3 k).2.2.1 = some (tyX3 k) := by decide +kernel
def RX4 : String := "PaymentRuns$Search"
def TX4 : u_T := fun k => match k with
  | 0 => ("PaymentRuns$Search", "found", "[I", true)
  | 1 => ("PaymentRuns$Search", "tried", "[I", true)
  | 2 => ("PaymentRuns$Search", "rest", "[I", true)
  | 3 => ("PaymentRuns$Search", "least", "I", false)
  | 4 => ("PaymentRuns$Search", "fixedBill", "I", false)
  | _ => ("PaymentRuns$Search", "fixedDay", "I", false)
def tyX4 : Nat → FieldType := fun k => match k with
  | 0 => .array .int
  | 1 => .array .int
  | 2 => .array .int
  | 3 => .int
  | 4 => .int
  | _ => .int
theorem nmX4 : ∀ a, a < 6 → ∀ b, b < 6 → a ≠ b → (TX4 a).2.1 ≠ (TX4 b).2.1 := by decide +kernel
theorem tyX4_ok : ∀ k, k < 6 → parseFieldDescriptor (TX4 k).2.2.1 = some (tyX4 k) := by decide +kernel
def RX5 : String := "PaymentRuns$Seen"
def TX5 : u_T := fun k => match k with
  | 0 => ("PaymentRuns$Seen", "isFit", "[Z", true)
  | 1 => ("PaymentRuns$Seen", "days", "[[I", true)
  | _ => ("PaymentRuns$Seen", "now", "I", false)
def tyX5 : Nat → FieldType := fun k => match k with
  | 0 => .array .boolean
  | 1 => .array (.array .int)
  | _ => .int
theorem nmX5 : ∀ a, a < 3 → ∀ b, b < 3 → a ≠ b → (TX5 a).2.1 ≠ (TX5 b).2.1 := by decide +kernel
theorem tyX5_ok : ∀ k, k < 3 → parseFieldDescriptor (TX5 k).2.2.1 = some (tyX5 k) := by decide +kernel
def RX6 : String := "PaymentRuns$Shares"
def TX6 : u_T := fun k => match k with
  | 0 => ("PaymentRuns$Shares", "above", "I", false)
  | _ => ("PaymentRuns$Shares", "below", "I", false)
def tyX6 : Nat → FieldType := fun k => match k with
  | 0 => .int
  | _ => .int
theorem nmX6 : ∀ a, a < 2 → ∀ b, b < 2 → a ≠ b → (TX6 a).2.1 ≠ (TX6 b).2.1 := by decide +kernel
theorem tyX6_ok : ∀ k, k < 2 → parseFieldDescriptor (TX6 k).2.2.1 = some (tyX6 k) := by decide +kernel
def RX7 : String := "PaymentRuns$Tape"
def TX7 : u_T := fun k => match k with
  | 0 => ("PaymentRuns$Tape", "text", "[B", true)
  | 1 => ("PaymentRuns$Tape", "draft", "LPaymentRuns$Desk;", true)
  | 2 => ("PaymentRuns$Tape", "length", "I", false)
  | 3 => ("PaymentRuns$Tape", "fault", "I", false)
  | 4 => ("PaymentRuns$Tape", "faultPlace", "I", false)
  | 5 => ("PaymentRuns$Tape", "at", "I", false)
  | 6 => ("PaymentRuns$Tape", "start", "I", false)
  | 7 => ("PaymentRuns$Tape", "kind", "I", false)
  | _ => ("PaymentRuns$Tape", "value", "I", false)
def tyX7 : Nat → FieldType := fun k => match k with
  | 0 => .array .byte
  | 1 => .object "PaymentRuns$Desk"
  | 2 => .int
  | 3 => .int
  | 4 => .int
  | 5 => .int
  | 6 => .int
  | 7 => .int
  | _ => .int
theorem nmX7 : ∀ a, a < 9 → ∀ b, b < 9 → a ≠ b → (TX7 a).2.1 ≠ (TX7 b).2.1 := by decide +kernel
theorem tyX7_ok : ∀ k, k < 9 → parseFieldDescriptor (TX7 k).2.2.1 = some (tyX7 k) := by decide +kernel
def RX8 : String := "PaymentRuns$Week"
def TX8 : u_T := fun k => match k with
  | 0 => ("PaymentRuns$Week", "desk", "LPaymentRuns$Desk;", true)
  | 1 => ("PaymentRuns$Week", "law", "I", false)
  | 2 => ("PaymentRuns$Week", "cash", "I", false)
  | 3 => ("PaymentRuns$Week", "floor", "I", false)
  | 4 => ("PaymentRuns$Week", "closedDays", "I", false)
  | 5 => ("PaymentRuns$Week", "set", "I", false)
  | 6 => ("PaymentRuns$Week", "coming", "I", false)
  | 7 => ("PaymentRuns$Week", "net", "[I", true)
  | 8 => ("PaymentRuns$Week", "off", "[I", true)
  | 9 => ("PaymentRuns$Week", "day", "[I", true)
  | 10 => ("PaymentRuns$Week", "order", "[I", true)
  | 11 => ("PaymentRuns$Week", "ordered", "I", false)
  | 12 => ("PaymentRuns$Week", "behind", "[I", true)
  | 13 => ("PaymentRuns$Week", "files", "[I", true)
  | _ => ("PaymentRuns$Week", "missing", "I", false)
def tyX8 : Nat → FieldType := fun k => match k with
  | 0 => .object "PaymentRuns$Desk"
  | 1 => .int
  | 2 => .int
  | 3 => .int
  | 4 => .int
  | 5 => .int
  | 6 => .int
  | 7 => .array .int
  | 8 => .array .int
  | 9 => .array .int
  | 10 => .array .int
  | 11 => .int
  | 12 => .array .int
  | 13 => .array .int
  | _ => .int
theorem nmX8 : ∀ a, a < 15 → ∀ b, b < 15 → a ≠ b → (TX8 a).2.1 ≠ (TX8 b).2.1 := by decide +kernel
theorem tyX8_ok : ∀ k, k < 15 → parseFieldDescriptor (TX8 k).2.2.1 = some (tyX8 k) := by decide +kernel
def RX9 : String := "PaymentRuns"
def TX9 : u_T := fun k => match k with
  | 0 => ("PaymentRuns", "tape", "LPaymentRuns$Tape;", true)
  | 1 => ("PaymentRuns", "week", "LPaymentRuns$Week;", true)
  | 2 => ("PaymentRuns", "desk", "LPaymentRuns$Desk;", true)
  | 3 => ("PaymentRuns", "images", "[LPaymentRuns$Desk;", true)
  | 4 => ("PaymentRuns", "kept", "[Z", true)
  | 5 => ("PaymentRuns", "rows", "LPaymentRuns$Rows;", true)
  | 6 => ("PaymentRuns", "search", "LPaymentRuns$Search;", true)
  | 7 => ("PaymentRuns", "seen", "LPaymentRuns$Seen;", true)
  | 8 => ("PaymentRuns", "shares", "LPaymentRuns$Shares;", true)
  | 9 => ("PaymentRuns", "game", "LPaymentRuns$Game;", true)
  | _ => ("PaymentRuns", "odds", "LPaymentRuns$Odds;", true)
def tyX9 : Nat → FieldType := fun k => match k with
  | 0 => .object "PaymentRuns$Tape"
  | 1 => .object "PaymentRuns$Week"
  | 2 => .object "PaymentRuns$Desk"
  | 3 => .array (.object "PaymentRuns$Desk")
  | 4 => .array .boolean
  | 5 => .object "PaymentRuns$Rows"
  | 6 => .object "PaymentRuns$Search"
  | 7 => .object "PaymentRuns$Seen"
  | 8 => .object "PaymentRuns$Shares"
  | 9 => .object "PaymentRuns$Game"
  | _ => .object "PaymentRuns$Odds"
theorem nmX9 : ∀ a, a < 11 → ∀ b, b < 11 → a ≠ b → (TX9 a).2.1 ≠ (TX9 b).2.1 := by decide +kernel
theorem tyX9_ok : ∀ k, k < 11 → parseFieldDescriptor (TX9 k).2.2.1 = some (tyX9 k) := by decide +kernel
def RX10 : String := "PaymentRunsModel"
def TX10 : u_T := fun k => match k with
  | 0 => ("PaymentRunsModel", "thrown", "I", false)
  | 1 => ("PaymentRunsModel", "width", "[I", true)
  | 2 => ("PaymentRunsModel", "many", "[I", true)
  | 3 => ("PaymentRunsModel", "cells", "[J", true)
  | 4 => ("PaymentRunsModel", "moved", "[J", true)
  | 5 => ("PaymentRunsModel", "tape", "[B", true)
  | 6 => ("PaymentRunsModel", "taped", "I", false)
  | 7 => ("PaymentRunsModel", "spot", "I", false)
  | 8 => ("PaymentRunsModel", "token", "I", false)
  | 9 => ("PaymentRunsModel", "place", "I", false)
  | 10 => ("PaymentRunsModel", "value", "I", false)
  | 11 => ("PaymentRunsModel", "word", "J", false)
  | 12 => ("PaymentRunsModel", "bad", "I", false)
  | 13 => ("PaymentRunsModel", "badPlace", "I", false)
  | 14 => ("PaymentRunsModel", "fault", "I", false)
  | 15 => ("PaymentRunsModel", "faultPlace", "I", false)
  | 16 => ("PaymentRunsModel", "lines", "[I", true)
  | 17 => ("PaymentRunsModel", "has", "[I", true)
  | 18 => ("PaymentRunsModel", "rankOf", "[I", true)
  | 19 => ("PaymentRunsModel", "told", "[I", true)
  | 20 => ("PaymentRunsModel", "loadOf", "[I", true)
  | 21 => ("PaymentRunsModel", "act", "[I", true)
  | 22 => ("PaymentRunsModel", "isKept", "[Z", true)
  | 23 => ("PaymentRunsModel", "law", "I", false)
  | 24 => ("PaymentRunsModel", "money", "I", false)
  | 25 => ("PaymentRunsModel", "least0", "I", false)
  | 26 => ("PaymentRunsModel", "away", "I", false)
  | 27 => ("PaymentRunsModel", "closedBits", "I", false)
  | 28 => ("PaymentRunsModel", "silent", "I", false)
  | 29 => ("PaymentRunsModel", "offNow", "[I", true)
  | 30 => ("PaymentRunsModel", "netNow", "[I", true)
  | 31 => ("PaymentRunsModel", "plan", "[I", true)
  | 32 => ("PaymentRunsModel", "cashAt", "[I", true)
  | 33 => ("PaymentRunsModel", "turn", "[I", true)
  | 34 => ("PaymentRunsModel", "turns0", "I", false)
  | 35 => ("PaymentRunsModel", "bestTotal", "I", false)
  | 36 => ("PaymentRunsModel", "bestPlan", "I", false)
  | 37 => ("PaymentRunsModel", "batchTotal", "I", false)
  | 38 => ("PaymentRunsModel", "batchDay", "I", false)
  | 39 => ("PaymentRunsModel", "seenBits", "I", false)
  | 40 => ("PaymentRunsModel", "askBest", "I", false)
  | 41 => ("PaymentRunsModel", "askLeaves", "I", false)
  | _ => ("PaymentRunsModel", "byOff", "[I", true)
def tyX10 : Nat → FieldType := fun k => match k with
  | 0 => .int
  | 1 => .array .int
  | 2 => .array .int
  | 3 => .array .long
  | 4 => .array .long
  | 5 => .array .byte
  | 6 => .int
  | 7 => .int
  | 8 => .int
  | 9 => .int
  | 10 => .int
  | 11 => .long
  | 12 => .int
  | 13 => .int
  | 14 => .int
  | 15 => .int
  | 16 => .array .int
  | 17 => .array .int
  | 18 => .array .int
  | 19 => .array .int
  | 20 => .array .int
  | 21 => .array .int
  | 22 => .array .boolean
  | 23 => .int
  | 24 => .int
  | 25 => .int
  | 26 => .int
  | 27 => .int
  | 28 => .int
  | 29 => .array .int
  | 30 => .array .int
  | 31 => .array .int
  | 32 => .array .int
  | 33 => .array .int
  | 34 => .int
  | 35 => .int
  | 36 => .int
  | 37 => .int
  | 38 => .int
  | 39 => .int
  | 40 => .int
  | 41 => .int
  | _ => .array .int
theorem nmX10 : ∀ a, a < 43 → ∀ b, b < 43 → a ≠ b → (TX10 a).2.1 ≠ (TX10 b).2.1 := by decide +kernel
theorem tyX10_ok : ∀ k, k < 43 → parseFieldDescriptor (TX10 k).2.2.1 = some (tyX10 k) := by decide +kernel
abbrev vwCl : List vw_C := [(RX0, TX0, 16), (RX1, TX1, 2), (RX2, TX2, 2), (RX3, TX3, 3), (RX4, TX4, 6), (RX5, TX5, 3), (RX6, TX6, 2), (RX7, TX7, 9), (RX8, TX8, 15), (RX9, TX9, 11), (RX10, TX10, 43)]
def zTg : List (List Nat) := [[0, 0, 0, 0, 0, 0, 0, 0, 0, 0, 0, 2, 2, 2, 2, 2], [2, 2], [1, 1], [2, 2, 2], [2, 2, 2, 0, 0, 0], [2, 2, 0], [0, 0], [2, 2, 0, 0, 0, 0, 0, 0, 0], [2, 0, 0, 0, 0, 0, 0, 2, 2, 2, 2, 0, 2, 2, 0], [2, 2, 2, 2, 2, 2, 2, 2, 2, 2, 2], [0, 2, 2, 2, 2, 2, 0, 0, 0, 0, 0, 1, 0, 0, 0, 0, 2, 2, 2, 2, 2, 2, 2, 0, 0, 0, 0, 0, 0, 2, 2, 2, 2, 2, 0, 0, 0, 0, 0, 0, 0, 0, 2]]
def zF (c j : Nat) : Nat := (zTg.getD c []).getD j 0
abbrev cX0_init : ByteArray := prog_2_method_1_code
def yX0_init : MethodName := ⟨RX0, "<init>", "()V"⟩
abbrev cX0_clearAll : ByteArray := prog_2_method_2_code
def yX0_clearAll : MethodName := ⟨RX0, "clearAll", "()V"⟩
abbrev cX0_become : ByteArray := prog_2_method_3_code
def yX0_become : MethodName := ⟨RX0, "become", "(LPaymentRuns$Desk;)V"⟩
abbrev cX0_addRelease : ByteArray := prog_2_method_4_code
def yX0_addRelease : MethodName := ⟨RX0, "addRelease", "(I)Z"⟩
abbrev cX0_addFailure : ByteArray := prog_2_method_5_code
def yX0_addFailure : MethodName := ⟨RX0, "addFailure", "(I)Z"⟩
abbrev cX0_addAct : ByteArray := prog_2_method_6_code
def yX0_addAct : MethodName := ⟨RX0, "addAct", "(I)Z"⟩
abbrev cX0_netOf : ByteArray := prog_2_method_7_code
def yX0_netOf : MethodName := ⟨RX0, "netOf", "(I)I"⟩
abbrev cX0_closedDays : ByteArray := prog_2_method_8_code
def yX0_closedDays : MethodName := ⟨RX0, "closedDays", "()I"⟩
abbrev cX0_incomeOn : ByteArray := prog_2_method_9_code
def yX0_incomeOn : MethodName := ⟨RX0, "incomeOn", "(I)I"⟩
abbrev cX0_incomeOn_ : ByteArray := prog_2_method_10_code
def yX0_incomeOn_ : MethodName := ⟨RX0, "incomeOn", "(II)I"⟩
abbrev cX1_init : ByteArray := prog_3_method_1_code
def yX1_init : MethodName := ⟨RX1, "<init>", "()V"⟩
abbrev cX1_play : ByteArray := prog_3_method_2_code
def yX1_play : MethodName := ⟨RX1, "play", "(LPaymentRuns$Week;III)V"⟩
abbrev cX1_gainOf : ByteArray := prog_3_method_3_code
def yX1_gainOf : MethodName := ⟨RX1, "gainOf", "(LPaymentRuns$Week;I)I"⟩
abbrev cX1_atRest : ByteArray := prog_3_method_4_code
def yX1_atRest : MethodName := ⟨RX1, "atRest", "(LPaymentRuns$Week;II)I"⟩
abbrev cX2_init : ByteArray := prog_4_method_1_code
def yX2_init : MethodName := ⟨RX2, "<init>", "()V"⟩
abbrev cX2_reckon : ByteArray := prog_4_method_2_code
def yX2_reckon : MethodName := ⟨RX2, "reckon", "(LPaymentRuns$Week;I)V"⟩
abbrev cX2_valueOf : ByteArray := prog_4_method_3_code
def yX2_valueOf : MethodName := ⟨RX2, "valueOf", "(LPaymentRuns$Week;I)I"⟩
abbrev cX2_weight : ByteArray := prog_4_method_4_code
def yX2_weight : MethodName := ⟨RX2, "weight", "(LPaymentRuns$Desk;I)J"⟩
abbrev cX2_draw : ByteArray := prog_4_method_5_code
def yX2_draw : MethodName := ⟨RX2, "draw", "(LPaymentRuns$Desk;J)I"⟩
abbrev cX3_init : ByteArray := prog_5_method_1_code
def yX3_init : MethodName := ⟨RX3, "<init>", "()V"⟩
abbrev cX3_isSlot : ByteArray := prog_5_method_2_code
def yX3_isSlot : MethodName := ⟨RX3, "isSlot", "(I)Z"⟩
abbrev cX3_isEmpty : ByteArray := prog_5_method_3_code
def yX3_isEmpty : MethodName := ⟨RX3, "isEmpty", "(I)Z"⟩
abbrev cX3_used : ByteArray := prog_5_method_4_code
def yX3_used : MethodName := ⟨RX3, "used", "()I"⟩
abbrev cX3_make : ByteArray := prog_5_method_5_code
def yX3_make : MethodName := ⟨RX3, "make", "(III)V"⟩
abbrev cX3_put : ByteArray := prog_5_method_6_code
def yX3_put : MethodName := ⟨RX3, "put", "(IIJ)V"⟩
abbrev cX3_reaches : ByteArray := prog_5_method_7_code
def yX3_reaches : MethodName := ⟨RX3, "reaches", "(III)Z"⟩
abbrev cX3_refusedPlan : ByteArray := prog_5_method_8_code
def yX3_refusedPlan : MethodName := ⟨RX3, "refusedPlan", "(III)I"⟩
abbrev cX3_refusedSeen : ByteArray := prog_5_method_9_code
def yX3_refusedSeen : MethodName := ⟨RX3, "refusedSeen", "(III)I"⟩
abbrev cX4_init : ByteArray := prog_6_method_1_code
def yX4_init : MethodName := ⟨RX4, "<init>", "()V"⟩
abbrev cX4_least : ByteArray := prog_6_method_2_code
def yX4_least : MethodName := ⟨RX4, "least", "(LPaymentRuns$Week;III)I"⟩
abbrev cX4_reckonRest : ByteArray := prog_6_method_3_code
def yX4_reckonRest : MethodName := ⟨RX4, "reckonRest", "(LPaymentRuns$Week;)V"⟩
abbrev cX4_choose : ByteArray := prog_6_method_4_code
def yX4_choose : MethodName := ⟨RX4, "choose", "(LPaymentRuns$Week;II)V"⟩
abbrev cX4_tryDay : ByteArray := prog_6_method_5_code
def yX4_tryDay : MethodName := ⟨RX4, "tryDay", "(LPaymentRuns$Week;III)V"⟩
abbrev cX5_init : ByteArray := prog_7_method_1_code
def yX5_init : MethodName := ⟨RX5, "<init>", "()V"⟩
abbrev cX5_fitting : ByteArray := prog_7_method_2_code
def yX5_fitting : MethodName := ⟨RX5, "fitting", "(LPaymentRuns$Week;LPaymentRuns$Rows;II)I"⟩
abbrev cX5_agrees : ByteArray := prog_7_method_3_code
def yX5_agrees : MethodName := ⟨RX5, "agrees", "(LPaymentRuns$Week;LPaymentRuns$Rows;I)Z"⟩
abbrev cX5_leastOff : ByteArray := prog_7_method_4_code
def yX5_leastOff : MethodName := ⟨RX5, "leastOff", "()I"⟩
abbrev cX5_greatestOff : ByteArray := prog_7_method_5_code
def yX5_greatestOff : MethodName := ⟨RX5, "greatestOff", "()I"⟩
abbrev cX5_question : ByteArray := prog_7_method_6_code
def yX5_question : MethodName := ⟨RX5, "question", "(II)I"⟩
abbrev cX5_worst : ByteArray := prog_7_method_7_code
def yX5_worst : MethodName := ⟨RX5, "worst", "(II)I"⟩
abbrev cX6_init : ByteArray := prog_8_method_1_code
def yX6_init : MethodName := ⟨RX6, "<init>", "()V"⟩
abbrev cX6_worthOf : ByteArray := prog_8_method_2_code
def yX6_worthOf : MethodName := ⟨RX6, "worthOf", "(LPaymentRuns$Week;I)I"⟩
abbrev cX6_reckon : ByteArray := prog_8_method_3_code
def yX6_reckon : MethodName := ⟨RX6, "reckon", "(LPaymentRuns$Week;I)V"⟩
abbrev cX7_init : ByteArray := prog_9_method_1_code
def yX7_init : MethodName := ⟨RX7, "<init>", "()V"⟩
abbrev cX7_add : ByteArray := prog_9_method_2_code
def yX7_add : MethodName := ⟨RX7, "add", "(I)V"⟩
abbrev cX7_read : ByteArray := prog_9_method_3_code
def yX7_read : MethodName := ⟨RX7, "read", "()V"⟩
abbrev cX7_readDesk : ByteArray := prog_9_method_4_code
def yX7_readDesk : MethodName := ⟨RX7, "readDesk", "()V"⟩
abbrev cX7_readSupplier : ByteArray := prog_9_method_5_code
def yX7_readSupplier : MethodName := ⟨RX7, "readSupplier", "()V"⟩
abbrev cX7_readBill : ByteArray := prog_9_method_6_code
def yX7_readBill : MethodName := ⟨RX7, "readBill", "()V"⟩
abbrev cX7_readIncome : ByteArray := prog_9_method_7_code
def yX7_readIncome : MethodName := ⟨RX7, "readIncome", "()V"⟩
abbrev cX7_takeField : ByteArray := prog_9_method_8_code
def yX7_takeField : MethodName := ⟨RX7, "takeField", "(Ljava/lang/String;II)I"⟩
abbrev cX7_takeWord : ByteArray := prog_9_method_9_code
def yX7_takeWord : MethodName := ⟨RX7, "takeWord", "(Ljava/lang/String;)V"⟩
abbrev cX7_takeNumber : ByteArray := prog_9_method_10_code
def yX7_takeNumber : MethodName := ⟨RX7, "takeNumber", "(II)I"⟩
abbrev cX7_takeSign : ByteArray := prog_9_method_11_code
def yX7_takeSign : MethodName := ⟨RX7, "takeSign", "()V"⟩
abbrev cX7_refuse : ByteArray := prog_9_method_12_code
def yX7_refuse : MethodName := ⟨RX7, "refuse", "(I)V"⟩
abbrev cX7_isWord : ByteArray := prog_9_method_13_code
def yX7_isWord : MethodName := ⟨RX7, "isWord", "(Ljava/lang/String;)Z"⟩
abbrev cX7_nextToken : ByteArray := prog_9_method_14_code
def yX7_nextToken : MethodName := ⟨RX7, "nextToken", "()V"⟩
abbrev cX7_digitOf : ByteArray := prog_9_method_15_code
def yX7_digitOf : MethodName := ⟨RX7, "digitOf", "(B)I"⟩
abbrev cX7_kindOf : ByteArray := prog_9_method_16_code
def yX7_kindOf : MethodName := ⟨RX7, "kindOf", "(B)I"⟩
abbrev cX8_init : ByteArray := prog_10_method_1_code
def yX8_init : MethodName := ⟨RX8, "<init>", "()V"⟩
abbrev cX8_allBills : ByteArray := prog_10_method_2_code
def yX8_allBills : MethodName := ⟨RX8, "allBills", "()I"⟩
abbrev cX8_asTold : ByteArray := prog_10_method_3_code
def yX8_asTold : MethodName := ⟨RX8, "asTold", "()V"⟩
abbrev cX8_clearPlan : ByteArray := prog_10_method_4_code
def yX8_clearPlan : MethodName := ⟨RX8, "clearPlan", "()V"⟩
abbrev cX8_planByLaw : ByteArray := prog_10_method_5_code
def yX8_planByLaw : MethodName := ⟨RX8, "planByLaw", "()V"⟩
abbrev cX8_putInOrder : ByteArray := prog_10_method_6_code
def yX8_putInOrder : MethodName := ⟨RX8, "putInOrder", "()V"⟩
abbrev cX8_isAhead : ByteArray := prog_10_method_7_code
def yX8_isAhead : MethodName := ⟨RX8, "isAhead", "(II)Z"⟩
abbrev cX8_rankOf : ByteArray := prog_10_method_8_code
def yX8_rankOf : MethodName := ⟨RX8, "rankOf", "(I)I"⟩
abbrev cX8_gain : ByteArray := prog_10_method_9_code
def yX8_gain : MethodName := ⟨RX8, "gain", "(I)I"⟩
abbrev cX8_span : ByteArray := prog_10_method_10_code
def yX8_span : MethodName := ⟨RX8, "span", "(I)I"⟩
abbrev cX8_dayByLaw : ByteArray := prog_10_method_11_code
def yX8_dayByLaw : MethodName := ⟨RX8, "dayByLaw", "(I)I"⟩
abbrev cX8_isClosed : ByteArray := prog_10_method_12_code
def yX8_isClosed : MethodName := ⟨RX8, "isClosed", "(I)Z"⟩
abbrev cX8_isIn : ByteArray := prog_10_method_13_code
def yX8_isIn : MethodName := ⟨RX8, "isIn", "(I)Z"⟩
abbrev cX8_isPaid : ByteArray := prog_10_method_14_code
def yX8_isPaid : MethodName := ⟨RX8, "isPaid", "(I)Z"⟩
abbrev cX8_isCaught : ByteArray := prog_10_method_15_code
def yX8_isCaught : MethodName := ⟨RX8, "isCaught", "(I)Z"⟩
abbrev cX8_dayOrLast : ByteArray := prog_10_method_16_code
def yX8_dayOrLast : MethodName := ⟨RX8, "dayOrLast", "(I)I"⟩
abbrev cX8_price : ByteArray := prog_10_method_17_code
def yX8_price : MethodName := ⟨RX8, "price", "(II)I"⟩
abbrev cX8_penalty : ByteArray := prog_10_method_18_code
def yX8_penalty : MethodName := ⟨RX8, "penalty", "(II)I"⟩
abbrev cX8_feeFor : ByteArray := prog_10_method_19_code
def yX8_feeFor : MethodName := ⟨RX8, "feeFor", "(I)I"⟩
abbrev cX8_pay : ByteArray := prog_10_method_20_code
def yX8_pay : MethodName := ⟨RX8, "pay", "(II)V"⟩
abbrev cX8_takeBack : ByteArray := prog_10_method_21_code
def yX8_takeBack : MethodName := ⟨RX8, "takeBack", "(I)V"⟩
abbrev cX8_spend : ByteArray := prog_10_method_22_code
def yX8_spend : MethodName := ⟨RX8, "spend", "(II)V"⟩
abbrev cX8_whole : ByteArray := prog_10_method_23_code
def yX8_whole : MethodName := ⟨RX8, "whole", "()I"⟩
abbrev cX8_allFees : ByteArray := prog_10_method_24_code
def yX8_allFees : MethodName := ⟨RX8, "allFees", "()I"⟩
abbrev cX8_unpaid : ByteArray := prog_10_method_25_code
def yX8_unpaid : MethodName := ⟨RX8, "unpaid", "()I"⟩
abbrev cX8_paidOn : ByteArray := prog_10_method_26_code
def yX8_paidOn : MethodName := ⟨RX8, "paidOn", "(I)I"⟩
abbrev cX8_paidTo : ByteArray := prog_10_method_27_code
def yX8_paidTo : MethodName := ⟨RX8, "paidTo", "(I)I"⟩
abbrev cX8_tightest : ByteArray := prog_10_method_28_code
def yX8_tightest : MethodName := ⟨RX8, "tightest", "()I"⟩
abbrev cX8_isLawful : ByteArray := prog_10_method_29_code
def yX8_isLawful : MethodName := ⟨RX8, "isLawful", "()Z"⟩
abbrev cX9_init : ByteArray := prog_1_method_1_code
def yX9_init : MethodName := ⟨RX9, "<init>", "()V"⟩
abbrev cX9_feed : ByteArray := prog_1_method_2_code
def yX9_feed : MethodName := ⟨RX9, "feed", "(IIIII)I"⟩
abbrev cX9_end : ByteArray := prog_1_method_3_code
def yX9_end : MethodName := ⟨RX9, "end", "(I)I"⟩
abbrev cX9_desk : ByteArray := prog_1_method_4_code
def yX9_desk : MethodName := ⟨RX9, "desk", "()I"⟩
abbrev cX9_fault : ByteArray := prog_1_method_5_code
def yX9_fault : MethodName := ⟨RX9, "fault", "(I)I"⟩
abbrev cX9_rank : ByteArray := prog_1_method_6_code
def yX9_rank : MethodName := ⟨RX9, "rank", "(I)I"⟩
abbrev cX9_bill : ByteArray := prog_1_method_7_code
def yX9_bill : MethodName := ⟨RX9, "bill", "(II)I"⟩
abbrev cX9_net : ByteArray := prog_1_method_8_code
def yX9_net : MethodName := ⟨RX9, "net", "(I)I"⟩
abbrev cX9_costs : ByteArray := prog_1_method_9_code
def yX9_costs : MethodName := ⟨RX9, "costs", "(II)I"⟩
abbrev cX9_comes : ByteArray := prog_1_method_10_code
def yX9_comes : MethodName := ⟨RX9, "comes", "(I)I"⟩
abbrev cX9_closed : ByteArray := prog_1_method_11_code
def yX9_closed : MethodName := ⟨RX9, "closed", "()I"⟩
abbrev cX9_rate : ByteArray := prog_1_method_12_code
def yX9_rate : MethodName := ⟨RX9, "rate", "(II)I"⟩
abbrev cX9_worthy : ByteArray := prog_1_method_13_code
def yX9_worthy : MethodName := ⟨RX9, "worthy", "()I"⟩
abbrev cX9_day : ByteArray := prog_1_method_14_code
def yX9_day : MethodName := ⟨RX9, "day", "(I)I"⟩
abbrev cX9_order : ByteArray := prog_1_method_15_code
def yX9_order : MethodName := ⟨RX9, "order", "(I)I"⟩
abbrev cX9_file : ByteArray := prog_1_method_16_code
def yX9_file : MethodName := ⟨RX9, "file", "(I)I"⟩
abbrev cX9_pays : ByteArray := prog_1_method_17_code
def yX9_pays : MethodName := ⟨RX9, "pays", "(I)I"⟩
abbrev cX9_cash : ByteArray := prog_1_method_18_code
def yX9_cash : MethodName := ⟨RX9, "cash", "(I)I"⟩
abbrev cX9_room : ByteArray := prog_1_method_19_code
def yX9_room : MethodName := ⟨RX9, "room", "()I"⟩
abbrev cX9_tight : ByteArray := prog_1_method_20_code
def yX9_tight : MethodName := ⟨RX9, "tight", "()I"⟩
abbrev cX9_fees : ByteArray := prog_1_method_21_code
def yX9_fees : MethodName := ⟨RX9, "fees", "()I"⟩
abbrev cX9_open : ByteArray := prog_1_method_22_code
def yX9_open : MethodName := ⟨RX9, "open", "()I"⟩
abbrev cX9_caught : ByteArray := prog_1_method_23_code
def yX9_caught : MethodName := ⟨RX9, "caught", "()I"⟩
abbrev cX9_late : ByteArray := prog_1_method_24_code
def yX9_late : MethodName := ⟨RX9, "late", "()I"⟩
abbrev cX9_saved : ByteArray := prog_1_method_25_code
def yX9_saved : MethodName := ⟨RX9, "saved", "()I"⟩
abbrev cX9_lost : ByteArray := prog_1_method_26_code
def yX9_lost : MethodName := ⟨RX9, "lost", "()I"⟩
abbrev cX9_total : ByteArray := prog_1_method_27_code
def yX9_total : MethodName := ⟨RX9, "total", "()I"⟩
abbrev cX9_early : ByteArray := prog_1_method_28_code
def yX9_early : MethodName := ⟨RX9, "early", "(I)I"⟩
abbrev cX9_gets : ByteArray := prog_1_method_29_code
def yX9_gets : MethodName := ⟨RX9, "gets", "(I)I"⟩
abbrev cX9_dear : ByteArray := prog_1_method_30_code
def yX9_dear : MethodName := ⟨RX9, "dear", "()I"⟩
abbrev cX9_busy : ByteArray := prog_1_method_31_code
def yX9_busy : MethodName := ⟨RX9, "busy", "()I"⟩
abbrev cX9_lawful : ByteArray := prog_1_method_32_code
def yX9_lawful : MethodName := ⟨RX9, "lawful", "(I)I"⟩
abbrev cX9_sums : ByteArray := prog_1_method_33_code
def yX9_sums : MethodName := ⟨RX9, "sums", "(I)I"⟩
abbrev cX9_falls : ByteArray := prog_1_method_34_code
def yX9_falls : MethodName := ⟨RX9, "falls", "(I)I"⟩
abbrev cX9_best : ByteArray := prog_1_method_35_code
def yX9_best : MethodName := ⟨RX9, "best", "()I"⟩
abbrev cX9_choice : ByteArray := prog_1_method_36_code
def yX9_choice : MethodName := ⟨RX9, "choice", "(I)I"⟩
abbrev cX9_waste : ByteArray := prog_1_method_37_code
def yX9_waste : MethodName := ⟨RX9, "waste", "()I"⟩
abbrev cX9_batch : ByteArray := prog_1_method_38_code
def yX9_batch : MethodName := ⟨RX9, "batch", "()I"⟩
abbrev cX9_when : ByteArray := prog_1_method_39_code
def yX9_when : MethodName := ⟨RX9, "when", "()I"⟩
abbrev cX9_with : ByteArray := prog_1_method_40_code
def yX9_with : MethodName := ⟨RX9, "with", "(II)I"⟩
abbrev cX9_may : ByteArray := prog_1_method_41_code
def yX9_may : MethodName := ⟨RX9, "may", "(I)I"⟩
abbrev cX9_blame : ByteArray := prog_1_method_42_code
def yX9_blame : MethodName := ⟨RX9, "blame", "()I"⟩
abbrev cX9_need : ByteArray := prog_1_method_43_code
def yX9_need : MethodName := ⟨RX9, "need", "()I"⟩
abbrev cX9_floor : ByteArray := prog_1_method_44_code
def yX9_floor : MethodName := ⟨RX9, "floor", "()I"⟩
abbrev cX9_broke : ByteArray := prog_1_method_45_code
def yX9_broke : MethodName := ⟨RX9, "broke", "()I"⟩
abbrev cX9_closing : ByteArray := prog_1_method_46_code
def yX9_closing : MethodName := ⟨RX9, "closing", "(I)I"⟩
abbrev cX9_fits : ByteArray := prog_1_method_47_code
def yX9_fits : MethodName := ⟨RX9, "fits", "(II)I"⟩
abbrev cX9_low : ByteArray := prog_1_method_48_code
def yX9_low : MethodName := ⟨RX9, "low", "(II)I"⟩
abbrev cX9_high : ByteArray := prog_1_method_49_code
def yX9_high : MethodName := ⟨RX9, "high", "(II)I"⟩
abbrev cX9_ask : ByteArray := prog_1_method_50_code
def yX9_ask : MethodName := ⟨RX9, "ask", "(II)I"⟩
abbrev cX9_leaves : ByteArray := prog_1_method_51_code
def yX9_leaves : MethodName := ⟨RX9, "leaves", "(II)I"⟩
abbrev cX9_laws : ByteArray := prog_1_method_52_code
def yX9_laws : MethodName := ⟨RX9, "laws", "(I)I"⟩
abbrev cX9_by : ByteArray := prog_1_method_53_code
def yX9_by : MethodName := ⟨RX9, "by", "(I)I"⟩
abbrev cX9_law : ByteArray := prog_1_method_54_code
def yX9_law : MethodName := ⟨RX9, "law", "()I"⟩
abbrev cX9_worth : ByteArray := prog_1_method_55_code
def yX9_worth : MethodName := ⟨RX9, "worth", "(I)I"⟩
abbrev cX9_share : ByteArray := prog_1_method_56_code
def yX9_share : MethodName := ⟨RX9, "share", "(II)I"⟩
abbrev cX9_rests : ByteArray := prog_1_method_57_code
def yX9_rests : MethodName := ⟨RX9, "rests", "(II)I"⟩
abbrev cX9_has : ByteArray := prog_1_method_58_code
def yX9_has : MethodName := ⟨RX9, "has", "(IIII)I"⟩
abbrev cX9_chance : ByteArray := prog_1_method_59_code
def yX9_chance : MethodName := ⟨RX9, "chance", "(II)I"⟩
abbrev cX9_mean : ByteArray := prog_1_method_60_code
def yX9_mean : MethodName := ⟨RX9, "mean", "(I)J"⟩
abbrev cX9_frees : ByteArray := prog_1_method_61_code
def yX9_frees : MethodName := ⟨RX9, "frees", "(I)I"⟩
abbrev cX9_fails : ByteArray := prog_1_method_62_code
def yX9_fails : MethodName := ⟨RX9, "fails", "(I)I"⟩
abbrev cX9_undo : ByteArray := prog_1_method_63_code
def yX9_undo : MethodName := ⟨RX9, "undo", "()I"⟩
abbrev cX9_anew : ByteArray := prog_1_method_64_code
def yX9_anew : MethodName := ⟨RX9, "anew", "()I"⟩
abbrev cX9_drawn : ByteArray := prog_1_method_65_code
def yX9_drawn : MethodName := ⟨RX9, "drawn", "(II)I"⟩
abbrev cX9_luck : ByteArray := prog_1_method_66_code
def yX9_luck : MethodName := ⟨RX9, "luck", "(III)I"⟩
abbrev cX9_ranks : ByteArray := prog_1_method_67_code
def yX9_ranks : MethodName := ⟨RX9, "ranks", "(II)I"⟩
abbrev cX9_count : ByteArray := prog_1_method_68_code
def yX9_count : MethodName := ⟨RX9, "count", "(I)I"⟩
abbrev cX9_image : ByteArray := prog_1_method_69_code
def yX9_image : MethodName := ⟨RX9, "image", "(I)I"⟩
abbrev cX9_back : ByteArray := prog_1_method_70_code
def yX9_back : MethodName := ⟨RX9, "back", "(I)I"⟩
abbrev cX9_row : ByteArray := prog_1_method_71_code
def yX9_row : MethodName := ⟨RX9, "row", "(III)I"⟩
abbrev cX9_write : ByteArray := prog_1_method_72_code
def yX9_write : MethodName := ⟨RX9, "write", "(IIJ)I"⟩
abbrev cX9_paste : ByteArray := prog_1_method_73_code
def yX9_paste : MethodName := ⟨RX9, "paste", "(IIIII)I"⟩
abbrev cX9_isThere : ByteArray := prog_1_method_74_code
def yX9_isThere : MethodName := ⟨RX9, "isThere", "()Z"⟩
abbrev cX9_isDay : ByteArray := prog_1_method_75_code
def yX9_isDay : MethodName := ⟨RX9, "isDay", "(I)Z"⟩
abbrev cX9_isBill : ByteArray := prog_1_method_76_code
def yX9_isBill : MethodName := ⟨RX9, "isBill", "(I)Z"⟩
abbrev cX9_isSupplier : ByteArray := prog_1_method_77_code
def yX9_isSupplier : MethodName := ⟨RX9, "isSupplier", "(I)Z"⟩
abbrev cX9_arePlayers : ByteArray := prog_1_method_78_code
def yX9_arePlayers : MethodName := ⟨RX9, "arePlayers", "(II)Z"⟩
abbrev cX9_isPart : ByteArray := prog_1_method_79_code
def yX9_isPart : MethodName := ⟨RX9, "isPart", "(I)Z"⟩
abbrev cX9_isChoice : ByteArray := prog_1_method_80_code
def yX9_isChoice : MethodName := ⟨RX9, "isChoice", "(I)Z"⟩
abbrev cX9_isSeed : ByteArray := prog_1_method_81_code
def yX9_isSeed : MethodName := ⟨RX9, "isSeed", "(I)Z"⟩
abbrev cX9_byLaw : ByteArray := prog_1_method_82_code
def yX9_byLaw : MethodName := ⟨RX9, "byLaw", "()LPaymentRuns$Week;"⟩
abbrev cX9_planByOtherLaw : ByteArray := prog_1_method_83_code
def yX9_planByOtherLaw : MethodName := ⟨RX9, "planByOtherLaw", "(I)V"⟩
abbrev cX9_planWithClosed : ByteArray := prog_1_method_84_code
def yX9_planWithClosed : MethodName := ⟨RX9, "planWithClosed", "(I)V"⟩
abbrev cX9_planWithIncomes : ByteArray := prog_1_method_85_code
def yX9_planWithIncomes : MethodName := ⟨RX9, "planWithIncomes", "(I)V"⟩
abbrev cX9_totalOfSet : ByteArray := prog_1_method_86_code
def yX9_totalOfSet : MethodName := ⟨RX9, "totalOfSet", "(I)I"⟩
abbrev cX9_leastOfAll : ByteArray := prog_1_method_87_code
def yX9_leastOfAll : MethodName := ⟨RX9, "leastOfAll", "()I"⟩
abbrev cX9_refusedPlan : ByteArray := prog_1_method_88_code
def yX9_refusedPlan : MethodName := ⟨RX9, "refusedPlan", "(I)I"⟩
abbrev cX9_refusedSeen : ByteArray := prog_1_method_89_code
def yX9_refusedSeen : MethodName := ⟨RX9, "refusedSeen", "(II)I"⟩
abbrev cX9_layPlan : ByteArray := prog_1_method_90_code
def yX9_layPlan : MethodName := ⟨RX9, "layPlan", "(I)V"⟩
abbrev cX9_idle : ByteArray := prog_1_method_91_code
def yX9_idle : MethodName := ⟨RX9, "idle", "()I"⟩
abbrev cX9_leastOnDay : ByteArray := prog_1_method_92_code
def yX9_leastOnDay : MethodName := ⟨RX9, "leastOnDay", "(I)I"⟩
abbrev cX9_partOf : ByteArray := prog_1_method_93_code
def yX9_partOf : MethodName := ⟨RX9, "partOf", "(JJI)J"⟩
abbrev cX9_commonDivisor : ByteArray := prog_1_method_94_code
def yX9_commonDivisor : MethodName := ⟨RX9, "commonDivisor", "(JJ)J"⟩
abbrev cX10_init : ByteArray := prog_12_method_1_code
def yX10_init : MethodName := ⟨RX10, "<init>", "()V"⟩
abbrev cX10_in : ByteArray := prog_12_method_3_code
def yX10_in : MethodName := ⟨RX10, "in", "(JJJ)Z"⟩
abbrev cX10_isSlot : ByteArray := prog_12_method_4_code
def yX10_isSlot : MethodName := ⟨RX10, "isSlot", "(I)Z"⟩
abbrev cX10_row : ByteArray := prog_12_method_5_code
def yX10_row : MethodName := ⟨RX10, "row", "(III)I"⟩
abbrev cX10_cut : ByteArray := prog_12_method_6_code
def yX10_cut : MethodName := ⟨RX10, "cut", "(JI)J"⟩
abbrev cX10_write : ByteArray := prog_12_method_7_code
def yX10_write : MethodName := ⟨RX10, "write", "(IIJ)I"⟩
abbrev cX10_paste : ByteArray := prog_12_method_8_code
def yX10_paste : MethodName := ⟨RX10, "paste", "(IIIII)I"⟩
abbrev cX10_feed : ByteArray := prog_12_method_9_code
def yX10_feed : MethodName := ⟨RX10, "feed", "(IIIII)I"⟩
abbrev cX10_four : ByteArray := prog_12_method_10_code
def yX10_four : MethodName := ⟨RX10, "four", "(I)V"⟩
abbrev cX10_end : ByteArray := prog_12_method_11_code
def yX10_end : MethodName := ⟨RX10, "end", "(I)I"⟩
abbrev cX10_isByte : ByteArray := prog_12_method_12_code
def yX10_isByte : MethodName := ⟨RX10, "isByte", "(III)Z"⟩
abbrev cX10_next : ByteArray := prog_12_method_13_code
def yX10_next : MethodName := ⟨RX10, "next", "()V"⟩
abbrev cX10_isGood : ByteArray := prog_12_method_14_code
def yX10_isGood : MethodName := ⟨RX10, "isGood", "()Z"⟩
abbrev cX10_errs : ByteArray := prog_12_method_15_code
def yX10_errs : MethodName := ⟨RX10, "errs", "(I)V"⟩
abbrev cX10_is : ByteArray := prog_12_method_16_code
def yX10_is : MethodName := ⟨RX10, "is", "(J)Z"⟩
abbrev cX10_takesWord : ByteArray := prog_12_method_17_code
def yX10_takesWord : MethodName := ⟨RX10, "takesWord", "(J)Z"⟩
abbrev cX10_asks : ByteArray := prog_12_method_18_code
def yX10_asks : MethodName := ⟨RX10, "asks", "(J)V"⟩
abbrev cX10_number : ByteArray := prog_12_method_19_code
def yX10_number : MethodName := ⟨RX10, "number", "(II)I"⟩
abbrev cX10_number_ : ByteArray := prog_12_method_20_code
def yX10_number_ : MethodName := ⟨RX10, "number", "(JII)I"⟩
abbrev cX10_ends : ByteArray := prog_12_method_21_code
def yX10_ends : MethodName := ⟨RX10, "ends", "()V"⟩
abbrev cX10_begins : ByteArray := prog_12_method_22_code
def yX10_begins : MethodName := ⟨RX10, "begins", "()V"⟩
abbrev cX10_isOver : ByteArray := prog_12_method_23_code
def yX10_isOver : MethodName := ⟨RX10, "isOver", "()V"⟩
abbrev cX10_fault : ByteArray := prog_12_method_24_code
def yX10_fault : MethodName := ⟨RX10, "fault", "(I)I"⟩
abbrev cX10_hasRead : ByteArray := prog_12_method_25_code
def yX10_hasRead : MethodName := ⟨RX10, "hasRead", "(I)I"⟩
abbrev cX10_tells : ByteArray := prog_12_method_26_code
def yX10_tells : MethodName := ⟨RX10, "tells", "(II)V"⟩
abbrev cX10_billLine : ByteArray := prog_12_method_27_code
def yX10_billLine : MethodName := ⟨RX10, "billLine", "()V"⟩
abbrev cX10_loadLine : ByteArray := prog_12_method_28_code
def yX10_loadLine : MethodName := ⟨RX10, "loadLine", "()V"⟩
abbrev cX10_isRoom : ByteArray := prog_12_method_29_code
def yX10_isRoom : MethodName := ⟨RX10, "isRoom", "(ZII)Z"⟩
abbrev cX10_lineHere : ByteArray := prog_12_method_30_code
def yX10_lineHere : MethodName := ⟨RX10, "lineHere", "()V"⟩
abbrev cX10_clears : ByteArray := prog_12_method_31_code
def yX10_clears : MethodName := ⟨RX10, "clears", "()V"⟩
abbrev cX10_desk : ByteArray := prog_12_method_32_code
def yX10_desk : MethodName := ⟨RX10, "desk", "()I"⟩
abbrev cX10_copyRow : ByteArray := prog_12_method_33_code
def yX10_copyRow : MethodName := ⟨RX10, "copyRow", "([IIII)V"⟩
abbrev cX10_copyDesk : ByteArray := prog_12_method_34_code
def yX10_copyDesk : MethodName := ⟨RX10, "copyDesk", "(II)V"⟩
abbrev cX10_isDesk : ByteArray := prog_12_method_35_code
def yX10_isDesk : MethodName := ⟨RX10, "isDesk", "()Z"⟩
abbrev cX10_days : ByteArray := prog_12_method_36_code
def yX10_days : MethodName := ⟨RX10, "days", "()I"⟩
abbrev cX10_bills : ByteArray := prog_12_method_37_code
def yX10_bills : MethodName := ⟨RX10, "bills", "()I"⟩
abbrev cX10_isSupplier : ByteArray := prog_12_method_38_code
def yX10_isSupplier : MethodName := ⟨RX10, "isSupplier", "(I)Z"⟩
abbrev cX10_isBill : ByteArray := prog_12_method_39_code
def yX10_isBill : MethodName := ⟨RX10, "isBill", "(J)Z"⟩
abbrev cX10_isDay : ByteArray := prog_12_method_40_code
def yX10_isDay : MethodName := ⟨RX10, "isDay", "(I)Z"⟩
abbrev cX10_areTwo : ByteArray := prog_12_method_41_code
def yX10_areTwo : MethodName := ⟨RX10, "areTwo", "(II)Z"⟩
abbrev cX10_isHalf : ByteArray := prog_12_method_42_code
def yX10_isHalf : MethodName := ⟨RX10, "isHalf", "(I)Z"⟩
abbrev cX10_isBit : ByteArray := prog_12_method_43_code
def yX10_isBit : MethodName := ⟨RX10, "isBit", "(II)Z"⟩
abbrev cX10_sizeOf : ByteArray := prog_12_method_44_code
def yX10_sizeOf : MethodName := ⟨RX10, "sizeOf", "(I)I"⟩
abbrev cX10_lessOf : ByteArray := prog_12_method_45_code
def yX10_lessOf : MethodName := ⟨RX10, "lessOf", "(II)I"⟩
abbrev cX10_moreOf : ByteArray := prog_12_method_46_code
def yX10_moreOf : MethodName := ⟨RX10, "moreOf", "(II)I"⟩
abbrev cX10_lays : ByteArray := prog_12_method_47_code
def yX10_lays : MethodName := ⟨RX10, "lays", "()V"⟩
abbrev cX10_isThere : ByteArray := prog_12_method_48_code
def yX10_isThere : MethodName := ⟨RX10, "isThere", "(I)Z"⟩
abbrev cX10_offOf : ByteArray := prog_12_method_49_code
def yX10_offOf : MethodName := ⟨RX10, "offOf", "(I)I"⟩
abbrev cX10_lateOf : ByteArray := prog_12_method_50_code
def yX10_lateOf : MethodName := ⟨RX10, "lateOf", "(II)I"⟩
abbrev cX10_costOf : ByteArray := prog_12_method_51_code
def yX10_costOf : MethodName := ⟨RX10, "costOf", "(II)I"⟩
abbrev cX10_spanOf : ByteArray := prog_12_method_52_code
def yX10_spanOf : MethodName := ⟨RX10, "spanOf", "(I)I"⟩
abbrev cX10_cameBy : ByteArray := prog_12_method_53_code
def yX10_cameBy : MethodName := ⟨RX10, "cameBy", "(I)I"⟩
abbrev cX10_isUsed : ByteArray := prog_12_method_54_code
def yX10_isUsed : MethodName := ⟨RX10, "isUsed", "(I)Z"⟩
abbrev cX10_outOn : ByteArray := prog_12_method_55_code
def yX10_outOn : MethodName := ⟨RX10, "outOn", "(I)I"⟩
abbrev cX10_laysCash : ByteArray := prog_12_method_56_code
def yX10_laysCash : MethodName := ⟨RX10, "laysCash", "()V"⟩
abbrev cX10_isAbove : ByteArray := prog_12_method_57_code
def yX10_isAbove : MethodName := ⟨RX10, "isAbove", "(I)Z"⟩
abbrev cX10_totalNow : ByteArray := prog_12_method_58_code
def yX10_totalNow : MethodName := ⟨RX10, "totalNow", "()I"⟩
abbrev cX10_isFirst : ByteArray := prog_12_method_59_code
def yX10_isFirst : MethodName := ⟨RX10, "isFirst", "(II)Z"⟩
abbrev cX10_laysTurns : ByteArray := prog_12_method_60_code
def yX10_laysTurns : MethodName := ⟨RX10, "laysTurns", "()V"⟩
abbrev cX10_runs : ByteArray := prog_12_method_61_code
def yX10_runs : MethodName := ⟨RX10, "runs", "()V"⟩
abbrev cX10_dayFor : ByteArray := prog_12_method_62_code
def yX10_dayFor : MethodName := ⟨RX10, "dayFor", "(I)I"⟩
abbrev cX10_laysNow : ByteArray := prog_12_method_63_code
def yX10_laysNow : MethodName := ⟨RX10, "laysNow", "()V"⟩
abbrev cX10_common : ByteArray := prog_12_method_64_code
def yX10_common : MethodName := ⟨RX10, "common", "(JJ)J"⟩
abbrev cX10_partOf : ByteArray := prog_12_method_65_code
def yX10_partOf : MethodName := ⟨RX10, "partOf", "(JJI)J"⟩
abbrev cX10_rank : ByteArray := prog_12_method_66_code
def yX10_rank : MethodName := ⟨RX10, "rank", "(I)I"⟩
abbrev cX10_bill : ByteArray := prog_12_method_67_code
def yX10_bill : MethodName := ⟨RX10, "bill", "(II)I"⟩
abbrev cX10_net : ByteArray := prog_12_method_68_code
def yX10_net : MethodName := ⟨RX10, "net", "(I)I"⟩
abbrev cX10_costs : ByteArray := prog_12_method_69_code
def yX10_costs : MethodName := ⟨RX10, "costs", "(II)I"⟩
abbrev cX10_comes : ByteArray := prog_12_method_70_code
def yX10_comes : MethodName := ⟨RX10, "comes", "(I)I"⟩
abbrev cX10_closed : ByteArray := prog_12_method_71_code
def yX10_closed : MethodName := ⟨RX10, "closed", "()I"⟩
abbrev cX10_rate : ByteArray := prog_12_method_72_code
def yX10_rate : MethodName := ⟨RX10, "rate", "(II)I"⟩
abbrev cX10_worthy : ByteArray := prog_12_method_73_code
def yX10_worthy : MethodName := ⟨RX10, "worthy", "()I"⟩
abbrev cX10_dayOf : ByteArray := prog_12_method_74_code
def yX10_dayOf : MethodName := ⟨RX10, "dayOf", "(I)I"⟩
abbrev cX10_day : ByteArray := prog_12_method_75_code
def yX10_day : MethodName := ⟨RX10, "day", "(I)I"⟩
abbrev cX10_order : ByteArray := prog_12_method_76_code
def yX10_order : MethodName := ⟨RX10, "order", "(I)I"⟩
abbrev cX10_fileOn : ByteArray := prog_12_method_77_code
def yX10_fileOn : MethodName := ⟨RX10, "fileOn", "(I)I"⟩
abbrev cX10_file : ByteArray := prog_12_method_78_code
def yX10_file : MethodName := ⟨RX10, "file", "(I)I"⟩
abbrev cX10_pays : ByteArray := prog_12_method_79_code
def yX10_pays : MethodName := ⟨RX10, "pays", "(I)I"⟩
abbrev cX10_cash : ByteArray := prog_12_method_80_code
def yX10_cash : MethodName := ⟨RX10, "cash", "(I)I"⟩
abbrev cX10_tightNow : ByteArray := prog_12_method_81_code
def yX10_tightNow : MethodName := ⟨RX10, "tightNow", "()I"⟩
abbrev cX10_room : ByteArray := prog_12_method_82_code
def yX10_room : MethodName := ⟨RX10, "room", "()I"⟩
abbrev cX10_tight : ByteArray := prog_12_method_83_code
def yX10_tight : MethodName := ⟨RX10, "tight", "()I"⟩
abbrev cX10_fees : ByteArray := prog_12_method_84_code
def yX10_fees : MethodName := ⟨RX10, "fees", "()I"⟩
abbrev cX10_open : ByteArray := prog_12_method_85_code
def yX10_open : MethodName := ⟨RX10, "open", "()I"⟩
abbrev cX10_isCaught : ByteArray := prog_12_method_86_code
def yX10_isCaught : MethodName := ⟨RX10, "isCaught", "(I)Z"⟩
abbrev cX10_caught : ByteArray := prog_12_method_87_code
def yX10_caught : MethodName := ⟨RX10, "caught", "()I"⟩
abbrev cX10_late : ByteArray := prog_12_method_88_code
def yX10_late : MethodName := ⟨RX10, "late", "()I"⟩
abbrev cX10_saved : ByteArray := prog_12_method_89_code
def yX10_saved : MethodName := ⟨RX10, "saved", "()I"⟩
abbrev cX10_lost : ByteArray := prog_12_method_90_code
def yX10_lost : MethodName := ⟨RX10, "lost", "()I"⟩
abbrev cX10_total : ByteArray := prog_12_method_91_code
def yX10_total : MethodName := ⟨RX10, "total", "()I"⟩
abbrev cX10_early : ByteArray := prog_12_method_92_code
def yX10_early : MethodName := ⟨RX10, "early", "(I)I"⟩
abbrev cX10_paidTo : ByteArray := prog_12_method_93_code
def yX10_paidTo : MethodName := ⟨RX10, "paidTo", "(I)I"⟩
abbrev cX10_gets : ByteArray := prog_12_method_94_code
def yX10_gets : MethodName := ⟨RX10, "gets", "(I)I"⟩
abbrev cX10_dear : ByteArray := prog_12_method_95_code
def yX10_dear : MethodName := ⟨RX10, "dear", "()I"⟩
abbrev cX10_busy : ByteArray := prog_12_method_96_code
def yX10_busy : MethodName := ⟨RX10, "busy", "()I"⟩
abbrev cX10_whyNotPlan : ByteArray := prog_12_method_97_code
def yX10_whyNotPlan : MethodName := ⟨RX10, "whyNotPlan", "(I)I"⟩
abbrev cX10_laysPlan : ByteArray := prog_12_method_98_code
def yX10_laysPlan : MethodName := ⟨RX10, "laysPlan", "(I)V"⟩
abbrev cX10_isLawful : ByteArray := prog_12_method_99_code
def yX10_isLawful : MethodName := ⟨RX10, "isLawful", "()Z"⟩
abbrev cX10_lawful : ByteArray := prog_12_method_100_code
def yX10_lawful : MethodName := ⟨RX10, "lawful", "(I)I"⟩
abbrev cX10_sums : ByteArray := prog_12_method_101_code
def yX10_sums : MethodName := ⟨RX10, "sums", "(I)I"⟩
abbrev cX10_falls : ByteArray := prog_12_method_102_code
def yX10_falls : MethodName := ⟨RX10, "falls", "(I)I"⟩
abbrev cX10_allPlans : ByteArray := prog_12_method_103_code
def yX10_allPlans : MethodName := ⟨RX10, "allPlans", "()I"⟩
abbrev cX10_laysNth : ByteArray := prog_12_method_104_code
def yX10_laysNth : MethodName := ⟨RX10, "laysNth", "(I)V"⟩
abbrev cX10_laysBest : ByteArray := prog_12_method_105_code
def yX10_laysBest : MethodName := ⟨RX10, "laysBest", "(II)V"⟩
abbrev cX10_best : ByteArray := prog_12_method_106_code
def yX10_best : MethodName := ⟨RX10, "best", "()I"⟩
abbrev cX10_choice : ByteArray := prog_12_method_107_code
def yX10_choice : MethodName := ⟨RX10, "choice", "(I)I"⟩
abbrev cX10_waste : ByteArray := prog_12_method_108_code
def yX10_waste : MethodName := ⟨RX10, "waste", "()I"⟩
abbrev cX10_usedDays : ByteArray := prog_12_method_109_code
def yX10_usedDays : MethodName := ⟨RX10, "usedDays", "()I"⟩
abbrev cX10_laysBatch : ByteArray := prog_12_method_110_code
def yX10_laysBatch : MethodName := ⟨RX10, "laysBatch", "()V"⟩
abbrev cX10_batch : ByteArray := prog_12_method_111_code
def yX10_batch : MethodName := ⟨RX10, "batch", "()I"⟩
abbrev cX10_when : ByteArray := prog_12_method_112_code
def yX10_when : MethodName := ⟨RX10, "when", "()I"⟩
abbrev cX10_with : ByteArray := prog_12_method_113_code
def yX10_with : MethodName := ⟨RX10, "with", "(II)I"⟩
abbrev cX10_may : ByteArray := prog_12_method_114_code
def yX10_may : MethodName := ⟨RX10, "may", "(I)I"⟩
abbrev cX10_totalBy : ByteArray := prog_12_method_115_code
def yX10_totalBy : MethodName := ⟨RX10, "totalBy", "()I"⟩
abbrev cX10_blame : ByteArray := prog_12_method_116_code
def yX10_blame : MethodName := ⟨RX10, "blame", "()I"⟩
abbrev cX10_need : ByteArray := prog_12_method_117_code
def yX10_need : MethodName := ⟨RX10, "need", "()I"⟩
abbrev cX10_floor : ByteArray := prog_12_method_118_code
def yX10_floor : MethodName := ⟨RX10, "floor", "()I"⟩
abbrev cX10_broke : ByteArray := prog_12_method_119_code
def yX10_broke : MethodName := ⟨RX10, "broke", "()I"⟩
abbrev cX10_closing : ByteArray := prog_12_method_120_code
def yX10_closing : MethodName := ⟨RX10, "closing", "(I)I"⟩
abbrev cX10_whyNot : ByteArray := prog_12_method_121_code
def yX10_whyNot : MethodName := ⟨RX10, "whyNot", "(IZ)I"⟩
abbrev cX10_isSo : ByteArray := prog_12_method_122_code
def yX10_isSo : MethodName := ⟨RX10, "isSo", "(I)Z"⟩
abbrev cX10_laysSeen : ByteArray := prog_12_method_123_code
def yX10_laysSeen : MethodName := ⟨RX10, "laysSeen", "(II)V"⟩
abbrev cX10_worstBy : ByteArray := prog_12_method_124_code
def yX10_worstBy : MethodName := ⟨RX10, "worstBy", "(I)I"⟩
abbrev cX10_fits : ByteArray := prog_12_method_125_code
def yX10_fits : MethodName := ⟨RX10, "fits", "(II)I"⟩
abbrev cX10_low : ByteArray := prog_12_method_126_code
def yX10_low : MethodName := ⟨RX10, "low", "(II)I"⟩
abbrev cX10_high : ByteArray := prog_12_method_127_code
def yX10_high : MethodName := ⟨RX10, "high", "(II)I"⟩
abbrev cX10_ask : ByteArray := prog_12_method_128_code
def yX10_ask : MethodName := ⟨RX10, "ask", "(II)I"⟩
abbrev cX10_leaves : ByteArray := prog_12_method_129_code
def yX10_leaves : MethodName := ⟨RX10, "leaves", "(II)I"⟩
abbrev cX10_totalByLaw : ByteArray := prog_12_method_130_code
def yX10_totalByLaw : MethodName := ⟨RX10, "totalByLaw", "(I)I"⟩
abbrev cX10_laws : ByteArray := prog_12_method_131_code
def yX10_laws : MethodName := ⟨RX10, "laws", "(I)I"⟩
abbrev cX10_by : ByteArray := prog_12_method_132_code
def yX10_by : MethodName := ⟨RX10, "by", "(I)I"⟩
abbrev cX10_law : ByteArray := prog_12_method_133_code
def yX10_law : MethodName := ⟨RX10, "law", "()I"⟩
abbrev cX10_every : ByteArray := prog_12_method_134_code
def yX10_every : MethodName := ⟨RX10, "every", "()I"⟩
abbrev cX10_worthOf : ByteArray := prog_12_method_135_code
def yX10_worthOf : MethodName := ⟨RX10, "worthOf", "(I)I"⟩
abbrev cX10_worth : ByteArray := prog_12_method_136_code
def yX10_worth : MethodName := ⟨RX10, "worth", "(I)I"⟩
abbrev cX10_times : ByteArray := prog_12_method_137_code
def yX10_times : MethodName := ⟨RX10, "times", "(I)I"⟩
abbrev cX10_share : ByteArray := prog_12_method_138_code
def yX10_share : MethodName := ⟨RX10, "share", "(II)I"⟩
abbrev cX10_hasBy : ByteArray := prog_12_method_139_code
def yX10_hasBy : MethodName := ⟨RX10, "hasBy", "(IIIII)I"⟩
abbrev cX10_rests : ByteArray := prog_12_method_140_code
def yX10_rests : MethodName := ⟨RX10, "rests", "(II)I"⟩
abbrev cX10_has : ByteArray := prog_12_method_141_code
def yX10_has : MethodName := ⟨RX10, "has", "(IIII)I"⟩
abbrev cX10_power : ByteArray := prog_12_method_142_code
def yX10_power : MethodName := ⟨RX10, "power", "(JI)J"⟩
abbrev cX10_weightOf : ByteArray := prog_12_method_143_code
def yX10_weightOf : MethodName := ⟨RX10, "weightOf", "(I)J"⟩
abbrev cX10_chance : ByteArray := prog_12_method_144_code
def yX10_chance : MethodName := ⟨RX10, "chance", "(II)I"⟩
abbrev cX10_mean : ByteArray := prog_12_method_145_code
def yX10_mean : MethodName := ⟨RX10, "mean", "(I)J"⟩
abbrev cX10_draws : ByteArray := prog_12_method_146_code
def yX10_draws : MethodName := ⟨RX10, "draws", "(J)I"⟩
abbrev cX10_isSeed : ByteArray := prog_12_method_147_code
def yX10_isSeed : MethodName := ⟨RX10, "isSeed", "(I)Z"⟩
abbrev cX10_drawn : ByteArray := prog_12_method_148_code
def yX10_drawn : MethodName := ⟨RX10, "drawn", "(II)I"⟩
abbrev cX10_luck : ByteArray := prog_12_method_149_code
def yX10_luck : MethodName := ⟨RX10, "luck", "(III)I"⟩
abbrev cX10_does : ByteArray := prog_12_method_150_code
def yX10_does : MethodName := ⟨RX10, "does", "(II)I"⟩
abbrev cX10_frees : ByteArray := prog_12_method_151_code
def yX10_frees : MethodName := ⟨RX10, "frees", "(I)I"⟩
abbrev cX10_fails : ByteArray := prog_12_method_152_code
def yX10_fails : MethodName := ⟨RX10, "fails", "(I)I"⟩
abbrev cX10_undo : ByteArray := prog_12_method_153_code
def yX10_undo : MethodName := ⟨RX10, "undo", "()I"⟩
abbrev cX10_anew : ByteArray := prog_12_method_154_code
def yX10_anew : MethodName := ⟨RX10, "anew", "()I"⟩
abbrev cX10_ranks : ByteArray := prog_12_method_155_code
def yX10_ranks : MethodName := ⟨RX10, "ranks", "(II)I"⟩
abbrev cX10_count : ByteArray := prog_12_method_156_code
def yX10_count : MethodName := ⟨RX10, "count", "(I)I"⟩
abbrev cX10_image : ByteArray := prog_12_method_157_code
def yX10_image : MethodName := ⟨RX10, "image", "(I)I"⟩
abbrev cX10_back : ByteArray := prog_12_method_158_code
def yX10_back : MethodName := ⟨RX10, "back", "(I)I"⟩
def RJ6 : String := "java/lang/Integer"
abbrev cJ6_bitCount_0f7a4 : ByteArray := prog_13_method_49_code
def yJ6_bitCount_0f7a4 : MethodName := ⟨RJ6, "bitCount", "(I)I"⟩
def RJ9 : String := "java/lang/Math"
abbrev cJ9_abs_067f4 : ByteArray := prog_14_method_61_code
def yJ9_abs_067f4 : MethodName := ⟨RJ9, "abs", "(J)J"⟩
abbrev cJ9_max_7cf53 : ByteArray := prog_14_method_65_code
def yJ9_max_7cf53 : MethodName := ⟨RJ9, "max", "(II)I"⟩
abbrev cJ9_max_f86c9 : ByteArray := prog_14_method_66_code
def yJ9_max_f86c9 : MethodName := ⟨RJ9, "max", "(JJ)J"⟩
abbrev cJ9_min_7cf53 : ByteArray := prog_14_method_69_code
def yJ9_min_7cf53 : MethodName := ⟨RJ9, "min", "(II)I"⟩
def RJ0 : String := "java/lang/String"
abbrev cJ0_length_8abf5 : ByteArray := prog_15_method_54_code
def yJ0_length_8abf5 : MethodName := ⟨RJ0, "length", "()I"⟩
abbrev cJ0_charAt_5068e : ByteArray := prog_15_method_56_code
def yJ0_charAt_5068e : MethodName := ⟨RJ0, "charAt", "(I)C"⟩
abbrev cJ0_coder_7d493 : ByteArray := prog_15_method_152_code
def yJ0_coder_7d493 : MethodName := ⟨RJ0, "coder", "()B"⟩
abbrev cJ0_isLatin1_aae02 : ByteArray := prog_15_method_154_code
def yJ0_isLatin1_aae02 : MethodName := ⟨RJ0, "isLatin1", "()Z"⟩
abbrev cJ0_checkIndex_df160 : ByteArray := prog_15_method_155_code
def yJ0_checkIndex_df160 : MethodName := ⟨RJ0, "checkIndex", "(II)V"⟩
def RJ1 : String := "java/lang/StringLatin1"
abbrev cJ1_charAt_3b067 : ByteArray := prog_16_method_2_code
def yJ1_charAt_3b067 : MethodName := ⟨RJ1, "charAt", "([BI)C"⟩
def RJ2 : String := "java/lang/StringUTF16"
abbrev cJ2_getChar_3b067 : ByteArray := prog_17_method_5_code
def yJ2_getChar_3b067 : MethodName := ⟨RJ2, "getChar", "([BI)C"⟩
abbrev cJ2_length_9d52b : ByteArray := prog_17_method_6_code
def yJ2_length_9d52b : MethodName := ⟨RJ2, "length", "([B)I"⟩
abbrev cJ2_charAt_3b067 : ByteArray := prog_17_method_83_code
def yJ2_charAt_3b067 : MethodName := ⟨RJ2, "charAt", "([BI)C"⟩
abbrev cJ2_checkIndex_2214a : ByteArray := prog_17_method_91_code
def yJ2_checkIndex_2214a : MethodName := ⟨RJ2, "checkIndex", "(I[B)V"⟩
def RJ10 : String := "java/lang/System"
def RJ3 : String := "jdk/internal/util/Preconditions"
abbrev cJ3_checkIndex_8e157 : ByteArray := prog_19_method_11_code
def yJ3_checkIndex_8e157 : MethodName := ⟨RJ3, "checkIndex", "(IILjava/util/function/BiFunction;)I"⟩
def RL : String := "PaymentRunsLaw"
abbrev zM : Type := MethodName × ByteArray × Nat × Option FieldType
abbrev mX0_init : zM := (yX0_init, cX0_init, 1, none)
abbrev mX0_clearAll : zM := (yX0_clearAll, cX0_clearAll, 1, none)
abbrev mX0_become : zM := (yX0_become, cX0_become, 3, none)
abbrev mX0_addRelease : zM := (yX0_addRelease, cX0_addRelease, 2, (some .boolean))
abbrev mX0_addFailure : zM := (yX0_addFailure, cX0_addFailure, 2, (some .boolean))
abbrev mX0_addAct : zM := (yX0_addAct, cX0_addAct, 2, (some .boolean))
abbrev mX0_netOf : zM := (yX0_netOf, cX0_netOf, 3, (some .int))
abbrev mX0_closedDays : zM := (yX0_closedDays, cX0_closedDays, 3, (some .int))
abbrev mX0_incomeOn : zM := (yX0_incomeOn, cX0_incomeOn, 2, (some .int))
abbrev mX0_incomeOn_ : zM := (yX0_incomeOn_, cX0_incomeOn_, 5, (some .int))
abbrev mX1_init : zM := (yX1_init, cX1_init, 1, none)
abbrev mX1_play : zM := (yX1_play, cX1_play, 7, none)
abbrev mX1_gainOf : zM := (yX1_gainOf, cX1_gainOf, 5, (some .int))
abbrev mX1_atRest : zM := (yX1_atRest, cX1_atRest, 6, (some .int))
abbrev mX2_init : zM := (yX2_init, cX2_init, 1, none)
abbrev mX2_reckon : zM := (yX2_reckon, cX2_reckon, 4, none)
abbrev mX2_valueOf : zM := (yX2_valueOf, cX2_valueOf, 2, (some .int))
abbrev mX2_weight : zM := (yX2_weight, cX2_weight, 5, (some .long))
abbrev mX2_draw : zM := (yX2_draw, cX2_draw, 8, (some .int))
abbrev mX3_init : zM := (yX3_init, cX3_init, 2, none)
abbrev mX3_isSlot : zM := (yX3_isSlot, cX3_isSlot, 2, (some .boolean))
abbrev mX3_isEmpty : zM := (yX3_isEmpty, cX3_isEmpty, 2, (some .boolean))
abbrev mX3_used : zM := (yX3_used, cX3_used, 3, (some .int))
abbrev mX3_make : zM := (yX3_make, cX3_make, 5, none)
abbrev mX3_put : zM := (yX3_put, cX3_put, 5, none)
abbrev mX3_reaches : zM := (yX3_reaches, cX3_reaches, 4, (some .boolean))
abbrev mX3_refusedPlan : zM := (yX3_refusedPlan, cX3_refusedPlan, 5, (some .int))
abbrev mX3_refusedSeen : zM := (yX3_refusedSeen, cX3_refusedSeen, 9, (some .int))
abbrev mX4_init : zM := (yX4_init, cX4_init, 1, none)
abbrev mX4_least : zM := (yX4_least, cX4_least, 5, (some .int))
abbrev mX4_reckonRest : zM := (yX4_reckonRest, cX4_reckonRest, 5, none)
abbrev mX4_choose : zM := (yX4_choose, cX4_choose, 5, none)
abbrev mX4_tryDay : zM := (yX4_tryDay, cX4_tryDay, 6, none)
abbrev mX5_init : zM := (yX5_init, cX5_init, 1, none)
abbrev mX5_fitting : zM := (yX5_fitting, cX5_fitting, 6, (some .int))
abbrev mX5_agrees : zM := (yX5_agrees, cX5_agrees, 6, (some .boolean))
abbrev mX5_leastOff : zM := (yX5_leastOff, cX5_leastOff, 2, (some .int))
abbrev mX5_greatestOff : zM := (yX5_greatestOff, cX5_greatestOff, 2, (some .int))
abbrev mX5_question : zM := (yX5_question, cX5_question, 7, (some .int))
abbrev mX5_worst : zM := (yX5_worst, cX5_worst, 7, (some .int))
abbrev mX6_init : zM := (yX6_init, cX6_init, 1, none)
abbrev mX6_worthOf : zM := (yX6_worthOf, cX6_worthOf, 5, (some .int))
abbrev mX6_reckon : zM := (yX6_reckon, cX6_reckon, 7, none)
abbrev mX7_init : zM := (yX7_init, cX7_init, 1, none)
abbrev mX7_add : zM := (yX7_add, cX7_add, 3, none)
abbrev mX7_read : zM := (yX7_read, cX7_read, 2, none)
abbrev mX7_readDesk : zM := (yX7_readDesk, cX7_readDesk, 1, none)
abbrev mX7_readSupplier : zM := (yX7_readSupplier, cX7_readSupplier, 1, none)
abbrev mX7_readBill : zM := (yX7_readBill, cX7_readBill, 2, none)
abbrev mX7_readIncome : zM := (yX7_readIncome, cX7_readIncome, 1, none)
abbrev mX7_takeField : zM := (yX7_takeField, cX7_takeField, 4, (some .int))
abbrev mX7_takeWord : zM := (yX7_takeWord, cX7_takeWord, 2, none)
abbrev mX7_takeNumber : zM := (yX7_takeNumber, cX7_takeNumber, 4, (some .int))
abbrev mX7_takeSign : zM := (yX7_takeSign, cX7_takeSign, 1, none)
abbrev mX7_refuse : zM := (yX7_refuse, cX7_refuse, 2, none)
abbrev mX7_isWord : zM := (yX7_isWord, cX7_isWord, 3, (some .boolean))
abbrev mX7_nextToken : zM := (yX7_nextToken, cX7_nextToken, 3, none)
abbrev mX7_digitOf : zM := (yX7_digitOf, cX7_digitOf, 1, (some .int))
abbrev mX7_kindOf : zM := (yX7_kindOf, cX7_kindOf, 1, (some .int))
abbrev mX8_init : zM := (yX8_init, cX8_init, 1, none)
abbrev mX8_allBills : zM := (yX8_allBills, cX8_allBills, 1, (some .int))
abbrev mX8_asTold : zM := (yX8_asTold, cX8_asTold, 2, none)
abbrev mX8_clearPlan : zM := (yX8_clearPlan, cX8_clearPlan, 3, none)
abbrev mX8_planByLaw : zM := (yX8_planByLaw, cX8_planByLaw, 3, none)
abbrev mX8_putInOrder : zM := (yX8_putInOrder, cX8_putInOrder, 3, none)
abbrev mX8_isAhead : zM := (yX8_isAhead, cX8_isAhead, 3, (some .boolean))
abbrev mX8_rankOf : zM := (yX8_rankOf, cX8_rankOf, 2, (some .int))
abbrev mX8_gain : zM := (yX8_gain, cX8_gain, 2, (some .int))
abbrev mX8_span : zM := (yX8_span, cX8_span, 3, (some .int))
abbrev mX8_dayByLaw : zM := (yX8_dayByLaw, cX8_dayByLaw, 8, (some .int))
abbrev mX8_isClosed : zM := (yX8_isClosed, cX8_isClosed, 2, (some .boolean))
abbrev mX8_isIn : zM := (yX8_isIn, cX8_isIn, 2, (some .boolean))
abbrev mX8_isPaid : zM := (yX8_isPaid, cX8_isPaid, 2, (some .boolean))
abbrev mX8_isCaught : zM := (yX8_isCaught, cX8_isCaught, 2, (some .boolean))
abbrev mX8_dayOrLast : zM := (yX8_dayOrLast, cX8_dayOrLast, 2, (some .int))
abbrev mX8_price : zM := (yX8_price, cX8_price, 4, (some .int))
abbrev mX8_penalty : zM := (yX8_penalty, cX8_penalty, 4, (some .int))
abbrev mX8_feeFor : zM := (yX8_feeFor, cX8_feeFor, 2, (some .int))
abbrev mX8_pay : zM := (yX8_pay, cX8_pay, 4, none)
abbrev mX8_takeBack : zM := (yX8_takeBack, cX8_takeBack, 3, none)
abbrev mX8_spend : zM := (yX8_spend, cX8_spend, 4, none)
abbrev mX8_whole : zM := (yX8_whole, cX8_whole, 3, (some .int))
abbrev mX8_allFees : zM := (yX8_allFees, cX8_allFees, 3, (some .int))
abbrev mX8_unpaid : zM := (yX8_unpaid, cX8_unpaid, 3, (some .int))
abbrev mX8_paidOn : zM := (yX8_paidOn, cX8_paidOn, 4, (some .int))
abbrev mX8_paidTo : zM := (yX8_paidTo, cX8_paidTo, 4, (some .int))
abbrev mX8_tightest : zM := (yX8_tightest, cX8_tightest, 3, (some .int))
abbrev mX8_isLawful : zM := (yX8_isLawful, cX8_isLawful, 3, (some .boolean))
abbrev mX9_init : zM := (yX9_init, cX9_init, 2, none)
abbrev mX9_feed : zM := (yX9_feed, cX9_feed, 6, (some .int))
abbrev mX9_end : zM := (yX9_end, cX9_end, 2, (some .int))
abbrev mX9_desk : zM := (yX9_desk, cX9_desk, 1, (some .int))
abbrev mX9_fault : zM := (yX9_fault, cX9_fault, 2, (some .int))
abbrev mX9_rank : zM := (yX9_rank, cX9_rank, 2, (some .int))
abbrev mX9_bill : zM := (yX9_bill, cX9_bill, 3, (some .int))
abbrev mX9_net : zM := (yX9_net, cX9_net, 2, (some .int))
abbrev mX9_costs : zM := (yX9_costs, cX9_costs, 3, (some .int))
abbrev mX9_comes : zM := (yX9_comes, cX9_comes, 2, (some .int))
abbrev mX9_closed : zM := (yX9_closed, cX9_closed, 1, (some .int))
abbrev mX9_rate : zM := (yX9_rate, cX9_rate, 3, (some .int))
abbrev mX9_worthy : zM := (yX9_worthy, cX9_worthy, 1, (some .int))
abbrev mX9_day : zM := (yX9_day, cX9_day, 2, (some .int))
abbrev mX9_order : zM := (yX9_order, cX9_order, 2, (some .int))
abbrev mX9_file : zM := (yX9_file, cX9_file, 2, (some .int))
abbrev mX9_pays : zM := (yX9_pays, cX9_pays, 2, (some .int))
abbrev mX9_cash : zM := (yX9_cash, cX9_cash, 2, (some .int))
abbrev mX9_room : zM := (yX9_room, cX9_room, 1, (some .int))
abbrev mX9_tight : zM := (yX9_tight, cX9_tight, 1, (some .int))
abbrev mX9_fees : zM := (yX9_fees, cX9_fees, 1, (some .int))
abbrev mX9_open : zM := (yX9_open, cX9_open, 1, (some .int))
abbrev mX9_caught : zM := (yX9_caught, cX9_caught, 3, (some .int))
abbrev mX9_late : zM := (yX9_late, cX9_late, 3, (some .int))
abbrev mX9_saved : zM := (yX9_saved, cX9_saved, 3, (some .int))
abbrev mX9_lost : zM := (yX9_lost, cX9_lost, 3, (some .int))
abbrev mX9_total : zM := (yX9_total, cX9_total, 1, (some .int))
abbrev mX9_early : zM := (yX9_early, cX9_early, 2, (some .int))
abbrev mX9_gets : zM := (yX9_gets, cX9_gets, 2, (some .int))
abbrev mX9_dear : zM := (yX9_dear, cX9_dear, 5, (some .int))
abbrev mX9_busy : zM := (yX9_busy, cX9_busy, 5, (some .int))
abbrev mX9_lawful : zM := (yX9_lawful, cX9_lawful, 3, (some .int))
abbrev mX9_sums : zM := (yX9_sums, cX9_sums, 3, (some .int))
abbrev mX9_falls : zM := (yX9_falls, cX9_falls, 4, (some .int))
abbrev mX9_best : zM := (yX9_best, cX9_best, 1, (some .int))
abbrev mX9_choice : zM := (yX9_choice, cX9_choice, 3, (some .int))
abbrev mX9_waste : zM := (yX9_waste, cX9_waste, 2, (some .int))
abbrev mX9_batch : zM := (yX9_batch, cX9_batch, 3, (some .int))
abbrev mX9_when : zM := (yX9_when, cX9_when, 5, (some .int))
abbrev mX9_with : zM := (yX9_with, cX9_with, 4, (some .int))
abbrev mX9_may : zM := (yX9_may, cX9_may, 5, (some .int))
abbrev mX9_blame : zM := (yX9_blame, cX9_blame, 6, (some .int))
abbrev mX9_need : zM := (yX9_need, cX9_need, 3, (some .int))
abbrev mX9_floor : zM := (yX9_floor, cX9_floor, 4, (some .int))
abbrev mX9_broke : zM := (yX9_broke, cX9_broke, 3, (some .int))
abbrev mX9_closing : zM := (yX9_closing, cX9_closing, 3, (some .int))
abbrev mX9_fits : zM := (yX9_fits, cX9_fits, 4, (some .int))
abbrev mX9_low : zM := (yX9_low, cX9_low, 4, (some .int))
abbrev mX9_high : zM := (yX9_high, cX9_high, 4, (some .int))
abbrev mX9_ask : zM := (yX9_ask, cX9_ask, 4, (some .int))
abbrev mX9_leaves : zM := (yX9_leaves, cX9_leaves, 6, (some .int))
abbrev mX9_laws : zM := (yX9_laws, cX9_laws, 5, (some .int))
abbrev mX9_by : zM := (yX9_by, cX9_by, 2, (some .int))
abbrev mX9_law : zM := (yX9_law, cX9_law, 5, (some .int))
abbrev mX9_worth : zM := (yX9_worth, cX9_worth, 2, (some .int))
abbrev mX9_share : zM := (yX9_share, cX9_share, 3, (some .int))
abbrev mX9_rests : zM := (yX9_rests, cX9_rests, 3, (some .int))
abbrev mX9_has : zM := (yX9_has, cX9_has, 5, (some .int))
abbrev mX9_chance : zM := (yX9_chance, cX9_chance, 3, (some .int))
abbrev mX9_mean : zM := (yX9_mean, cX9_mean, 2, (some .long))
abbrev mX9_frees : zM := (yX9_frees, cX9_frees, 2, (some .int))
abbrev mX9_fails : zM := (yX9_fails, cX9_fails, 2, (some .int))
abbrev mX9_undo : zM := (yX9_undo, cX9_undo, 1, (some .int))
abbrev mX9_anew : zM := (yX9_anew, cX9_anew, 2, (some .int))
abbrev mX9_drawn : zM := (yX9_drawn, cX9_drawn, 4, (some .int))
abbrev mX9_luck : zM := (yX9_luck, cX9_luck, 6, (some .int))
abbrev mX9_ranks : zM := (yX9_ranks, cX9_ranks, 4, (some .int))
abbrev mX9_count : zM := (yX9_count, cX9_count, 2, (some .int))
abbrev mX9_image : zM := (yX9_image, cX9_image, 2, (some .int))
abbrev mX9_back : zM := (yX9_back, cX9_back, 2, (some .int))
abbrev mX9_row : zM := (yX9_row, cX9_row, 4, (some .int))
abbrev mX9_write : zM := (yX9_write, cX9_write, 5, (some .int))
abbrev mX9_paste : zM := (yX9_paste, cX9_paste, 6, (some .int))
abbrev mX9_isThere : zM := (yX9_isThere, cX9_isThere, 1, (some .boolean))
abbrev mX9_isDay : zM := (yX9_isDay, cX9_isDay, 2, (some .boolean))
abbrev mX9_isBill : zM := (yX9_isBill, cX9_isBill, 2, (some .boolean))
abbrev mX9_isSupplier : zM := (yX9_isSupplier, cX9_isSupplier, 2, (some .boolean))
abbrev mX9_arePlayers : zM := (yX9_arePlayers, cX9_arePlayers, 3, (some .boolean))
abbrev mX9_isPart : zM := (yX9_isPart, cX9_isPart, 1, (some .boolean))
abbrev mX9_isChoice : zM := (yX9_isChoice, cX9_isChoice, 1, (some .boolean))
abbrev mX9_isSeed : zM := (yX9_isSeed, cX9_isSeed, 1, (some .boolean))
abbrev mX9_byLaw : zM := (yX9_byLaw, cX9_byLaw, 1, (some (.object "PaymentRuns$Week")))
abbrev mX9_planByOtherLaw : zM := (yX9_planByOtherLaw, cX9_planByOtherLaw, 2, none)
abbrev mX9_planWithClosed : zM := (yX9_planWithClosed, cX9_planWithClosed, 2, none)
abbrev mX9_planWithIncomes : zM := (yX9_planWithIncomes, cX9_planWithIncomes, 2, none)
abbrev mX9_totalOfSet : zM := (yX9_totalOfSet, cX9_totalOfSet, 2, (some .int))
abbrev mX9_leastOfAll : zM := (yX9_leastOfAll, cX9_leastOfAll, 1, (some .int))
abbrev mX9_refusedPlan : zM := (yX9_refusedPlan, cX9_refusedPlan, 2, (some .int))
abbrev mX9_refusedSeen : zM := (yX9_refusedSeen, cX9_refusedSeen, 3, (some .int))
abbrev mX9_layPlan : zM := (yX9_layPlan, cX9_layPlan, 4, none)
abbrev mX9_idle : zM := (yX9_idle, cX9_idle, 1, (some .int))
abbrev mX9_leastOnDay : zM := (yX9_leastOnDay, cX9_leastOnDay, 5, (some .int))
abbrev mX9_partOf : zM := (yX9_partOf, cX9_partOf, 7, (some .long))
abbrev mX9_commonDivisor : zM := (yX9_commonDivisor, cX9_commonDivisor, 11, (some .long))
abbrev mX10_init : zM := (yX10_init, cX10_init, 2, none)
abbrev mX10_in : zM := (yX10_in, cX10_in, 6, (some .boolean))
abbrev mX10_isSlot : zM := (yX10_isSlot, cX10_isSlot, 1, (some .boolean))
abbrev mX10_row : zM := (yX10_row, cX10_row, 5, (some .int))
abbrev mX10_cut : zM := (yX10_cut, cX10_cut, 3, (some .long))
abbrev mX10_write : zM := (yX10_write, cX10_write, 5, (some .int))
abbrev mX10_paste : zM := (yX10_paste, cX10_paste, 7, (some .int))
abbrev mX10_feed : zM := (yX10_feed, cX10_feed, 6, (some .int))
abbrev mX10_four : zM := (yX10_four, cX10_four, 3, none)
abbrev mX10_end : zM := (yX10_end, cX10_end, 2, (some .int))
abbrev mX10_isByte : zM := (yX10_isByte, cX10_isByte, 4, (some .boolean))
abbrev mX10_next : zM := (yX10_next, cX10_next, 2, none)
abbrev mX10_isGood : zM := (yX10_isGood, cX10_isGood, 1, (some .boolean))
abbrev mX10_errs : zM := (yX10_errs, cX10_errs, 2, none)
abbrev mX10_is : zM := (yX10_is, cX10_is, 3, (some .boolean))
abbrev mX10_takesWord : zM := (yX10_takesWord, cX10_takesWord, 3, (some .boolean))
abbrev mX10_asks : zM := (yX10_asks, cX10_asks, 3, none)
abbrev mX10_number : zM := (yX10_number, cX10_number, 4, (some .int))
abbrev mX10_number_ : zM := (yX10_number_, cX10_number_, 5, (some .int))
abbrev mX10_ends : zM := (yX10_ends, cX10_ends, 1, none)
abbrev mX10_begins : zM := (yX10_begins, cX10_begins, 1, none)
abbrev mX10_isOver : zM := (yX10_isOver, cX10_isOver, 1, none)
abbrev mX10_fault : zM := (yX10_fault, cX10_fault, 2, (some .int))
abbrev mX10_hasRead : zM := (yX10_hasRead, cX10_hasRead, 2, (some .int))
abbrev mX10_tells : zM := (yX10_tells, cX10_tells, 3, none)
abbrev mX10_billLine : zM := (yX10_billLine, cX10_billLine, 2, none)
abbrev mX10_loadLine : zM := (yX10_loadLine, cX10_loadLine, 2, none)
abbrev mX10_isRoom : zM := (yX10_isRoom, cX10_isRoom, 4, (some .boolean))
abbrev mX10_lineHere : zM := (yX10_lineHere, cX10_lineHere, 1, none)
abbrev mX10_clears : zM := (yX10_clears, cX10_clears, 2, none)
abbrev mX10_desk : zM := (yX10_desk, cX10_desk, 1, (some .int))
abbrev mX10_copyRow : zM := (yX10_copyRow, cX10_copyRow, 5, none)
abbrev mX10_copyDesk : zM := (yX10_copyDesk, cX10_copyDesk, 3, none)
abbrev mX10_isDesk : zM := (yX10_isDesk, cX10_isDesk, 1, (some .boolean))
abbrev mX10_days : zM := (yX10_days, cX10_days, 1, (some .int))
abbrev mX10_bills : zM := (yX10_bills, cX10_bills, 1, (some .int))
abbrev mX10_isSupplier : zM := (yX10_isSupplier, cX10_isSupplier, 2, (some .boolean))
abbrev mX10_isBill : zM := (yX10_isBill, cX10_isBill, 3, (some .boolean))
abbrev mX10_isDay : zM := (yX10_isDay, cX10_isDay, 2, (some .boolean))
abbrev mX10_areTwo : zM := (yX10_areTwo, cX10_areTwo, 3, (some .boolean))
abbrev mX10_isHalf : zM := (yX10_isHalf, cX10_isHalf, 1, (some .boolean))
abbrev mX10_isBit : zM := (yX10_isBit, cX10_isBit, 2, (some .boolean))
abbrev mX10_sizeOf : zM := (yX10_sizeOf, cX10_sizeOf, 3, (some .int))
abbrev mX10_lessOf : zM := (yX10_lessOf, cX10_lessOf, 2, (some .int))
abbrev mX10_moreOf : zM := (yX10_moreOf, cX10_moreOf, 2, (some .int))
abbrev mX10_lays : zM := (yX10_lays, cX10_lays, 3, none)
abbrev mX10_isThere : zM := (yX10_isThere, cX10_isThere, 2, (some .boolean))
abbrev mX10_offOf : zM := (yX10_offOf, cX10_offOf, 2, (some .int))
abbrev mX10_lateOf : zM := (yX10_lateOf, cX10_lateOf, 3, (some .int))
abbrev mX10_costOf : zM := (yX10_costOf, cX10_costOf, 3, (some .int))
abbrev mX10_spanOf : zM := (yX10_spanOf, cX10_spanOf, 2, (some .int))
abbrev mX10_cameBy : zM := (yX10_cameBy, cX10_cameBy, 4, (some .int))
abbrev mX10_isUsed : zM := (yX10_isUsed, cX10_isUsed, 3, (some .boolean))
abbrev mX10_outOn : zM := (yX10_outOn, cX10_outOn, 4, (some .int))
abbrev mX10_laysCash : zM := (yX10_laysCash, cX10_laysCash, 3, none)
abbrev mX10_isAbove : zM := (yX10_isAbove, cX10_isAbove, 3, (some .boolean))
abbrev mX10_totalNow : zM := (yX10_totalNow, cX10_totalNow, 3, (some .int))
abbrev mX10_isFirst : zM := (yX10_isFirst, cX10_isFirst, 3, (some .boolean))
abbrev mX10_laysTurns : zM := (yX10_laysTurns, cX10_laysTurns, 5, none)
abbrev mX10_runs : zM := (yX10_runs, cX10_runs, 2, none)
abbrev mX10_dayFor : zM := (yX10_dayFor, cX10_dayFor, 6, (some .int))
abbrev mX10_laysNow : zM := (yX10_laysNow, cX10_laysNow, 1, none)
abbrev mX10_common : zM := (yX10_common, cX10_common, 4, (some .long))
abbrev mX10_partOf : zM := (yX10_partOf, cX10_partOf, 5, (some .long))
abbrev mX10_rank : zM := (yX10_rank, cX10_rank, 2, (some .int))
abbrev mX10_bill : zM := (yX10_bill, cX10_bill, 3, (some .int))
abbrev mX10_net : zM := (yX10_net, cX10_net, 2, (some .int))
abbrev mX10_costs : zM := (yX10_costs, cX10_costs, 3, (some .int))
abbrev mX10_comes : zM := (yX10_comes, cX10_comes, 4, (some .int))
abbrev mX10_closed : zM := (yX10_closed, cX10_closed, 1, (some .int))
abbrev mX10_rate : zM := (yX10_rate, cX10_rate, 3, (some .int))
abbrev mX10_worthy : zM := (yX10_worthy, cX10_worthy, 3, (some .int))
abbrev mX10_dayOf : zM := (yX10_dayOf, cX10_dayOf, 2, (some .int))
abbrev mX10_day : zM := (yX10_day, cX10_day, 2, (some .int))
abbrev mX10_order : zM := (yX10_order, cX10_order, 2, (some .int))
abbrev mX10_fileOn : zM := (yX10_fileOn, cX10_fileOn, 4, (some .int))
abbrev mX10_file : zM := (yX10_file, cX10_file, 2, (some .int))
abbrev mX10_pays : zM := (yX10_pays, cX10_pays, 2, (some .int))
abbrev mX10_cash : zM := (yX10_cash, cX10_cash, 2, (some .int))
abbrev mX10_tightNow : zM := (yX10_tightNow, cX10_tightNow, 3, (some .int))
abbrev mX10_room : zM := (yX10_room, cX10_room, 1, (some .int))
abbrev mX10_tight : zM := (yX10_tight, cX10_tight, 1, (some .int))
abbrev mX10_fees : zM := (yX10_fees, cX10_fees, 3, (some .int))
abbrev mX10_open : zM := (yX10_open, cX10_open, 1, (some .int))
abbrev mX10_isCaught : zM := (yX10_isCaught, cX10_isCaught, 2, (some .boolean))
abbrev mX10_caught : zM := (yX10_caught, cX10_caught, 3, (some .int))
abbrev mX10_late : zM := (yX10_late, cX10_late, 3, (some .int))
abbrev mX10_saved : zM := (yX10_saved, cX10_saved, 3, (some .int))
abbrev mX10_lost : zM := (yX10_lost, cX10_lost, 3, (some .int))
abbrev mX10_total : zM := (yX10_total, cX10_total, 1, (some .int))
abbrev mX10_early : zM := (yX10_early, cX10_early, 2, (some .int))
abbrev mX10_paidTo : zM := (yX10_paidTo, cX10_paidTo, 4, (some .int))
abbrev mX10_gets : zM := (yX10_gets, cX10_gets, 2, (some .int))
abbrev mX10_dear : zM := (yX10_dear, cX10_dear, 3, (some .int))
abbrev mX10_busy : zM := (yX10_busy, cX10_busy, 3, (some .int))
abbrev mX10_whyNotPlan : zM := (yX10_whyNotPlan, cX10_whyNotPlan, 3, (some .int))
abbrev mX10_laysPlan : zM := (yX10_laysPlan, cX10_laysPlan, 3, none)
abbrev mX10_isLawful : zM := (yX10_isLawful, cX10_isLawful, 3, (some .boolean))
abbrev mX10_lawful : zM := (yX10_lawful, cX10_lawful, 3, (some .int))
abbrev mX10_sums : zM := (yX10_sums, cX10_sums, 3, (some .int))
abbrev mX10_falls : zM := (yX10_falls, cX10_falls, 4, (some .int))
abbrev mX10_allPlans : zM := (yX10_allPlans, cX10_allPlans, 3, (some .int))
abbrev mX10_laysNth : zM := (yX10_laysNth, cX10_laysNth, 4, none)
abbrev mX10_laysBest : zM := (yX10_laysBest, cX10_laysBest, 6, none)
abbrev mX10_best : zM := (yX10_best, cX10_best, 1, (some .int))
abbrev mX10_choice : zM := (yX10_choice, cX10_choice, 2, (some .int))
abbrev mX10_waste : zM := (yX10_waste, cX10_waste, 2, (some .int))
abbrev mX10_usedDays : zM := (yX10_usedDays, cX10_usedDays, 3, (some .int))
abbrev mX10_laysBatch : zM := (yX10_laysBatch, cX10_laysBatch, 7, none)
abbrev mX10_batch : zM := (yX10_batch, cX10_batch, 1, (some .int))
abbrev mX10_when : zM := (yX10_when, cX10_when, 1, (some .int))
abbrev mX10_with : zM := (yX10_with, cX10_with, 3, (some .int))
abbrev mX10_may : zM := (yX10_may, cX10_may, 5, (some .int))
abbrev mX10_totalBy : zM := (yX10_totalBy, cX10_totalBy, 1, (some .int))
abbrev mX10_blame : zM := (yX10_blame, cX10_blame, 6, (some .int))
abbrev mX10_need : zM := (yX10_need, cX10_need, 2, (some .int))
abbrev mX10_floor : zM := (yX10_floor, cX10_floor, 5, (some .int))
abbrev mX10_broke : zM := (yX10_broke, cX10_broke, 3, (some .int))
abbrev mX10_closing : zM := (yX10_closing, cX10_closing, 3, (some .int))
abbrev mX10_whyNot : zM := (yX10_whyNot, cX10_whyNot, 5, (some .int))
abbrev mX10_isSo : zM := (yX10_isSo, cX10_isSo, 3, (some .boolean))
abbrev mX10_laysSeen : zM := (yX10_laysSeen, cX10_laysSeen, 5, none)
abbrev mX10_worstBy : zM := (yX10_worstBy, cX10_worstBy, 6, (some .int))
abbrev mX10_fits : zM := (yX10_fits, cX10_fits, 4, (some .int))
abbrev mX10_low : zM := (yX10_low, cX10_low, 5, (some .int))
abbrev mX10_high : zM := (yX10_high, cX10_high, 5, (some .int))
abbrev mX10_ask : zM := (yX10_ask, cX10_ask, 4, (some .int))
abbrev mX10_leaves : zM := (yX10_leaves, cX10_leaves, 4, (some .int))
abbrev mX10_totalByLaw : zM := (yX10_totalByLaw, cX10_totalByLaw, 2, (some .int))
abbrev mX10_laws : zM := (yX10_laws, cX10_laws, 5, (some .int))
abbrev mX10_by : zM := (yX10_by, cX10_by, 2, (some .int))
abbrev mX10_law : zM := (yX10_law, cX10_law, 3, (some .int))
abbrev mX10_every : zM := (yX10_every, cX10_every, 1, (some .int))
abbrev mX10_worthOf : zM := (yX10_worthOf, cX10_worthOf, 4, (some .int))
abbrev mX10_worth : zM := (yX10_worth, cX10_worth, 2, (some .int))
abbrev mX10_times : zM := (yX10_times, cX10_times, 1, (some .int))
abbrev mX10_share : zM := (yX10_share, cX10_share, 7, (some .int))
abbrev mX10_hasBy : zM := (yX10_hasBy, cX10_hasBy, 8, (some .int))
abbrev mX10_rests : zM := (yX10_rests, cX10_rests, 8, (some .int))
abbrev mX10_has : zM := (yX10_has, cX10_has, 5, (some .int))
abbrev mX10_power : zM := (yX10_power, cX10_power, 3, (some .long))
abbrev mX10_weightOf : zM := (yX10_weightOf, cX10_weightOf, 8, (some .long))
abbrev mX10_chance : zM := (yX10_chance, cX10_chance, 3, (some .int))
abbrev mX10_mean : zM := (yX10_mean, cX10_mean, 2, (some .long))
abbrev mX10_draws : zM := (yX10_draws, cX10_draws, 7, (some .int))
abbrev mX10_isSeed : zM := (yX10_isSeed, cX10_isSeed, 1, (some .boolean))
abbrev mX10_drawn : zM := (yX10_drawn, cX10_drawn, 4, (some .int))
abbrev mX10_luck : zM := (yX10_luck, cX10_luck, 6, (some .int))
abbrev mX10_does : zM := (yX10_does, cX10_does, 4, (some .int))
abbrev mX10_frees : zM := (yX10_frees, cX10_frees, 2, (some .int))
abbrev mX10_fails : zM := (yX10_fails, cX10_fails, 2, (some .int))
abbrev mX10_undo : zM := (yX10_undo, cX10_undo, 1, (some .int))
abbrev mX10_anew : zM := (yX10_anew, cX10_anew, 2, (some .int))
abbrev mX10_ranks : zM := (yX10_ranks, cX10_ranks, 4, (some .int))
abbrev mX10_count : zM := (yX10_count, cX10_count, 4, (some .int))
abbrev mX10_image : zM := (yX10_image, cX10_image, 2, (some .int))
abbrev mX10_back : zM := (yX10_back, cX10_back, 2, (some .int))
abbrev mJ6_bitCount_0f7a4 : zM := (yJ6_bitCount_0f7a4, cJ6_bitCount_0f7a4, 1, (some .int))
abbrev mJ9_abs_067f4 : zM := (yJ9_abs_067f4, cJ9_abs_067f4, 2, (some .long))
abbrev mJ9_max_7cf53 : zM := (yJ9_max_7cf53, cJ9_max_7cf53, 2, (some .int))
abbrev mJ9_max_f86c9 : zM := (yJ9_max_f86c9, cJ9_max_f86c9, 4, (some .long))
abbrev mJ9_min_7cf53 : zM := (yJ9_min_7cf53, cJ9_min_7cf53, 2, (some .int))
abbrev mJ0_length_8abf5 : zM := (yJ0_length_8abf5, cJ0_length_8abf5, 1, (some .int))
abbrev mJ0_charAt_5068e : zM := (yJ0_charAt_5068e, cJ0_charAt_5068e, 2, (some .char))
abbrev mJ0_coder_7d493 : zM := (yJ0_coder_7d493, cJ0_coder_7d493, 1, (some .byte))
abbrev mJ0_isLatin1_aae02 : zM := (yJ0_isLatin1_aae02, cJ0_isLatin1_aae02, 1, (some .boolean))
abbrev mJ0_checkIndex_df160 : zM := (yJ0_checkIndex_df160, cJ0_checkIndex_df160, 2, none)
abbrev mJ1_charAt_3b067 : zM := (yJ1_charAt_3b067, cJ1_charAt_3b067, 2, (some .char))
abbrev mJ2_getChar_3b067 : zM := (yJ2_getChar_3b067, cJ2_getChar_3b067, 2, (some .char))
abbrev mJ2_length_9d52b : zM := (yJ2_length_9d52b, cJ2_length_9d52b, 1, (some .int))
abbrev mJ2_charAt_3b067 : zM := (yJ2_charAt_3b067, cJ2_charAt_3b067, 2, (some .char))
abbrev mJ2_checkIndex_2214a : zM := (yJ2_checkIndex_2214a, cJ2_checkIndex_2214a, 2, none)
abbrev mJ3_checkIndex_8e157 : zM := (yJ3_checkIndex_8e157, cJ3_checkIndex_8e157, 3, (some .int))
abbrev mL_law : zM := (x, code, maxLocals, ret)
/-- the cells as the two constructors leave them: (class number or kind of array, length); which refer to which -/
def TTl : List (Nat × Nat) := [(9, 11), (7, 9), (20, 700), (0, 16), (21, 4), (25, 5), (21, 7), (21, 7), (21, 7), (21, 7), (21, 7), (21, 6), (21, 6), (21, 20), (8, 15), (0, 16), (21, 4), (25, 5), (21, 7), (21, 7), (21, 7), (21, 7), (21, 7), (21, 6), (21, 6), (21, 20), (21, 5), (21, 5), (21, 5), (21, 5), (21, 7), (21, 7), (24, 3), (0, 16), (21, 4), (25, 5), (21, 7), (21, 7), (21, 7), (21, 7), (21, 7), (21, 6), (21, 6), (21, 20), (0, 16), (21, 4), (25, 5), (21, 7), (21, 7), (21, 7), (21, 7), (21, 7), (21, 6), (21, 6), (21, 20), (0, 16), (21, 4), (25, 5), (21, 7), (21, 7), (21, 7), (21, 7), (21, 7), (21, 6), (21, 6), (21, 20), (23, 3), (3, 3), (26, 4), (22, 60), (22, 60), (22, 60), (22, 60), (21, 4), (21, 4), (4, 6), (21, 5), (21, 5), (21, 6), (5, 3), (23, 21), (25, 21), (21, 5), (21, 5), (21, 5), (21, 5), (21, 5), (21, 5), (21, 5), (21, 5), (21, 5), (21, 5), (21, 5), (21, 5), (21, 5), (21, 5), (21, 5), (21, 5), (21, 5), (21, 5), (21, 5), (21, 5), (21, 5), (6, 2), (1, 2), (21, 4), (21, 4), (2, 2), (10, 43), (21, 4), (21, 4), (22, 240), (22, 60), (20, 700), (21, 5), (21, 50), (21, 20), (21, 175), (21, 60), (21, 200), (23, 3), (21, 5), (21, 5), (21, 5), (21, 7), (21, 5), (21, 105)]
def zRo : List (Nat × Nat × Int) := [(0, 0, 1), (0, 1, 14), (0, 2, 15), (0, 3, 32), (0, 4, 66), (0, 5, 67), (0, 6, 75), (0, 7, 79), (0, 8, 103), (0, 9, 104), (0, 10, 107), (1, 0, 2), (1, 1, 3), (3, 11, 4), (3, 12, 5), (3, 13, 11), (3, 14, 12), (3, 15, 13), (14, 0, 15), (14, 7, 26), (14, 8, 27), (14, 9, 28), (14, 10, 29), (14, 12, 30), (14, 13, 31), (15, 11, 16), (15, 12, 17), (15, 13, 23), (15, 14, 24), (15, 15, 25), (33, 11, 34), (33, 12, 35), (33, 13, 41), (33, 14, 42), (33, 15, 43), (44, 11, 45), (44, 12, 46), (44, 13, 52), (44, 14, 53), (44, 15, 54), (55, 11, 56), (55, 12, 57), (55, 13, 63), (55, 14, 64), (55, 15, 65), (67, 0, 68), (67, 1, 73), (67, 2, 74), (75, 0, 76), (75, 1, 77), (75, 2, 78), (79, 0, 80), (79, 1, 81), (104, 0, 105), (104, 1, 106), (108, 1, 109), (108, 2, 110), (108, 3, 111), (108, 4, 112), (108, 5, 113), (108, 16, 114), (108, 17, 115), (108, 18, 116), (108, 19, 117), (108, 20, 118), (108, 21, 119), (108, 22, 120), (108, 29, 121), (108, 30, 122), (108, 31, 123), (108, 32, 124), (108, 33, 125), (108, 42, 126)]
def zRa : List (Nat × Nat × Int × Int) := [(5, 5, 6, 1), (17, 5, 18, 1), (32, 3, 33, 11), (35, 5, 36, 1), (46, 5, 47, 1), (57, 5, 58, 1), (68, 4, 69, 1), (81, 21, 82, 1)]
/-- the String constants: own class, entry, text; lengths, bytes; FACTORIAL -/
def zSl : List (String × Nat × String) := [("PaymentRuns$Tape", 76, "desk"), ("PaymentRuns$Tape", 82, "days"), ("PaymentRuns$Tape", 90, "law"), ("PaymentRuns$Tape", 94, "odds"), ("PaymentRuns$Tape", 64, "cash"), ("PaymentRuns$Tape", 100, "floor"), ("PaymentRuns$Tape", 104, "fee"), ("PaymentRuns$Tape", 50, "supplier"), ("PaymentRuns$Tape", 115, "rank"), ("PaymentRuns$Tape", 59, "bill"), ("PaymentRuns$Tape", 123, "of"), ("PaymentRuns$Tape", 125, "sum"), ("PaymentRuns$Tape", 127, "off"), ("PaymentRuns$Tape", 129, "by"), ("PaymentRuns$Tape", 131, "due"), ("PaymentRuns$Tape", 133, "late"), ("PaymentRuns$Tape", 135, "held"), ("PaymentRuns$Tape", 150, "on")]
def zln : List Nat := [4, 4, 3, 4, 4, 5, 3, 8, 4, 4, 2, 3, 3, 2, 3, 4, 4, 2]
def zby : List (List Int32) := [[100, 101, 115, 107], [100, 97, 121, 115], [108, 97, 119], [111, 100, 100, 115], [99, 97, 115, 104], [102, 108, 111, 111, 114], [102, 101, 101], [115, 117, 112, 112, 108, 105, 101, 114], [114, 97, 110, 107], [98, 105, 108, 108], [111, 102], [115, 117, 109], [111, 102, 102], [98, 121], [100, 117, 101], [108, 97, 116, 101], [104, 101, 108, 100], [111, 110]]
def zfaL : List Int := [1, 1, 2, 6, 24, 120]
end
section
/-! THE ENGINE: an abstract machine over whole numbers; a place is a Nat, a cell a row of Ints, types in a list -/
abbrev zV : Type := Nat × Int
abbrev zI (x : Int) : zV := (0, x)
abbrev zJ (x : Int) : zV := (1, x)
abbrev zA (k : Int) : zV := (2, k)
abbrev zN : zV := (3, 0)
abbrev zH : Type := Int → Int → Int
abbrev zT : Type := List (Nat × Nat) × Bool
abbrev zB : Type := Nat × Nat × Nat × Nat × Nat
abbrev zFx : Type := (Nat → ClassId) × (Nat → Nat → Nat) × (Nat → ClassId) × Nat × ((Nat → Nat) × (Nat → Nat) × Nat) × (Nat × Nat × (Nat → Int32))
abbrev zG : Type := zFx × (Nat → Nat)
abbrev gD (G : zG) : va_G := (G.1.1, G.1.2.1)
abbrev gY (G : zG) : Nat → ClassId := G.1.2.2.1
abbrev gB (G : zG) : Nat := G.1.2.2.2.1
abbrev gSk (G : zG) : Nat → Nat := G.1.2.2.2.2.1.1
abbrev gSv (G : zG) : Nat → Nat := G.1.2.2.2.2.1.2.1
abbrev gFa (G : zG) : Nat := G.1.2.2.2.2.1.2.2
abbrev gSc (G : zG) : Nat := G.1.2.2.2.2.2.1
abbrev gL (G : zG) : Nat := G.1.2.2.2.2.2.2.1
abbrev gXs (G : zG) : Nat → Int32 := G.1.2.2.2.2.2.2.2
def zc (G : zG) : zV → Value
  | (0, x) => .int (Int32.ofInt x)
  | (1, x) => .long (Int64.ofInt x)
  | (2, k) => if k < 0 then .null else .ref (G.2 k.toNat)
  | (4, _) => .ref (gFa G)
  | (5, k) => .ref (gSk G k.toNat)
  | (6, _) => .ref (gSc G)
  | (7, k) => .ref (gSv G k.toNat)
  | _ => .null
def zR (x : Int) : Prop := -2147483648 ≤ x ∧ x < 2147483648
def zRl (x : Int) : Prop := -9223372036854775808 ≤ x ∧ x < 9223372036854775808
def zok (T : zT) : zV → Prop
  | (0, x) => zR x
  | (1, x) => zRl x
  | (2, k) => k < T.1.length
  | _ => True
def zokc (T : zT) (t : Nat × Nat) (j : Nat) (x : Int) : Prop :=
  if t.1 < 20 then zok T (zF t.1 j, x) else if t.1 = 20 then -128 ≤ x ∧ x < 128 else if t.1 = 21 then zR x else if t.1 = 22 then zRl x else if t.1 = 23 then 0 ≤ x ∧ x < 2 else x < T.1.length
/-- which cell refers to which, once both constructors are through (T.2 = true) -/
def zSh (h : zH) : Prop := (∀ q ∈ zRo, h q.1 q.2.1 = q.2.2) ∧ ∀ q ∈ zRa, ∀ j : Nat, j < q.2.1 → h q.1 j = q.2.2.1 + q.2.2.2 * j
def zokh (T : zT) (h : zH) : Prop := (∀ (k j : Nat) (t : Nat × Nat), T.1[k]? = some t → j < t.2 → zokc T t j (h k j)) ∧ (T.2 = true → T.1 = TTl ∧ zSh h)
abbrev TT : zT := (TTl, true)
def zE (G : zG) (t : Nat × Nat) (f : Int → Int) : va_E :=
  if t.1 < 20 then .inr (t.1, (List.range t.2).map (fun j => zc G (zF t.1 j, f j)))
  else if t.1 = 22 then .inl (gY G 22, t.2, .inr (.inl (fun j => Int64.ofInt (f j))))
  else if t.1 < 24 then .inl (gY G t.1, t.2, .inl (fun j => Int32.ofInt (f j)))
  else .inl (gY G t.1, t.2, .inr (.inr (.inr (.inr (fun j => if f j < 0 then none else some (G.2 (f j).toNat))))))
def zw (G : zG) (T : zT) (h : zH) : va_W := (List.range T.1.length).map (fun k => (G.2 k, zE G (T.1.getD k (0, 0)) (h k)))
def zAd (G : zG) : Nat → Prop := fun q => gB G ≤ q
def zty (G : zG) : List (ClassId × FieldType) := [(gY G 20, .byte), (gY G 21, .int), (gY G 22, .long), (gY G 23, .boolean), (gY G 24, .object "PaymentRuns$Desk"), (gY G 25, .array .int), (gY G 26, .array .long)]
def zfa (j : Int) : Int := zfaL.getD j.toNat 0
def zsl (i : Int) : Int := (zln.getD i.toNat 0 : Nat)
def zsb (i j : Int) : Int := ((zby.getD i.toNat []).getD j.toNat 0).toInt
def lwg : List Cond := lw_tbl.filter goodWord
theorem lwg_at {w : Cond} (n : Nat) (h : lw_tbl[n]? = some w) (hg : goodWord w = true) : w ∈ lwg := List.mem_filter.mpr ⟨List.mem_of_getElem? h, hg⟩
theorem lwg_good : GoodIn lwg lwg := fun w h => ⟨h, good_of_word (List.mem_filter.mp h).2⟩
def zws (M : zM) : List Cond := Cond.code M.1 M.2.1 M.2.2.1 M.2.2.2 :: lwg
/-- what stays all the time: the classes, the script, the constants -/
def zKc (G : zG) (U : State) (H : Heap) : Prop :=
  (∀ (i : Nat) (q : String × Nat × String), zSl[i]? = some q → vk_R q.1 q.2.1 q.2.2 (gSk G i) U) ∧ vk_S 18 zln zby (gSk G) (gSv G) (zAd G) U H ∧ va_Z "PaymentRuns$Shares" "FACTORIAL" "[I" (.ref (gFa G)) (zAd G) U H ∧ va_T .int (gFa G) 6 (fun j => .int (Int32.ofInt (zfaL.getD j 0))) (zAd G) U H ∧ va_Z "java/lang/String" "COMPACT_STRINGS" "Z" (.int 1) (zAd G) U H
def zK (G : zG) (U : State) (H : Heap) : Prop :=
  va_K (gD G) vwCl (zty G) U ∧ (va_X (gSc G) (gL G) (gXs G) U H ∧ gSc G < gB G ∧ gB G ≤ H.size) ∧ zKc G U H
theorem zK.next {G : zG} {s U : State} {H : Heap} {locs : List Loc} (h : zK G s s.heap) (hS : va_S (zAd G) s.heap H locs) (hU : U.heap = H) (hW : s.WarmedH U.vm) : zK G U U.heap := by
  obtain ⟨h1, ⟨h2, h3, h4⟩, k1, k2, k3, k4, k5⟩ := h
  subst hU
  exact ⟨va_K.moved hW.alike h1, ⟨va_X.moved hW.alike (h2.kept (hS.2.1 _ (Nat.lt_of_lt_of_le h3 h4) (fun q => absurd h3 (Nat.not_lt.mpr q)))), h3, Nat.le_trans h4 hS.1⟩,
    fun i q hq => (k1 i q hq).warm hW, vk_S.moved hW.alike (k2.kept hS.2.1), va_Z.moved hW.alike (k3.kept hS.2.1), va_T.moved hW.alike (k4.kept hS.2.1), va_Z.moved hW.alike (k5.kept hS.2.1)⟩
theorem zK.calling {G : zG} {U : State} {g : JFrame} {mk : MethodId} {a : Array Value} (h : zK G U U.heap) : zK G (U.calling g mk a) (U.calling g mk a).heap := by
  obtain ⟨h1, ⟨h2, h3, h4⟩, k1, k2, k3, k4, k5⟩ := h
  have al : U.vm.Alike (U.calling g mk a).vm := Vm.Alike.refl U.vm
  exact ⟨va_K.moved (u := U) (U := U.calling g mk a) al h1, ⟨va_X.moved (u := U) (U := U.calling g mk a) al h2, h3, h4⟩,
    fun i q hq => (k1 i q hq).same (U := U.calling g mk a) rfl, vk_S.moved (u := U) (U := U.calling g mk a) al k2, va_Z.moved (u := U) (U := U.calling g mk a) al k3, va_T.moved (u := U) (U := U.calling g mk a) al k4, va_Z.moved (u := U) (U := U.calling g mk a) al k5⟩
/-- the script, seen as a row of h: place -1, its length at place -2 -/
def zScr (G : zG) (h : zH) : Prop := h (-2) 0 = gL G ∧ ∀ j : Nat, j < gL G → zR (h (-1) j) ∧ Int32.ofInt (h (-1) j) = gXs G j
/-- the cells are as T and h say -/
def zP (G : zG) (T : zT) (h : zH) (H : Heap) : Prop := va_P (gD G) vwCl (zw G T h) H ∧ va_D (zAd G) (zw G T h) ∧ zokh T h ∧ zScr G h
def zX (T T' : zT) (G G' : zG) : Prop := T.1 <+: T'.1 ∧ G.1 = G'.1 ∧ ∀ k, k < T.1.length → G.2 k = G'.2 k
theorem zX.rf {T : zT} {G : zG} : zX T T G G := ⟨List.prefix_refl _, rfl, fun _ _ => rfl⟩
theorem zX.tr {T T' T'' : zT} {G G' G'' : zG} (h : zX T T' G G') (h' : zX T' T'' G' G'') : zX T T'' G G'' :=
  ⟨h.1.trans h'.1, h.2.1.trans h'.2.1, fun k hk => (h.2.2 k hk).trans (h'.2.2 k (Nat.lt_of_lt_of_le hk h.1.length_le))⟩
def zRv (M : zM) (pc : Nat) : Option zV → Prop
  | none => M.2.2.2 = none ∧ decode M.2.1 pc = .ok (.return_, 1)
  | some (0, x) => (∃ ty, M.2.2.2 = some ty ∧ narrow ty (.int (Int32.ofInt x)) = .int (Int32.ofInt x)) ∧ decode M.2.1 pc = .ok (.ireturn, 1)
  | some (1, _) => M.2.2.2 = some .long ∧ decode M.2.1 pc = .ok (.lreturn, 1)
  | some (2, k) => 0 ≤ k ∧ (∃ n, M.2.2.2 = some (.object n)) ∧ decode M.2.1 pc = .ok (.areturn, 1)
  | _ => False
def zlv (G : zG) (ls : List zV) : List (Nat × Value) := (ls.zipIdx.filter (fun q => q.1.1 != 3)).map (fun q => (q.2, zc G q.1))
def zRet (M : zM) (r : zB) (Q : Option zV → zT → zH → Prop) (p : Program) (l : Launch) (e : Env) (R : Room) (s : State) (m : MethodId) (args : Array Value) (below : List Frame) (meth : Method) (c : Code) (Qm : State → Prop) (G0 : zG) (T0 : zT) : Prop :=
  ∀ (G : zG) (T : zT) (h : zH) (H : Heap) (locs : List Loc) (la : Array Slot) (pc : Nat) (rv : Option zV), zX T0 T G0 G → zP G T h H → va_S (zAd G) s.heap H locs → (∀ v ∈ rv, zok T v) → zRv M pc rv → Q rv T h →
    W p l e R s m args below meth c H locs r.2.2.2.1 r.2.2.2.2 Qm (F0 m pc la (rv.toList.map (zc G)))
def zC (M : zM) (r : zB) (Q : Option zV → zT → zH → Prop) (p : Program) (l : Launch) (e : Env) (R : Room) (s : State) (m : MethodId) (args : Array Value) (below : List Frame) (meth : Method) (c : Code) (Qm : State → Prop) (G0 : zG) (T0 : zT) : Prop :=
  p.tables.exec = Jvm.exec ∧ c.code = M.2.1 ∧ c.maxLocals = M.2.2.1 ∧ s.vm.findClass M.1.cls = some m.cls ∧ (∀ w ∈ lwg, w.before args s = true) ∧ meth.name = M.1.name ∧
  (r.1 ≤ R.frames ∧ 64 * r.1 ≤ R.locals ∧ r.2.2.2.1 ≤ R.cells ∧ r.2.2.2.2 ≤ R.slots) ∧ zK G0 s s.heap ∧ zRet M r Q p l e R s m args below meth c Qm G0 T0
/-- from this place on the machine comes to a return with Q; r: frames left, cells and slots made so far, and in all -/
def zS (M : zM) (r : zB) (pc : Nat) (ls st : List zV) (T : zT) (h : zH) (Q : Option zV → zT → zH → Prop) : Prop :=
  ∀ (p : Program) (l : Launch) (e : Env) (R : Room) (s : State) (m : MethodId) (args : Array Value) (below : List Frame) (meth : Method) (c : Code) (Qm : State → Prop) (G0 : zG) (T0 : zT), zC M r Q p l e R s m args below meth c Qm G0 T0 →
  ∀ (G : zG) (H : Heap) (locs : List Loc) (la : Array Slot), zX T0 T G0 G → zP G T h H → va_S (zAd G) s.heap H locs → lv_has la M.2.2.1 (zlv G ls) → (∀ v ∈ ls, zok T v) → (∀ v ∈ st, zok T v) →
    W p l e R s m args below meth c H locs r.2.1 r.2.2.1 Qm (F0 m pc la (st.map (zc G)))
def zRm (d mc ms : Nat) : Room := { frames := d, cells := mc, slots := ms, locals := 64 * d }
def zPc (G : zG) (args : List zV) (T : zT) (h : zH) : Array Value → State → Prop := va_Pc (args.map (zc G)) (fun U => zK G U U.heap ∧ zP G T h U.heap ∧ ∀ v ∈ args, zok T v)
def zQc (G : zG) (T : zT) (Q : Option zV → zT → zH → Prop) : Array Value → State → Outcome → State → Prop := fun _ st o t =>
  (∃ (rv : Option zV) (T' : zT) (h' : zH) (G' : zG), o = .returned (rv.map (zc G')) ∧ zX T T' G G' ∧ zP G' T' h' t.heap ∧ (∀ v ∈ rv, zok T' v) ∧ Q rv T' h') ∧ va_F (zAd G) st t
/-- a contract: d frames, mc cells of ms slots -/
def zMet (d mc ms : Nat) (M : zM) (args : List zV) (T : zT) (h : zH) (Q : Option zV → zT → zH → Prop) : Prop :=
  ∀ (l : Launch) (G : zG), Met l M.1 (zws M) (zRm d mc ms) (zPc G args T h) (zQc G T Q) mc ms (zAd G)
end
section
/-! ONE LEMMA AN INSTRUCTION: numbers, locals, stack, branches -/
def zRb (n : Int) : Bool := decide (-2147483648 ≤ n) && decide (n < 2147483648)
def zRlb (n : Int) : Bool := decide (-9223372036854775808 ≤ n) && decide (n < 9223372036854775808)
theorem zR_of {n : Int} (h : zRb n = true) : zR n := by simpa [zRb, zR] using h
theorem zRl_of {n : Int} (h : zRlb n = true) : zRl n := by simpa [zRlb, zRl] using h
theorem zR_l {n : Int} (h : zR n) : zRl n := by unfold zR at h; unfold zRl; omega
theorem zI_toInt {n : Int} (h : zR n) : (Int32.ofInt n).toInt = n := Int32.toInt_ofInt_of_le h.1 h.2
theorem zJ_toInt {n : Int} (h : zRl n) : (Int64.ofInt n).toInt = n := Int64.toInt_ofInt_of_le h.1 h.2
theorem zI_lt {a b : Int} (ha : zR a) (hb : zR b) : Int32.ofInt a < Int32.ofInt b ↔ a < b := by rw [Int32.lt_iff_toInt_lt, zI_toInt ha, zI_toInt hb]
theorem zI_le {a b : Int} (ha : zR a) (hb : zR b) : Int32.ofInt a ≤ Int32.ofInt b ↔ a ≤ b := by rw [Int32.le_iff_toInt_le, zI_toInt ha, zI_toInt hb]
theorem zI_eq {a b : Int} (ha : zR a) (hb : zR b) : Int32.ofInt a = Int32.ofInt b ↔ a = b := by rw [← Int32.toInt_inj, zI_toInt ha, zI_toInt hb]
theorem zJ_lt {a b : Int} (ha : zRl a) (hb : zRl b) : Int64.ofInt a < Int64.ofInt b ↔ a < b := by rw [Int64.lt_iff_toInt_lt, zJ_toInt ha, zJ_toInt hb]
theorem zJ_eq {a b : Int} (ha : zRl a) (hb : zRl b) : Int64.ofInt a = Int64.ofInt b ↔ a = b := by rw [← Int64.toInt_inj, zJ_toInt ha, zJ_toInt hb]
theorem zR0 : zR 0 := zR_of rfl
theorem zI_of (x : Int32) : Int32.ofInt x.toInt = x := Int32.ofInt_toInt x
theorem zR_toInt (x : Int32) : zR x.toInt := ⟨Int32.le_toInt x, Int32.toInt_lt x⟩
theorem zRl_toInt (x : Int64) : zRl x.toInt := ⟨Int64.le_toInt x, Int64.toInt_lt x⟩
theorem zI_idx {j : Int} {n : Nat} (hj : zR j) (h0 : 0 ≤ j) (h1 : j < n) : vp_in (Int32.ofInt j) n ∧ (Int32.ofInt j).toNatClampNeg = j.toNat := by
  have e : (Int32.ofInt j).toInt = j := zI_toInt hj
  refine ⟨vp_in_iff.mpr (by rw [e]; exact ⟨h0, h1⟩), ?_⟩
  show (Int32.ofInt j).toInt.toNat = _
  rw [e]
/-- bit by bit, as the machine has it -/
def zAnd (a b : Int) : Int := (Int32.ofInt a &&& Int32.ofInt b).toInt
def zOr (a b : Int) : Int := (Int32.ofInt a ||| Int32.ofInt b).toInt
def zXor (a b : Int) : Int := (Int32.ofInt a ^^^ Int32.ofInt b).toInt
def zShl (a b : Int) : Int := (Int32.ofInt a <<< (Int32.ofInt b &&& 31)).toInt
def zShr (a b : Int) : Int := (Int32.ofInt a >>> (Int32.ofInt b &&& 31)).toInt
def zB8 (a : Int) : Int := (Int32.ofInt a).toInt8.toInt32.toInt
def zB16 (a : Int) : Int := (Int32.ofInt a).toInt16.toInt32.toInt
def zL2I (a : Int) : Int := (Int64.ofInt a).toInt32.toInt
def zLAnd (a b : Int) : Int := (Int64.ofInt a &&& Int64.ofInt b).toInt
def zLOr (a b : Int) : Int := (Int64.ofInt a ||| Int64.ofInt b).toInt
def zLShl (a b : Int) : Int := (Int64.ofInt a <<< ((Int32.ofInt b).toInt64 &&& 63)).toInt
def zCmp (a b : Int) : Int := if a < b then -1 else if a = b then 0 else 1
theorem zI_div {a b : Int} (ha : zR a) (hb : zR b) (h : ¬ (a = -2147483648 ∧ b = -1)) : Int32.ofInt a / Int32.ofInt b = Int32.ofInt (a.tdiv b) := by
  have e := Int32.toInt_div_of_ne_left (Int32.ofInt a) (Int32.ofInt b)
  apply Int32.toInt_inj.mp
  by_cases h1 : Int32.ofInt a = Int32.minValue
  · have h2 : ¬ Int32.ofInt b = -1 := fun q => h ⟨by rw [← zI_toInt ha, h1]; rfl, by rw [← zI_toInt hb, q]; rfl⟩
    rw [Int32.toInt_div_of_ne_right _ _ h2, zI_toInt ha, zI_toInt hb]
    have := Int32.toInt_div_of_ne_right (Int32.ofInt a) (Int32.ofInt b) h2
    rw [zI_toInt ha, zI_toInt hb] at this
    have hr := zR_toInt (Int32.ofInt a / Int32.ofInt b)
    rw [this] at hr
    exact (zI_toInt hr).symm
  · rw [e h1, zI_toInt ha, zI_toInt hb]
    have := e h1
    rw [zI_toInt ha, zI_toInt hb] at this
    have hr := zR_toInt (Int32.ofInt a / Int32.ofInt b)
    rw [this] at hr
    exact (zI_toInt hr).symm
theorem zJ_div {a b : Int} (ha : zRl a) (hb : zRl b) (h : ¬ (a = -9223372036854775808 ∧ b = -1)) : Int64.ofInt a / Int64.ofInt b = Int64.ofInt (a.tdiv b) := by
  have e := Int64.toInt_div_of_ne_left (Int64.ofInt a) (Int64.ofInt b)
  apply Int64.toInt_inj.mp
  by_cases h1 : Int64.ofInt a = Int64.minValue
  · have h2 : ¬ Int64.ofInt b = -1 := fun q => h ⟨by rw [← zJ_toInt ha, h1]; rfl, by rw [← zJ_toInt hb, q]; rfl⟩
    have := Int64.toInt_div_of_ne_right (Int64.ofInt a) (Int64.ofInt b) h2
    rw [zJ_toInt ha, zJ_toInt hb] at this
    have hr := zRl_toInt (Int64.ofInt a / Int64.ofInt b)
    rw [this] at hr ⊢
    exact (zJ_toInt hr).symm
  · have := e h1
    rw [zJ_toInt ha, zJ_toInt hb] at this
    have hr := zRl_toInt (Int64.ofInt a / Int64.ofInt b)
    rw [this] at hr ⊢
    exact (zJ_toInt hr).symm
theorem zI_rem {a b : Int} (ha : zR a) (hb : zR b) (h : ¬ (a = -2147483648 ∧ b = -1)) : Int32.ofInt a - Int32.ofInt a / Int32.ofInt b * Int32.ofInt b = Int32.ofInt (a.tmod b) := by
  rw [zI_div ha hb h, ← Int32.ofInt_mul, ← Int32.ofInt_sub, Int.tmod_def, Int.mul_comm]
theorem zJ_rem {a b : Int} (ha : zRl a) (hb : zRl b) (h : ¬ (a = -9223372036854775808 ∧ b = -1)) : Int64.ofInt a - Int64.ofInt a / Int64.ofInt b * Int64.ofInt b = Int64.ofInt (a.tmod b) := by
  rw [zJ_div ha hb h, ← Int64.ofInt_mul, ← Int64.ofInt_sub, Int.tmod_def, Int.mul_comm]
/-- locals -/
theorem zlv_in {G : zG} {ls : List zV} {k : Nat} {v : zV} (h : ls[k]? = some v) (hv : v.1 ≠ 3) : (k, zc G v) ∈ zlv G ls :=
  List.mem_map.mpr ⟨(v, k), List.mem_filter.mpr ⟨List.mk_mem_zipIdx_iff_getElem?.mpr h, by simpa using hv⟩, rfl⟩
theorem zlv_of {G : zG} {ls : List zV} {q : Nat × Value} (h : q ∈ zlv G ls) : ∃ v, ls[q.1]? = some v ∧ v.1 ≠ 3 ∧ q.2 = zc G v := by
  obtain ⟨x, hx, rfl⟩ := List.mem_map.mp h
  obtain ⟨h1, h2⟩ := List.mem_filter.mp hx
  exact ⟨x.1, List.mk_mem_zipIdx_iff_getElem?.mp h1, by simpa using h2, rfl⟩
theorem zld {G : zG} {ls : List zV} {la : Array Slot} {n k : Nat} {v : zV} (hl : lv_has la n (zlv G ls)) (h : ls[k]? = some v) (hv : v.1 ≠ 3) : la[k]? = some (.val (zc G v)) := hl.2.2 _ (zlv_in h hv)
theorem zc_cat {G : zG} {v : zV} (h : v.1 ≠ 1) : (zc G v).category = 1 := by
  obtain ⟨t, x⟩ := v
  unfold zc
  split
  · rfl
  · rename_i q; cases q; exact absurd rfl h
  · split <;> rfl
  all_goals rfl
theorem zc_cat2 {G : zG} {x : Int} : (zc G (1, x)).category = 2 := rfl
def zq (ls : List zV) (i : Nat) : Bool := i == 0 || (match ls[i - 1]? with | some v => v.1 != 1 | none => true)
theorem zst1 {G : zG} {ls : List zV} {la : Array Slot} {n i : Nat} {v : zV} (hv : v.1 ≠ 1) (hq : zq ls i = true)
    (h : lv_has la n ((i, zc G v) :: (zlv G ls).filter (fun q => !(q.1 == i) && !(q.1 + 1 == i && q.2.category == 2)))) : lv_has la n (zlv G (ls.set i v)) := by
  refine ⟨h.1, h.2.1, fun q hm => ?_⟩
  obtain ⟨u, h1, h2, h3⟩ := zlv_of hm
  obtain ⟨k, val⟩ := q
  dsimp only at h1 h3 ⊢
  subst h3
  by_cases hk : k = i
  · subst hk
    have : u = v := by
      rw [List.getElem?_set] at h1
      simp only [if_true] at h1
      split at h1
      · exact (Option.some.inj h1).symm
      · cases h1
    subst this
    exact h.2.2 (k, zc G u) List.mem_cons_self
  · rw [List.getElem?_set, if_neg (fun q => hk q.symm)] at h1
    refine h.2.2 (k, zc G u) (List.mem_cons_of_mem _ (List.mem_filter.mpr ⟨zlv_in h1 h2, ?_⟩))
    simp only [Bool.and_eq_true, Bool.not_eq_true', beq_eq_false_iff_ne, ne_eq, hk, not_false_eq_true, true_and, Bool.and_eq_false_iff]
    by_cases hki : k + 1 = i
    · right
      have hu : u.1 ≠ 1 := by
        unfold zq at hq
        have e : i - 1 = k := by omega
        rw [e, h1] at hq
        have : (i == 0) = false := by simp; omega
        rw [this] at hq
        simpa using hq
      rw [zc_cat hu]
      decide
    · left
      exact hki
theorem zst2 {G : zG} {ls : List zV} {la : Array Slot} {n i : Nat} {x : Int} (hq : zq ls i = true)
    (h : lv_has la n ((i, zc G (1, x)) :: (zlv G ls).filter (fun q => !(q.1 == i) && (!(q.1 == i + 1) && !(q.1 + 1 == i && q.2.category == 2))))) : lv_has la n (zlv G ((ls.set i (1, x)).set (i + 1) zN)) := by
  refine ⟨h.1, h.2.1, fun q hm => ?_⟩
  obtain ⟨u, h1, h2, h3⟩ := zlv_of hm
  obtain ⟨k, val⟩ := q
  dsimp only at h1 h3 ⊢
  subst h3
  by_cases hk1 : k = i + 1
  · subst hk1
    rw [List.getElem?_set] at h1
    simp only [if_true] at h1
    split at h1
    · cases h1
      exact absurd rfl h2
    · cases h1
  · rw [List.getElem?_set, if_neg (fun q => hk1 q.symm)] at h1
    by_cases hk : k = i
    · subst hk
      have : u = (1, x) := by
        rw [List.getElem?_set] at h1
        simp only [if_true] at h1
        split at h1
        · exact (Option.some.inj h1).symm
        · cases h1
      subst this
      exact h.2.2 (k, zc G (1, x)) List.mem_cons_self
    · rw [List.getElem?_set, if_neg (fun q => hk q.symm)] at h1
      refine h.2.2 (k, zc G u) (List.mem_cons_of_mem _ (List.mem_filter.mpr ⟨zlv_in h1 h2, ?_⟩))
      simp only [Bool.and_eq_true, Bool.not_eq_true', beq_eq_false_iff_ne, ne_eq, hk, hk1, not_false_eq_true, true_and, Bool.and_eq_false_iff]
      by_cases hki : k + 1 = i
      · right
        have hu : u.1 ≠ 1 := by
          unfold zq at hq
          have e : i - 1 = k := by omega
          rw [e, h1] at hq
          have : (i == 0) = false := by simp; omega
          rw [this] at hq
          simpa using hq
        rw [zc_cat hu]
        decide
      · left
        exact hki
theorem zok_set {T : zT} {ls : List zV} {i : Nat} {v : zV} (h : ∀ u ∈ ls, zok T u) (hv : zok T v) : ∀ u ∈ ls.set i v, zok T u := fun u hu => by
  rcases List.mem_or_eq_of_mem_set hu with q | q
  · exact h u q
  · rw [q]; exact hv
theorem zok_at {T : zT} {ls : List zV} {i : Nat} {v : zV} (h : ∀ u ∈ ls, zok T u) (hi : ls[i]? = some v) : zok T v := h v (List.mem_of_getElem? hi)
theorem zok_c {T : zT} {st : List zV} {v : zV} (hv : zok T v) (h : ∀ u ∈ st, zok T u) : ∀ u ∈ v :: st, zok T u := List.forall_mem_cons.mpr ⟨hv, h⟩
def zrf (v : zV) : Bool := v.1 == 2 || v.1 == 4 || v.1 == 5 || v.1 == 6 || v.1 == 7
theorem zc_ref {G : zG} {v : zV} (h : zrf v = true) : zc G v = .null ∨ ∃ a, zc G v = .ref a := by
  obtain ⟨t, x⟩ := v
  unfold zc
  split
  · rename_i q; cases q; exact absurd h (fun z => by cases z)
  · rename_i q; cases q; exact absurd h (fun z => by cases z)
  · split
    · exact Or.inl rfl
    · exact Or.inr ⟨_, rfl⟩
  all_goals first | exact Or.inr ⟨_, rfl⟩ | exact Or.inl rfl
theorem zJ_of_I {a : Int} (h : zR a) : Int64.ofInt a = (Int32.ofInt a).toInt64 := by
  apply Int64.toInt_inj.mp
  rw [zJ_toInt (zR_l h), Int32.toInt_toInt64, zI_toInt h]
theorem zI_tdR {a b : Int} (ha : zR a) (hb : zR b) (h : ¬ (a = -2147483648 ∧ b = -1)) : zR (a.tdiv b) := by
  have h1 := zR_toInt (Int32.ofInt a / Int32.ofInt b)
  by_cases q : Int32.ofInt a = Int32.minValue
  · have h2 : ¬ Int32.ofInt b = -1 := fun z => h ⟨by rw [← zI_toInt ha, q]; rfl, by rw [← zI_toInt hb, z]; rfl⟩
    rw [Int32.toInt_div_of_ne_right _ _ h2, zI_toInt ha, zI_toInt hb] at h1
    exact h1
  · rw [Int32.toInt_div_of_ne_left _ _ q, zI_toInt ha, zI_toInt hb] at h1
    exact h1
theorem zJ_tdR {a b : Int} (ha : zRl a) (hb : zRl b) (h : ¬ (a = -9223372036854775808 ∧ b = -1)) : zRl (a.tdiv b) := by
  have h1 := zRl_toInt (Int64.ofInt a / Int64.ofInt b)
  by_cases q : Int64.ofInt a = Int64.minValue
  · have h2 : ¬ Int64.ofInt b = -1 := fun z => h ⟨by rw [← zJ_toInt ha, q]; rfl, by rw [← zJ_toInt hb, z]; rfl⟩
    rw [Int64.toInt_div_of_ne_right _ _ h2, zJ_toInt ha, zJ_toInt hb] at h1
    exact h1
  · rw [Int64.toInt_div_of_ne_left _ _ q, zJ_toInt ha, zJ_toInt hb] at h1
    exact h1
theorem z_em {a : Int} (h : 0 ≤ a) (b : Int) : a % b ≤ a := by
  obtain ⟨n, rfl⟩ := Int.eq_ofNat_of_zero_le h
  exact Int.ofNat_le.mpr (Nat.mod_le n b.natAbs)
theorem z_tm {a b : Int} {n : Int} (h1 : -n ≤ a) (h2 : a < n) : -n ≤ a.tmod b ∧ a.tmod b < n := by
  rcases Int.le_total 0 a with q | q
  · have := Int.tmod_nonneg b q
    have h3 : a.tmod b ≤ a := by
      rw [Int.tmod_eq_emod_of_nonneg q]
      exact z_em q b
    omega
  · have h4 : (-a).tmod b = -(a.tmod b) := Int.neg_tmod a b
    have h5 : 0 ≤ (-a).tmod b := Int.tmod_nonneg b (by omega)
    have h6 : (-a).tmod b ≤ -a := by
      rw [Int.tmod_eq_emod_of_nonneg (by omega)]
      exact z_em (by omega) b
    omega
theorem zI_tmR {a b : Int} (ha : zR a) (_ : zR b) : zR (a.tmod b) := z_tm ha.1 ha.2
theorem zJ_tmR {a b : Int} (ha : zRl a) (_ : zRl b) : zRl (a.tmod b) := z_tm ha.1 ha.2
theorem zCmpR (a b : Int) : zR (zCmp a b) := by 
  unfold zCmp
  split
  · exact zR_of rfl
  · split <;> exact zR_of rfl
theorem zCmp_eq {a b : Int} (ha : zRl a) (hb : zRl b) : Int32.ofInt (zCmp a b) = lg_cmp (Int64.ofInt a) (Int64.ofInt b) := by
  unfold zCmp lg_cmp
  have h1 := zJ_lt ha hb
  have h2 := zJ_eq ha hb
  have h3 := zJ_lt hb ha
  simp only [gt_iff_lt, h2, h3]
  by_cases q1 : a < b
  · rw [if_pos q1, if_neg (by omega), if_neg (by omega)]; rfl
  · rw [if_neg q1]
    by_cases q2 : a = b
    · rw [if_pos q2, if_neg (by omega), if_pos q2]; rfl
    · rw [if_neg q2, if_pos (by omega)]; rfl
section Rows
variable {M : zM} {r : zB} {pc : Nat} {ls st : List zV} {T : zT} {h : zH} {Q : Option zV → zT → zH → Prop}

theorem zS_iconst {n : Int} (hd : decode M.2.1 pc = .ok (.iconst n, 1)) (hn : zRb n = true) (k : zS M r (pc + 1) ls (zI n :: st) T h Q) : zS M r pc ls st T h Q := by
  intro p l e R s m args below meth c Qm G0 T0 C G H locs la hX hP hS hl hls hst
  exact lv_iconst C.1 C.2.1 hd rfl (k p l e R s m args below meth c Qm G0 T0 C G H locs la hX hP hS hl hls (zok_c (zR_of hn) hst))
theorem zbp {n : Int} (h : zRb n = true) (h8 : (Int8.ofInt n).toInt = n) : (Int8.ofInt n).toInt32 = Int32.ofInt n := by
  apply Int32.toInt_inj.mp; rw [Int8.toInt_toInt32, h8, zI_toInt (zR_of h)]
theorem zsp {n : Int} (h : zRb n = true) (h8 : (Int16.ofInt n).toInt = n) : (Int16.ofInt n).toInt32 = Int32.ofInt n := by
  apply Int32.toInt_inj.mp; rw [Int16.toInt_toInt32, h8, zI_toInt (zR_of h)]
theorem zS_bipush {n : Int} (hd : decode M.2.1 pc = .ok (.bipush n, 2)) (hn : zRb n = true) (h8 : (Int8.ofInt n).toInt = n) (k : zS M r (pc + 2) ls (zI n :: st) T h Q) : zS M r pc ls st T h Q := by
  intro p l e R s m args below meth c Qm G0 T0 C G H locs la hX hP hS hl hls hst
  exact lv_bipush C.1 C.2.1 hd (zbp hn h8) (k p l e R s m args below meth c Qm G0 T0 C G H locs la hX hP hS hl hls (zok_c (zR_of hn) hst))
theorem zS_sipush {n : Int} (hd : decode M.2.1 pc = .ok (.sipush n, 3)) (hn : zRb n = true) (h8 : (Int16.ofInt n).toInt = n) (k : zS M r (pc + 3) ls (zI n :: st) T h Q) : zS M r pc ls st T h Q := by
  intro p l e R s m args below meth c Qm G0 T0 C G H locs la hX hP hS hl hls hst
  exact lv_sipush C.1 C.2.1 hd (zsp hn h8) (k p l e R s m args below meth c Qm G0 T0 C G H locs la hX hP hS hl hls (zok_c (zR_of hn) hst))
theorem zS_lconst {n : Fin 2} (hd : decode M.2.1 pc = .ok (.lconst n, 1)) (k : zS M r (pc + 1) ls (zJ ((n : Nat) : Int) :: st) T h Q) : zS M r pc ls st T h Q := by
  intro p l e R s m args below meth c Qm G0 T0 C G H locs la hX hP hS hl hls hst
  exact lv_lconst C.1 C.2.1 hd (Int64.ofInt_eq_ofNat).symm (k p l e R s m args below meth c Qm G0 T0 C G H locs la hX hP hS hl hls (zok_c (show zRl _ from ⟨by omega, by omega⟩) hst))
theorem zS_ldc {n : Int} {ix : Nat} (hd : decode M.2.1 pc = .ok (.ldc ix, 2)) (hw : Cond.constant M.1.cls ix (Int32.ofInt n) ∈ lwg) (hn : zRb n = true) (k : zS M r (pc + 2) ls (zI n :: st) T h Q) : zS M r pc ls st T h Q := by
  intro p l e R s m args below meth c Qm G0 T0 C G H locs la hX hP hS hl hls hst
  exact lv_ldc C.1 C.2.1 C.2.2.2.1 (C.2.2.2.2.1 _ hw) hd (k p l e R s m args below meth c Qm G0 T0 C G H locs la hX hP hS hl hls (zok_c (zR_of hn) hst))
theorem zS_ldc_w {n : Int} {ix : Nat} (hd : decode M.2.1 pc = .ok (.ldc_w ix, 3)) (hw : Cond.constant M.1.cls ix (Int32.ofInt n) ∈ lwg) (hn : zRb n = true) (k : zS M r (pc + 3) ls (zI n :: st) T h Q) : zS M r pc ls st T h Q := by
  intro p l e R s m args below meth c Qm G0 T0 C G H locs la hX hP hS hl hls hst
  exact lv_ldcw C.1 C.2.1 C.2.2.2.1 (C.2.2.2.2.1 _ hw) hd (k p l e R s m args below meth c Qm G0 T0 C G H locs la hX hP hS hl hls (zok_c (zR_of hn) hst))
theorem zS_ldc2_w {n : Int} {ix : Nat} (hd : decode M.2.1 pc = .ok (.ldc2_w ix, 3)) (hw : Cond.constantLong M.1.cls ix (Int64.ofInt n) ∈ lwg) (hn : zRlb n = true) (k : zS M r (pc + 3) ls (zJ n :: st) T h Q) : zS M r pc ls st T h Q := by
  intro p l e R s m args below meth c Qm G0 T0 C G H locs la hX hP hS hl hls hst
  exact lv_ldc2 C.1 C.2.1 C.2.2.2.1 (C.2.2.2.2.1 _ hw) hd (k p l e R s m args below meth c Qm G0 T0 C G H locs la hX hP hS hl hls (zok_c (zRl_of hn) hst))
theorem zS_iload_n {i : Fin 4} {x : Int} (hd : decode M.2.1 pc = .ok (.iload_n i, 1)) (hi : ls[(i : Nat)]? = some (zI x)) (k : zS M r (pc + 1) ls (zI x :: st) T h Q) : zS M r pc ls st T h Q := by
  intro p l e R s m args below meth c Qm G0 T0 C G H locs la hX hP hS hl hls hst
  exact lv_iload_n C.1 C.2.1 hd rfl (zld hl hi (fun q => by cases q)) (k p l e R s m args below meth c Qm G0 T0 C G H locs la hX hP hS hl hls (zok_c (zok_at hls hi) hst))
theorem zS_iload {i : Nat} {x : Int} (hd : decode M.2.1 pc = .ok (.iload i, 2)) (hi : ls[i]? = some (zI x)) (k : zS M r (pc + 2) ls (zI x :: st) T h Q) : zS M r pc ls st T h Q := by
  intro p l e R s m args below meth c Qm G0 T0 C G H locs la hX hP hS hl hls hst
  exact lv_iload C.1 C.2.1 hd (zld hl hi (fun q => by cases q)) (k p l e R s m args below meth c Qm G0 T0 C G H locs la hX hP hS hl hls (zok_c (zok_at hls hi) hst))
theorem zS_lload_n {i : Fin 4} {x : Int} (hd : decode M.2.1 pc = .ok (.lload_n i, 1)) (hi : ls[(i : Nat)]? = some (zJ x)) (k : zS M r (pc + 1) ls (zJ x :: st) T h Q) : zS M r pc ls st T h Q := by
  intro p l e R s m args below meth c Qm G0 T0 C G H locs la hX hP hS hl hls hst
  exact lv_lload_n C.1 C.2.1 hd rfl (zld hl hi (fun q => by cases q)) (k p l e R s m args below meth c Qm G0 T0 C G H locs la hX hP hS hl hls (zok_c (zok_at hls hi) hst))
theorem zS_lload {i : Nat} {x : Int} (hd : decode M.2.1 pc = .ok (.lload i, 2)) (hi : ls[i]? = some (zJ x)) (k : zS M r (pc + 2) ls (zJ x :: st) T h Q) : zS M r pc ls st T h Q := by
  intro p l e R s m args below meth c Qm G0 T0 C G H locs la hX hP hS hl hls hst
  exact lv_lload C.1 C.2.1 hd (zld hl hi (fun q => by cases q)) (k p l e R s m args below meth c Qm G0 T0 C G H locs la hX hP hS hl hls (zok_c (zok_at hls hi) hst))
theorem zS_aload_n {i : Fin 4} {v : zV} (hd : decode M.2.1 pc = .ok (.aload_n i, 1)) (hi : ls[(i : Nat)]? = some v) (hv : zrf v = true) (k : zS M r (pc + 1) ls (v :: st) T h Q) : zS M r pc ls st T h Q := by
  intro p l e R s m args below meth c Qm G0 T0 C G H locs la hX hP hS hl hls hst
  have h3 : v.1 ≠ 3 := fun q => by unfold zrf at hv; rw [q] at hv; cases hv
  have hk := (k p l e R s m args below meth c Qm G0 T0 C G H locs la hX hP hS hl hls (zok_c (zok_at hls hi) hst))
  have ha := zld hl hi h3
  rw [List.map_cons] at hk
  rcases zc_ref (G := G) hv with e | ⟨a, e⟩ <;> rw [e] at ha hk
  · exact lv_aload_nN C.1 C.2.1 hd rfl ha hk
  · exact lv_aload_n C.1 C.2.1 hd rfl ha hk
theorem zS_aload {i : Nat} {v : zV} (hd : decode M.2.1 pc = .ok (.aload i, 2)) (hi : ls[i]? = some v) (hv : zrf v = true) (k : zS M r (pc + 2) ls (v :: st) T h Q) : zS M r pc ls st T h Q := by
  intro p l e R s m args below meth c Qm G0 T0 C G H locs la hX hP hS hl hls hst
  have h3 : v.1 ≠ 3 := fun q => by unfold zrf at hv; rw [q] at hv; cases hv
  have hk := (k p l e R s m args below meth c Qm G0 T0 C G H locs la hX hP hS hl hls (zok_c (zok_at hls hi) hst))
  have ha := zld hl hi h3
  rw [List.map_cons] at hk
  rcases zc_ref (G := G) hv with e | ⟨a, e⟩ <;> rw [e] at ha hk
  · exact lv_aloadN C.1 C.2.1 hd ha hk
  · exact lv_aload C.1 C.2.1 hd ha hk
theorem zS_istore_n {i : Fin 4} {x : Int} (hd : decode M.2.1 pc = .ok (.istore_n i, 1)) (hq : (zq ls (i : Nat) && decide ((i : Nat) < M.2.2.1)) = true) (k : zS M r (pc + 1) (ls.set (i : Nat) (zI x)) st T h Q) : zS M r pc ls (zI x :: st) T h Q := by
  intro p l e R s m args below meth c Qm G0 T0 C G H locs la hX hP hS hl hls hst
  rw [Bool.and_eq_true, decide_eq_true_eq] at hq
  have hv := List.forall_mem_cons.mp hst
  refine lv_istore_n C.1 C.2.1 hd rfl hl hq.2 rfl (fun la' hl' => ?_)
  exact k p l e R s m args below meth c Qm G0 T0 C G H locs la' hX hP hS (zst1 (v := zI x) (fun q => by cases q) hq.1 hl') (zok_set hls hv.1) hv.2
theorem zS_istore {i : Nat} {x : Int} (hd : decode M.2.1 pc = .ok (.istore i, 2)) (hq : (zq ls i && decide (i < M.2.2.1)) = true) (k : zS M r (pc + 2) (ls.set i (zI x)) st T h Q) : zS M r pc ls (zI x :: st) T h Q := by
  intro p l e R s m args below meth c Qm G0 T0 C G H locs la hX hP hS hl hls hst
  rw [Bool.and_eq_true, decide_eq_true_eq] at hq
  have hv := List.forall_mem_cons.mp hst
  refine lv_istore C.1 C.2.1 hd hl hq.2 rfl (fun la' hl' => ?_)
  exact k p l e R s m args below meth c Qm G0 T0 C G H locs la' hX hP hS (zst1 (v := zI x) (fun q => by cases q) hq.1 hl') (zok_set hls hv.1) hv.2
theorem zS_lstore_n {i : Fin 4} {x : Int} (hd : decode M.2.1 pc = .ok (.lstore_n i, 1)) (hq : (zq ls (i : Nat) && decide ((i : Nat) + 1 < M.2.2.1)) = true) (k : zS M r (pc + 1) ((ls.set (i : Nat) (zJ x)).set ((i : Nat) + 1) zN) st T h Q) : zS M r pc ls (zJ x :: st) T h Q := by
  intro p l e R s m args below meth c Qm G0 T0 C G H locs la hX hP hS hl hls hst
  rw [Bool.and_eq_true, decide_eq_true_eq] at hq
  have hv := List.forall_mem_cons.mp hst
  refine lv_lstore_n C.1 C.2.1 hd rfl hl hq.2 rfl (fun la' hl' => ?_)
  exact k p l e R s m args below meth c Qm G0 T0 C G H locs la' hX hP hS (zst2 hq.1 hl') (zok_set (zok_set hls hv.1) trivial) hv.2
theorem zS_lstore {i : Nat} {x : Int} (hd : decode M.2.1 pc = .ok (.lstore i, 2)) (hq : (zq ls i && decide (i + 1 < M.2.2.1)) = true) (k : zS M r (pc + 2) ((ls.set i (zJ x)).set (i + 1) zN) st T h Q) : zS M r pc ls (zJ x :: st) T h Q := by
  intro p l e R s m args below meth c Qm G0 T0 C G H locs la hX hP hS hl hls hst
  rw [Bool.and_eq_true, decide_eq_true_eq] at hq
  have hv := List.forall_mem_cons.mp hst
  refine lv_lstore C.1 C.2.1 hd hl hq.2 rfl (fun la' hl' => ?_)
  exact k p l e R s m args below meth c Qm G0 T0 C G H locs la' hX hP hS (zst2 hq.1 hl') (zok_set (zok_set hls hv.1) trivial) hv.2
theorem zS_astore_n {i : Fin 4} {v : zV} (hd : decode M.2.1 pc = .ok (.astore_n i, 1)) (hv : zrf v = true) (hq : (zq ls (i : Nat) && decide ((i : Nat) < M.2.2.1)) = true) (k : zS M r (pc + 1) (ls.set (i : Nat) v) st T h Q) : zS M r pc ls (v :: st) T h Q := by
  intro p l e R s m args below meth c Qm G0 T0 C G H locs la hX hP hS hl hls hst
  rw [Bool.and_eq_true, decide_eq_true_eq] at hq
  have hv9 := List.forall_mem_cons.mp hst
  have h1 : v.1 ≠ 1 := fun q => by unfold zrf at hv; rw [q] at hv; cases hv
  have go : ∀ la', lv_has la' M.2.2.1 (((i : Nat), zc G v) :: (zlv G ls).filter (fun q => !(q.1 == (i : Nat)) && !(q.1 + 1 == (i : Nat) && q.2.category == 2))) → W p l e R s m args below meth c H locs r.2.1 r.2.2.1 Qm (F0 m (pc + 1) la' (st.map (zc G))) := fun la' hl' => k p l e R s m args below meth c Qm G0 T0 C G H locs la' hX hP hS (zst1 h1 hq.1 hl') (zok_set hls hv9.1) hv9.2
  rw [List.map_cons]
  rcases zc_ref (G := G) hv with e | ⟨a, e⟩ <;> rw [e] at go ⊢
  · exact lv_astore_nN C.1 C.2.1 hd rfl hl hq.2 rfl go
  · exact lv_astore_n C.1 C.2.1 hd rfl hl hq.2 rfl go
theorem zS_astore {i : Nat} {v : zV} (hd : decode M.2.1 pc = .ok (.astore i, 2)) (hv : zrf v = true) (hq : (zq ls i && decide (i < M.2.2.1)) = true) (k : zS M r (pc + 2) (ls.set i v) st T h Q) : zS M r pc ls (v :: st) T h Q := by
  intro p l e R s m args below meth c Qm G0 T0 C G H locs la hX hP hS hl hls hst
  rw [Bool.and_eq_true, decide_eq_true_eq] at hq
  have hv9 := List.forall_mem_cons.mp hst
  have h1 : v.1 ≠ 1 := fun q => by unfold zrf at hv; rw [q] at hv; cases hv
  have go : ∀ la', lv_has la' M.2.2.1 ((i, zc G v) :: (zlv G ls).filter (fun q => !(q.1 == i) && !(q.1 + 1 == i && q.2.category == 2))) → W p l e R s m args below meth c H locs r.2.1 r.2.2.1 Qm (F0 m (pc + 2) la' (st.map (zc G))) := fun la' hl' => k p l e R s m args below meth c Qm G0 T0 C G H locs la' hX hP hS (zst1 h1 hq.1 hl') (zok_set hls hv9.1) hv9.2
  rw [List.map_cons]
  rcases zc_ref (G := G) hv with e | ⟨a, e⟩ <;> rw [e] at go ⊢
  · exact lv_astoreN C.1 C.2.1 hd hl hq.2 rfl go
  · exact lv_astore C.1 C.2.1 hd hl hq.2 rfl go
theorem zS_iinc {i : Nat} {n x : Int} (hd : decode M.2.1 pc = .ok (.iinc i n, 3)) (hi : ls[i]? = some (zI x)) (hq : (zq ls i && decide (i < M.2.2.1)) = true) (hr : zR (x + n)) (k : zS M r (pc + 3) (ls.set i (zI (x + n))) st T h Q) : zS M r pc ls st T h Q := by
  intro p l e R s m args below meth c Qm G0 T0 C G H locs la hX hP hS hl hls hst
  rw [Bool.and_eq_true, decide_eq_true_eq] at hq
  obtain ⟨j, hj⟩ := List.getElem?_of_mem (zlv_in (G := G) hi (fun q => by cases q))
  refine lv_iinc (v := Int32.ofInt (x + n)) C.1 C.2.1 hd hl hj (by rw [Int32.ofInt_add]) hq.2 rfl (fun la' hl' => ?_)
  exact k p l e R s m args below meth c Qm G0 T0 C G H locs la' hX hP hS (zst1 (v := zI (x + n)) (fun q => by cases q) hq.1 hl') (zok_set hls hr) hst
theorem zS_iadd {a b : Int} (hd : decode M.2.1 pc = .ok (.iadd, 1)) (hr : zR (a + b)) (k : zS M r (pc + 1) ls (zI (a + b) :: st) T h Q) : zS M r pc ls (zI b :: zI a :: st) T h Q := by
  intro p l e R s m args below meth c Qm G0 T0 C G H locs la hX hP hS hl hls hst
  obtain ⟨vb, hst⟩ := List.forall_mem_cons.mp hst
  obtain ⟨va, hst⟩ := List.forall_mem_cons.mp hst
  have hk := (k p l e R s m args below meth c Qm G0 T0 C G H locs la hX hP hS hl hls (zok_c (show zok T (zI _) from hr) hst))
  rw [List.map_cons] at hk
  have e : zc G (zI (a + b)) = .int (Int32.ofInt a + Int32.ofInt b) := congrArg Value.int (Int32.ofInt_add a b)
  rw [e] at hk
  exact lv_iadd C.1 C.2.1 hd hk
theorem zS_isub {a b : Int} (hd : decode M.2.1 pc = .ok (.isub, 1)) (hr : zR (a - b)) (k : zS M r (pc + 1) ls (zI (a - b) :: st) T h Q) : zS M r pc ls (zI b :: zI a :: st) T h Q := by
  intro p l e R s m args below meth c Qm G0 T0 C G H locs la hX hP hS hl hls hst
  obtain ⟨vb, hst⟩ := List.forall_mem_cons.mp hst
  obtain ⟨va, hst⟩ := List.forall_mem_cons.mp hst
  have hk := (k p l e R s m args below meth c Qm G0 T0 C G H locs la hX hP hS hl hls (zok_c (show zok T (zI _) from hr) hst))
  rw [List.map_cons] at hk
  have e : zc G (zI (a - b)) = .int (Int32.ofInt a - Int32.ofInt b) := congrArg Value.int (Int32.ofInt_sub a b)
  rw [e] at hk
  exact lv_isub C.1 C.2.1 hd hk
theorem zS_imul {a b : Int} (hd : decode M.2.1 pc = .ok (.imul, 1)) (hr : zR (a * b)) (k : zS M r (pc + 1) ls (zI (a * b) :: st) T h Q) : zS M r pc ls (zI b :: zI a :: st) T h Q := by
  intro p l e R s m args below meth c Qm G0 T0 C G H locs la hX hP hS hl hls hst
  obtain ⟨vb, hst⟩ := List.forall_mem_cons.mp hst
  obtain ⟨va, hst⟩ := List.forall_mem_cons.mp hst
  have hk := (k p l e R s m args below meth c Qm G0 T0 C G H locs la hX hP hS hl hls (zok_c (show zok T (zI _) from hr) hst))
  rw [List.map_cons] at hk
  have e : zc G (zI (a * b)) = .int (Int32.ofInt a * Int32.ofInt b) := congrArg Value.int (Int32.ofInt_mul a b)
  rw [e] at hk
  exact lv_imul C.1 C.2.1 hd hk
theorem zS_idiv {a b : Int} (hd : decode M.2.1 pc = .ok (.idiv, 1)) (hb0 : b ≠ 0) (hr : ¬ (a = -2147483648 ∧ b = -1)) (k : zS M r (pc + 1) ls (zI (a.tdiv b) :: st) T h Q) : zS M r pc ls (zI b :: zI a :: st) T h Q := by
  intro p l e R s m args below meth c Qm G0 T0 C G H locs la hX hP hS hl hls hst
  obtain ⟨vb, hst⟩ := List.forall_mem_cons.mp hst
  obtain ⟨va, hst⟩ := List.forall_mem_cons.mp hst
  have hk := (k p l e R s m args below meth c Qm G0 T0 C G H locs la hX hP hS hl hls (zok_c (show zok T (zI _) from (by have e := zI_toInt va; have := zR_toInt (Int32.ofInt a / Int32.ofInt b); rw [zI_div va vb hr] at this; exact zI_tdR va vb hr)) hst))
  rw [List.map_cons] at hk
  have e : zc G (zI (a.tdiv b)) = .int (Int32.ofInt a / Int32.ofInt b) := congrArg Value.int (zI_div va vb hr).symm
  rw [e] at hk
  exact lv_idiv C.1 C.2.1 hd (fun q => hb0 ((zI_eq vb zR0).mp q)) hk
theorem zS_irem {a b : Int} (hd : decode M.2.1 pc = .ok (.irem, 1)) (hb0 : b ≠ 0) (hr : ¬ (a = -2147483648 ∧ b = -1)) (k : zS M r (pc + 1) ls (zI (a.tmod b) :: st) T h Q) : zS M r pc ls (zI b :: zI a :: st) T h Q := by
  intro p l e R s m args below meth c Qm G0 T0 C G H locs la hX hP hS hl hls hst
  obtain ⟨vb, hst⟩ := List.forall_mem_cons.mp hst
  obtain ⟨va, hst⟩ := List.forall_mem_cons.mp hst
  have hk := (k p l e R s m args below meth c Qm G0 T0 C G H locs la hX hP hS hl hls (zok_c (show zok T (zI _) from zI_tmR va vb) hst))
  rw [List.map_cons] at hk
  have e : zc G (zI (a.tmod b)) = .int (Int32.ofInt a - Int32.ofInt a / Int32.ofInt b * Int32.ofInt b) := congrArg Value.int (zI_rem va vb hr).symm
  rw [e] at hk
  exact lv_irem C.1 C.2.1 hd (fun q => hb0 ((zI_eq vb zR0).mp q)) hk
theorem zS_iand {a b : Int} (hd : decode M.2.1 pc = .ok (.iand, 1)) (k : zS M r (pc + 1) ls (zI (zAnd a b) :: st) T h Q) : zS M r pc ls (zI b :: zI a :: st) T h Q := by
  intro p l e R s m args below meth c Qm G0 T0 C G H locs la hX hP hS hl hls hst
  obtain ⟨vb, hst⟩ := List.forall_mem_cons.mp hst
  obtain ⟨va, hst⟩ := List.forall_mem_cons.mp hst
  have hk := (k p l e R s m args below meth c Qm G0 T0 C G H locs la hX hP hS hl hls (zok_c (show zok T (zI _) from zR_toInt _) hst))
  rw [List.map_cons] at hk
  have e : zc G (zI (zAnd a b)) = .int (Int32.ofInt a &&& Int32.ofInt b) := congrArg Value.int (zI_of _)
  rw [e] at hk
  exact lv_iand C.1 C.2.1 hd hk
theorem zS_ior {a b : Int} (hd : decode M.2.1 pc = .ok (.ior, 1)) (k : zS M r (pc + 1) ls (zI (zOr a b) :: st) T h Q) : zS M r pc ls (zI b :: zI a :: st) T h Q := by
  intro p l e R s m args below meth c Qm G0 T0 C G H locs la hX hP hS hl hls hst
  obtain ⟨vb, hst⟩ := List.forall_mem_cons.mp hst
  obtain ⟨va, hst⟩ := List.forall_mem_cons.mp hst
  have hk := (k p l e R s m args below meth c Qm G0 T0 C G H locs la hX hP hS hl hls (zok_c (show zok T (zI _) from zR_toInt _) hst))
  rw [List.map_cons] at hk
  have e : zc G (zI (zOr a b)) = .int (Int32.ofInt a ||| Int32.ofInt b) := congrArg Value.int (zI_of _)
  rw [e] at hk
  exact lv_ior C.1 C.2.1 hd hk
theorem zS_ixor {a b : Int} (hd : decode M.2.1 pc = .ok (.ixor, 1)) (k : zS M r (pc + 1) ls (zI (zXor a b) :: st) T h Q) : zS M r pc ls (zI b :: zI a :: st) T h Q := by
  intro p l e R s m args below meth c Qm G0 T0 C G H locs la hX hP hS hl hls hst
  obtain ⟨vb, hst⟩ := List.forall_mem_cons.mp hst
  obtain ⟨va, hst⟩ := List.forall_mem_cons.mp hst
  have hk := (k p l e R s m args below meth c Qm G0 T0 C G H locs la hX hP hS hl hls (zok_c (show zok T (zI _) from zR_toInt _) hst))
  rw [List.map_cons] at hk
  have e : zc G (zI (zXor a b)) = .int (Int32.ofInt a ^^^ Int32.ofInt b) := congrArg Value.int (zI_of _)
  rw [e] at hk
  exact lv_ixor C.1 C.2.1 hd hk
theorem zS_ishl {a b : Int} (hd : decode M.2.1 pc = .ok (.ishl, 1)) (k : zS M r (pc + 1) ls (zI (zShl a b) :: st) T h Q) : zS M r pc ls (zI b :: zI a :: st) T h Q := by
  intro p l e R s m args below meth c Qm G0 T0 C G H locs la hX hP hS hl hls hst
  obtain ⟨vb, hst⟩ := List.forall_mem_cons.mp hst
  obtain ⟨va, hst⟩ := List.forall_mem_cons.mp hst
  have hk := (k p l e R s m args below meth c Qm G0 T0 C G H locs la hX hP hS hl hls (zok_c (show zok T (zI _) from zR_toInt _) hst))
  rw [List.map_cons] at hk
  have e : zc G (zI (zShl a b)) = .int (Int32.ofInt a <<< (Int32.ofInt b &&& 31)) := congrArg Value.int (zI_of _)
  rw [e] at hk
  exact lv_ishl C.1 C.2.1 hd hk
theorem zS_ishr {a b : Int} (hd : decode M.2.1 pc = .ok (.ishr, 1)) (k : zS M r (pc + 1) ls (zI (zShr a b) :: st) T h Q) : zS M r pc ls (zI b :: zI a :: st) T h Q := by
  intro p l e R s m args below meth c Qm G0 T0 C G H locs la hX hP hS hl hls hst
  obtain ⟨vb, hst⟩ := List.forall_mem_cons.mp hst
  obtain ⟨va, hst⟩ := List.forall_mem_cons.mp hst
  have hk := (k p l e R s m args below meth c Qm G0 T0 C G H locs la hX hP hS hl hls (zok_c (show zok T (zI _) from zR_toInt _) hst))
  rw [List.map_cons] at hk
  have e : zc G (zI (zShr a b)) = .int (Int32.ofInt a >>> (Int32.ofInt b &&& 31)) := congrArg Value.int (zI_of _)
  rw [e] at hk
  exact lv_ishr C.1 C.2.1 hd hk
theorem zS_ladd {a b : Int} (hd : decode M.2.1 pc = .ok (.ladd, 1)) (hr : zRl (a + b)) (k : zS M r (pc + 1) ls (zJ (a + b) :: st) T h Q) : zS M r pc ls (zJ b :: zJ a :: st) T h Q := by
  intro p l e R s m args below meth c Qm G0 T0 C G H locs la hX hP hS hl hls hst
  obtain ⟨vb, hst⟩ := List.forall_mem_cons.mp hst
  obtain ⟨va, hst⟩ := List.forall_mem_cons.mp hst
  have hk := (k p l e R s m args below meth c Qm G0 T0 C G H locs la hX hP hS hl hls (zok_c (show zok T (zJ _) from hr) hst))
  rw [List.map_cons] at hk
  have e : zc G (zJ (a + b)) = .long (Int64.ofInt a + Int64.ofInt b) := congrArg Value.long (Int64.ofInt_add a b)
  rw [e] at hk
  exact lv_ladd C.1 C.2.1 hd hk
theorem zS_lsub {a b : Int} (hd : decode M.2.1 pc = .ok (.lsub, 1)) (hr : zRl (a - b)) (k : zS M r (pc + 1) ls (zJ (a - b) :: st) T h Q) : zS M r pc ls (zJ b :: zJ a :: st) T h Q := by
  intro p l e R s m args below meth c Qm G0 T0 C G H locs la hX hP hS hl hls hst
  obtain ⟨vb, hst⟩ := List.forall_mem_cons.mp hst
  obtain ⟨va, hst⟩ := List.forall_mem_cons.mp hst
  have hk := (k p l e R s m args below meth c Qm G0 T0 C G H locs la hX hP hS hl hls (zok_c (show zok T (zJ _) from hr) hst))
  rw [List.map_cons] at hk
  have e : zc G (zJ (a - b)) = .long (Int64.ofInt a - Int64.ofInt b) := congrArg Value.long (Int64.ofInt_sub a b)
  rw [e] at hk
  exact lv_lsub C.1 C.2.1 hd hk
theorem zS_lmul {a b : Int} (hd : decode M.2.1 pc = .ok (.lmul, 1)) (hr : zRl (a * b)) (k : zS M r (pc + 1) ls (zJ (a * b) :: st) T h Q) : zS M r pc ls (zJ b :: zJ a :: st) T h Q := by
  intro p l e R s m args below meth c Qm G0 T0 C G H locs la hX hP hS hl hls hst
  obtain ⟨vb, hst⟩ := List.forall_mem_cons.mp hst
  obtain ⟨va, hst⟩ := List.forall_mem_cons.mp hst
  have hk := (k p l e R s m args below meth c Qm G0 T0 C G H locs la hX hP hS hl hls (zok_c (show zok T (zJ _) from hr) hst))
  rw [List.map_cons] at hk
  have e : zc G (zJ (a * b)) = .long (Int64.ofInt a * Int64.ofInt b) := congrArg Value.long (Int64.ofInt_mul a b)
  rw [e] at hk
  exact lv_lmul C.1 C.2.1 hd hk
theorem zS_ldiv {a b : Int} (hd : decode M.2.1 pc = .ok (.ldiv, 1)) (hb0 : b ≠ 0) (hr : ¬ (a = -9223372036854775808 ∧ b = -1)) (k : zS M r (pc + 1) ls (zJ (a.tdiv b) :: st) T h Q) : zS M r pc ls (zJ b :: zJ a :: st) T h Q := by
  intro p l e R s m args below meth c Qm G0 T0 C G H locs la hX hP hS hl hls hst
  obtain ⟨vb, hst⟩ := List.forall_mem_cons.mp hst
  obtain ⟨va, hst⟩ := List.forall_mem_cons.mp hst
  have hk := (k p l e R s m args below meth c Qm G0 T0 C G H locs la hX hP hS hl hls (zok_c (show zok T (zJ _) from zJ_tdR va vb hr) hst))
  rw [List.map_cons] at hk
  have e : zc G (zJ (a.tdiv b)) = .long (Int64.ofInt a / Int64.ofInt b) := congrArg Value.long (zJ_div va vb hr).symm
  rw [e] at hk
  exact lv_ldiv C.1 C.2.1 hd (fun q => hb0 ((zJ_eq vb (zR_l zR0)).mp q)) hk
theorem zS_lrem {a b : Int} (hd : decode M.2.1 pc = .ok (.lrem, 1)) (hb0 : b ≠ 0) (hr : ¬ (a = -9223372036854775808 ∧ b = -1)) (k : zS M r (pc + 1) ls (zJ (a.tmod b) :: st) T h Q) : zS M r pc ls (zJ b :: zJ a :: st) T h Q := by
  intro p l e R s m args below meth c Qm G0 T0 C G H locs la hX hP hS hl hls hst
  obtain ⟨vb, hst⟩ := List.forall_mem_cons.mp hst
  obtain ⟨va, hst⟩ := List.forall_mem_cons.mp hst
  have hk := (k p l e R s m args below meth c Qm G0 T0 C G H locs la hX hP hS hl hls (zok_c (show zok T (zJ _) from zJ_tmR va vb) hst))
  rw [List.map_cons] at hk
  have e : zc G (zJ (a.tmod b)) = .long (Int64.ofInt a - Int64.ofInt a / Int64.ofInt b * Int64.ofInt b) := congrArg Value.long (zJ_rem va vb hr).symm
  rw [e] at hk
  exact lv_lrem C.1 C.2.1 hd (fun q => hb0 ((zJ_eq vb (zR_l zR0)).mp q)) hk
theorem zS_land {a b : Int} (hd : decode M.2.1 pc = .ok (.land, 1)) (k : zS M r (pc + 1) ls (zJ (zLAnd a b) :: st) T h Q) : zS M r pc ls (zJ b :: zJ a :: st) T h Q := by
  intro p l e R s m args below meth c Qm G0 T0 C G H locs la hX hP hS hl hls hst
  obtain ⟨vb, hst⟩ := List.forall_mem_cons.mp hst
  obtain ⟨va, hst⟩ := List.forall_mem_cons.mp hst
  have hk := (k p l e R s m args below meth c Qm G0 T0 C G H locs la hX hP hS hl hls (zok_c (show zok T (zJ _) from zRl_toInt _) hst))
  rw [List.map_cons] at hk
  have e : zc G (zJ (zLAnd a b)) = .long (Int64.ofInt a &&& Int64.ofInt b) := congrArg Value.long (Int64.ofInt_toInt _)
  rw [e] at hk
  exact lv_land C.1 C.2.1 hd hk
theorem zS_lor {a b : Int} (hd : decode M.2.1 pc = .ok (.lor, 1)) (k : zS M r (pc + 1) ls (zJ (zLOr a b) :: st) T h Q) : zS M r pc ls (zJ b :: zJ a :: st) T h Q := by
  intro p l e R s m args below meth c Qm G0 T0 C G H locs la hX hP hS hl hls hst
  obtain ⟨vb, hst⟩ := List.forall_mem_cons.mp hst
  obtain ⟨va, hst⟩ := List.forall_mem_cons.mp hst
  have hk := (k p l e R s m args below meth c Qm G0 T0 C G H locs la hX hP hS hl hls (zok_c (show zok T (zJ _) from zRl_toInt _) hst))
  rw [List.map_cons] at hk
  have e : zc G (zJ (zLOr a b)) = .long (Int64.ofInt a ||| Int64.ofInt b) := congrArg Value.long (Int64.ofInt_toInt _)
  rw [e] at hk
  exact lv_lor C.1 C.2.1 hd hk
theorem zS_ineg {a : Int} (hd : decode M.2.1 pc = .ok (.ineg, 1)) (hr : zR (-a)) (k : zS M r (pc + 1) ls (zI (-a) :: st) T h Q) : zS M r pc ls (zI a :: st) T h Q := by
  intro p l e R s m args below meth c Qm G0 T0 C G H locs la hX hP hS hl hls hst
  obtain ⟨va, hst⟩ := List.forall_mem_cons.mp hst
  have hk := (k p l e R s m args below meth c Qm G0 T0 C G H locs la hX hP hS hl hls (zok_c (show zok T (zI _) from hr) hst))
  rw [List.map_cons] at hk
  have e : zc G (zI (-a)) = .int (-Int32.ofInt a) := congrArg Value.int (Int32.ofInt_neg a)
  rw [e] at hk
  exact lv_ineg C.1 C.2.1 hd hk
theorem zS_lneg {a : Int} (hd : decode M.2.1 pc = .ok (.lneg, 1)) (hr : zRl (-a)) (k : zS M r (pc + 1) ls (zJ (-a) :: st) T h Q) : zS M r pc ls (zJ a :: st) T h Q := by
  intro p l e R s m args below meth c Qm G0 T0 C G H locs la hX hP hS hl hls hst
  obtain ⟨va, hst⟩ := List.forall_mem_cons.mp hst
  have hk := (k p l e R s m args below meth c Qm G0 T0 C G H locs la hX hP hS hl hls (zok_c (show zok T (zJ _) from hr) hst))
  rw [List.map_cons] at hk
  have e : zc G (zJ (-a)) = .long (-Int64.ofInt a) := congrArg Value.long (Int64.ofInt_neg a)
  rw [e] at hk
  exact lv_lneg C.1 C.2.1 hd hk
theorem zS_i2b {a : Int} (hd : decode M.2.1 pc = .ok (.i2b, 1)) (k : zS M r (pc + 1) ls (zI (zB8 a) :: st) T h Q) : zS M r pc ls (zI a :: st) T h Q := by
  intro p l e R s m args below meth c Qm G0 T0 C G H locs la hX hP hS hl hls hst
  obtain ⟨va, hst⟩ := List.forall_mem_cons.mp hst
  have hk := (k p l e R s m args below meth c Qm G0 T0 C G H locs la hX hP hS hl hls (zok_c (show zok T (zI _) from zR_toInt _) hst))
  rw [List.map_cons] at hk
  have e : zc G (zI (zB8 a)) = .int ((Int32.ofInt a).toInt8.toInt32) := congrArg Value.int (zI_of _)
  rw [e] at hk
  exact lv_i2b C.1 C.2.1 hd rfl hk
theorem zS_i2s {a : Int} (hd : decode M.2.1 pc = .ok (.i2s, 1)) (k : zS M r (pc + 1) ls (zI (zB16 a) :: st) T h Q) : zS M r pc ls (zI a :: st) T h Q := by
  intro p l e R s m args below meth c Qm G0 T0 C G H locs la hX hP hS hl hls hst
  obtain ⟨va, hst⟩ := List.forall_mem_cons.mp hst
  have hk := (k p l e R s m args below meth c Qm G0 T0 C G H locs la hX hP hS hl hls (zok_c (show zok T (zI _) from zR_toInt _) hst))
  rw [List.map_cons] at hk
  have e : zc G (zI (zB16 a)) = .int ((Int32.ofInt a).toInt16.toInt32) := congrArg Value.int (zI_of _)
  rw [e] at hk
  exact lv_i2s C.1 C.2.1 hd rfl hk
theorem zS_l2i {a : Int} (hd : decode M.2.1 pc = .ok (.l2i, 1)) (k : zS M r (pc + 1) ls (zI (zL2I a) :: st) T h Q) : zS M r pc ls (zJ a :: st) T h Q := by
  intro p l e R s m args below meth c Qm G0 T0 C G H locs la hX hP hS hl hls hst
  obtain ⟨va, hst⟩ := List.forall_mem_cons.mp hst
  have hk := (k p l e R s m args below meth c Qm G0 T0 C G H locs la hX hP hS hl hls (zok_c (show zok T (zI _) from zR_toInt _) hst))
  rw [List.map_cons] at hk
  have e : zc G (zI (zL2I a)) = .int ((Int64.ofInt a).toInt32) := congrArg Value.int (zI_of _)
  rw [e] at hk
  exact lv_l2i C.1 C.2.1 hd rfl hk
theorem zS_i2l {a : Int} (hd : decode M.2.1 pc = .ok (.i2l, 1)) (k : zS M r (pc + 1) ls (zJ (a) :: st) T h Q) : zS M r pc ls (zI a :: st) T h Q := by
  intro p l e R s m args below meth c Qm G0 T0 C G H locs la hX hP hS hl hls hst
  obtain ⟨va, hst⟩ := List.forall_mem_cons.mp hst
  have hk := (k p l e R s m args below meth c Qm G0 T0 C G H locs la hX hP hS hl hls (zok_c (show zok T (zJ _) from zR_l va) hst))
  rw [List.map_cons] at hk
  have e : zc G (zJ (a)) = .long ((Int32.ofInt a).toInt64) := congrArg Value.long (zJ_of_I va)
  rw [e] at hk
  exact lv_i2l C.1 C.2.1 hd rfl hk
theorem zS_lshl {a b : Int} (hd : decode M.2.1 pc = .ok (.lshl, 1)) (k : zS M r (pc + 1) ls (zJ (zLShl a b) :: st) T h Q) : zS M r pc ls (zI b :: zJ a :: st) T h Q := by
  intro p l e R s m args below meth c Qm G0 T0 C G H locs la hX hP hS hl hls hst
  obtain ⟨vb, hst⟩ := List.forall_mem_cons.mp hst
  obtain ⟨va, hst⟩ := List.forall_mem_cons.mp hst
  have hk := (k p l e R s m args below meth c Qm G0 T0 C G H locs la hX hP hS hl hls (zok_c (show zok T (zJ _) from zRl_toInt _) hst))
  rw [List.map_cons] at hk
  have e : zc G (zJ (zLShl a b)) = .long (Int64.ofInt a <<< ((Int32.ofInt b).toInt64 &&& 63)) := congrArg Value.long (Int64.ofInt_toInt _)
  rw [e] at hk
  exact lv_lshl C.1 C.2.1 hd rfl hk
theorem zS_lcmp {a b : Int} (hd : decode M.2.1 pc = .ok (.lcmp, 1)) (k : zS M r (pc + 1) ls (zI (zCmp a b) :: st) T h Q) : zS M r pc ls (zJ b :: zJ a :: st) T h Q := by
  intro p l e R s m args below meth c Qm G0 T0 C G H locs la hX hP hS hl hls hst
  obtain ⟨vb, hst⟩ := List.forall_mem_cons.mp hst
  obtain ⟨va, hst⟩ := List.forall_mem_cons.mp hst
  have hk := (k p l e R s m args below meth c Qm G0 T0 C G H locs la hX hP hS hl hls (zok_c (show zok T (zI _) from zCmpR a b) hst))
  rw [List.map_cons] at hk
  have e : zc G (zI (zCmp a b)) = .int (lg_cmp (Int64.ofInt a) (Int64.ofInt b)) := congrArg Value.int (zCmp_eq va vb)
  rw [e] at hk
  exact W.lcmp C.1 C.2.1 hd hk
theorem zS_dup {v : zV} (hd : decode M.2.1 pc = .ok (.dup, 1)) (hv : v.1 ≠ 1) (k : zS M r (pc + 1) ls (v :: v :: st) T h Q) : zS M r pc ls (v :: st) T h Q := by
  intro p l e R s m args below meth c Qm G0 T0 C G H locs la hX hP hS hl hls hst
  exact lv_dup C.1 C.2.1 hd (zc_cat hv) (k p l e R s m args below meth c Qm G0 T0 C G H locs la hX hP hS hl hls (zok_c (List.forall_mem_cons.mp hst).1 hst))
theorem zS_pop {v : zV} (hd : decode M.2.1 pc = .ok (.pop, 1)) (hv : v.1 ≠ 1) (k : zS M r (pc + 1) ls st T h Q) : zS M r pc ls (v :: st) T h Q := by
  intro p l e R s m args below meth c Qm G0 T0 C G H locs la hX hP hS hl hls hst
  exact lv_pop C.1 C.2.1 hd (zc_cat hv) (k p l e R s m args below meth c Qm G0 T0 C G H locs la hX hP hS hl hls (List.forall_mem_cons.mp hst).2)
theorem zS_dup2 {v u : zV} (hd : decode M.2.1 pc = .ok (.dup2, 1)) (hv : v.1 ≠ 1) (hu : u.1 ≠ 1) (k : zS M r (pc + 1) ls (v :: u :: v :: u :: st) T h Q) : zS M r pc ls (v :: u :: st) T h Q := by
  intro p l e R s m args below meth c Qm G0 T0 C G H locs la hX hP hS hl hls hst
  exact lv_dup2_11 C.1 C.2.1 hd (zc_cat hv) (zc_cat hu) (k p l e R s m args below meth c Qm G0 T0 C G H locs la hX hP hS hl hls (zok_c (List.forall_mem_cons.mp hst).1 (zok_c (List.forall_mem_cons.mp (List.forall_mem_cons.mp hst).2).1 hst)))
theorem zS_icmp_eq {a b off : Int} {tgt : Nat} (hd : decode M.2.1 pc = .ok (.if_icmp .eq off, 3)) (ht : (pc : Int) + off = (tgt : Int)) (kt : a = b → zS M r tgt ls st T h Q) (kf : ¬ (a = b) → zS M r (pc + 3) ls st T h Q) : zS M r pc ls (zI b :: zI a :: st) T h Q := by
  intro p l e R s m args below meth c Qm G0 T0 C G H locs la hX hP hS hl hls hst
  obtain ⟨vb, hst⟩ := List.forall_mem_cons.mp hst
  obtain ⟨va, hst⟩ := List.forall_mem_cons.mp hst
  have q := zI_eq va vb
  exact lv_icmp_eq C.1 C.2.1 hd ht (fun z => kt (q.mp z) p l e R s m args below meth c Qm G0 T0 C G H locs la hX hP hS hl hls hst) (fun z => kf (fun y => z (q.mpr y)) p l e R s m args below meth c Qm G0 T0 C G H locs la hX hP hS hl hls hst)
theorem zS_if_eq {a off : Int} {tgt : Nat} (hd : decode M.2.1 pc = .ok (.ifCond .eq off, 3)) (ht : (pc : Int) + off = (tgt : Int)) (kt : a = 0 → zS M r tgt ls st T h Q) (kf : ¬ (a = 0) → zS M r (pc + 3) ls st T h Q) : zS M r pc ls (zI a :: st) T h Q := by
  intro p l e R s m args below meth c Qm G0 T0 C G H locs la hX hP hS hl hls hst
  obtain ⟨va, hst⟩ := List.forall_mem_cons.mp hst
  have q := zI_eq va zR0
  exact lv_if_eq C.1 C.2.1 hd ht (fun z => kt (q.mp z) p l e R s m args below meth c Qm G0 T0 C G H locs la hX hP hS hl hls hst) (fun z => kf (fun y => z (q.mpr y)) p l e R s m args below meth c Qm G0 T0 C G H locs la hX hP hS hl hls hst)
theorem zS_icmp_ne {a b off : Int} {tgt : Nat} (hd : decode M.2.1 pc = .ok (.if_icmp .ne off, 3)) (ht : (pc : Int) + off = (tgt : Int)) (kt : a ≠ b → zS M r tgt ls st T h Q) (kf : a = b → zS M r (pc + 3) ls st T h Q) : zS M r pc ls (zI b :: zI a :: st) T h Q := by
  intro p l e R s m args below meth c Qm G0 T0 C G H locs la hX hP hS hl hls hst
  obtain ⟨vb, hst⟩ := List.forall_mem_cons.mp hst
  obtain ⟨va, hst⟩ := List.forall_mem_cons.mp hst
  have q := not_congr (zI_eq va vb)
  exact lv_icmp_ne C.1 C.2.1 hd ht (fun z => kt (q.mp z) p l e R s m args below meth c Qm G0 T0 C G H locs la hX hP hS hl hls hst) (fun z => kf (Decidable.not_not.mp (fun y => q.mpr y z)) p l e R s m args below meth c Qm G0 T0 C G H locs la hX hP hS hl hls hst)
theorem zS_if_ne {a off : Int} {tgt : Nat} (hd : decode M.2.1 pc = .ok (.ifCond .ne off, 3)) (ht : (pc : Int) + off = (tgt : Int)) (kt : a ≠ 0 → zS M r tgt ls st T h Q) (kf : a = 0 → zS M r (pc + 3) ls st T h Q) : zS M r pc ls (zI a :: st) T h Q := by
  intro p l e R s m args below meth c Qm G0 T0 C G H locs la hX hP hS hl hls hst
  obtain ⟨va, hst⟩ := List.forall_mem_cons.mp hst
  have q := not_congr (zI_eq va zR0)
  exact lv_if_ne C.1 C.2.1 hd ht (fun z => kt (q.mp z) p l e R s m args below meth c Qm G0 T0 C G H locs la hX hP hS hl hls hst) (fun z => kf (Decidable.not_not.mp (fun y => q.mpr y z)) p l e R s m args below meth c Qm G0 T0 C G H locs la hX hP hS hl hls hst)
theorem zS_icmp_lt {a b off : Int} {tgt : Nat} (hd : decode M.2.1 pc = .ok (.if_icmp .lt off, 3)) (ht : (pc : Int) + off = (tgt : Int)) (kt : a < b → zS M r tgt ls st T h Q) (kf : ¬ (a < b) → zS M r (pc + 3) ls st T h Q) : zS M r pc ls (zI b :: zI a :: st) T h Q := by
  intro p l e R s m args below meth c Qm G0 T0 C G H locs la hX hP hS hl hls hst
  obtain ⟨vb, hst⟩ := List.forall_mem_cons.mp hst
  obtain ⟨va, hst⟩ := List.forall_mem_cons.mp hst
  have q := zI_lt va vb
  exact lv_icmp_lt C.1 C.2.1 hd ht (fun z => kt (q.mp z) p l e R s m args below meth c Qm G0 T0 C G H locs la hX hP hS hl hls hst) (fun z => kf (fun y => z (q.mpr y)) p l e R s m args below meth c Qm G0 T0 C G H locs la hX hP hS hl hls hst)
theorem zS_if_lt {a off : Int} {tgt : Nat} (hd : decode M.2.1 pc = .ok (.ifCond .lt off, 3)) (ht : (pc : Int) + off = (tgt : Int)) (kt : a < 0 → zS M r tgt ls st T h Q) (kf : ¬ (a < 0) → zS M r (pc + 3) ls st T h Q) : zS M r pc ls (zI a :: st) T h Q := by
  intro p l e R s m args below meth c Qm G0 T0 C G H locs la hX hP hS hl hls hst
  obtain ⟨va, hst⟩ := List.forall_mem_cons.mp hst
  have q := zI_lt va zR0
  exact lv_if_lt C.1 C.2.1 hd ht (fun z => kt (q.mp z) p l e R s m args below meth c Qm G0 T0 C G H locs la hX hP hS hl hls hst) (fun z => kf (fun y => z (q.mpr y)) p l e R s m args below meth c Qm G0 T0 C G H locs la hX hP hS hl hls hst)
theorem zS_icmp_ge {a b off : Int} {tgt : Nat} (hd : decode M.2.1 pc = .ok (.if_icmp .ge off, 3)) (ht : (pc : Int) + off = (tgt : Int)) (kt : b ≤ a → zS M r tgt ls st T h Q) (kf : ¬ (b ≤ a) → zS M r (pc + 3) ls st T h Q) : zS M r pc ls (zI b :: zI a :: st) T h Q := by
  intro p l e R s m args below meth c Qm G0 T0 C G H locs la hX hP hS hl hls hst
  obtain ⟨vb, hst⟩ := List.forall_mem_cons.mp hst
  obtain ⟨va, hst⟩ := List.forall_mem_cons.mp hst
  have q := zI_le vb va
  exact lv_icmp_ge C.1 C.2.1 hd ht (fun z => kt (q.mp z) p l e R s m args below meth c Qm G0 T0 C G H locs la hX hP hS hl hls hst) (fun z => kf (fun y => z (q.mpr y)) p l e R s m args below meth c Qm G0 T0 C G H locs la hX hP hS hl hls hst)
theorem zS_if_ge {a off : Int} {tgt : Nat} (hd : decode M.2.1 pc = .ok (.ifCond .ge off, 3)) (ht : (pc : Int) + off = (tgt : Int)) (kt : 0 ≤ a → zS M r tgt ls st T h Q) (kf : ¬ (0 ≤ a) → zS M r (pc + 3) ls st T h Q) : zS M r pc ls (zI a :: st) T h Q := by
  intro p l e R s m args below meth c Qm G0 T0 C G H locs la hX hP hS hl hls hst
  obtain ⟨va, hst⟩ := List.forall_mem_cons.mp hst
  have q := zI_le zR0 va
  exact lv_if_ge C.1 C.2.1 hd ht (fun z => kt (q.mp z) p l e R s m args below meth c Qm G0 T0 C G H locs la hX hP hS hl hls hst) (fun z => kf (fun y => z (q.mpr y)) p l e R s m args below meth c Qm G0 T0 C G H locs la hX hP hS hl hls hst)
theorem zS_icmp_gt {a b off : Int} {tgt : Nat} (hd : decode M.2.1 pc = .ok (.if_icmp .gt off, 3)) (ht : (pc : Int) + off = (tgt : Int)) (kt : b < a → zS M r tgt ls st T h Q) (kf : ¬ (b < a) → zS M r (pc + 3) ls st T h Q) : zS M r pc ls (zI b :: zI a :: st) T h Q := by
  intro p l e R s m args below meth c Qm G0 T0 C G H locs la hX hP hS hl hls hst
  obtain ⟨vb, hst⟩ := List.forall_mem_cons.mp hst
  obtain ⟨va, hst⟩ := List.forall_mem_cons.mp hst
  have q := zI_lt vb va
  exact lv_icmp_gt C.1 C.2.1 hd ht (fun z => kt (q.mp z) p l e R s m args below meth c Qm G0 T0 C G H locs la hX hP hS hl hls hst) (fun z => kf (fun y => z (q.mpr y)) p l e R s m args below meth c Qm G0 T0 C G H locs la hX hP hS hl hls hst)
theorem zS_if_gt {a off : Int} {tgt : Nat} (hd : decode M.2.1 pc = .ok (.ifCond .gt off, 3)) (ht : (pc : Int) + off = (tgt : Int)) (kt : 0 < a → zS M r tgt ls st T h Q) (kf : ¬ (0 < a) → zS M r (pc + 3) ls st T h Q) : zS M r pc ls (zI a :: st) T h Q := by
  intro p l e R s m args below meth c Qm G0 T0 C G H locs la hX hP hS hl hls hst
  obtain ⟨va, hst⟩ := List.forall_mem_cons.mp hst
  have q := zI_lt zR0 va
  exact lv_if_gt C.1 C.2.1 hd ht (fun z => kt (q.mp z) p l e R s m args below meth c Qm G0 T0 C G H locs la hX hP hS hl hls hst) (fun z => kf (fun y => z (q.mpr y)) p l e R s m args below meth c Qm G0 T0 C G H locs la hX hP hS hl hls hst)
theorem zS_icmp_le {a b off : Int} {tgt : Nat} (hd : decode M.2.1 pc = .ok (.if_icmp .le off, 3)) (ht : (pc : Int) + off = (tgt : Int)) (kt : a ≤ b → zS M r tgt ls st T h Q) (kf : ¬ (a ≤ b) → zS M r (pc + 3) ls st T h Q) : zS M r pc ls (zI b :: zI a :: st) T h Q := by
  intro p l e R s m args below meth c Qm G0 T0 C G H locs la hX hP hS hl hls hst
  obtain ⟨vb, hst⟩ := List.forall_mem_cons.mp hst
  obtain ⟨va, hst⟩ := List.forall_mem_cons.mp hst
  have q := zI_le va vb
  exact lv_icmp_le C.1 C.2.1 hd ht (fun z => kt (q.mp z) p l e R s m args below meth c Qm G0 T0 C G H locs la hX hP hS hl hls hst) (fun z => kf (fun y => z (q.mpr y)) p l e R s m args below meth c Qm G0 T0 C G H locs la hX hP hS hl hls hst)
theorem zS_if_le {a off : Int} {tgt : Nat} (hd : decode M.2.1 pc = .ok (.ifCond .le off, 3)) (ht : (pc : Int) + off = (tgt : Int)) (kt : a ≤ 0 → zS M r tgt ls st T h Q) (kf : ¬ (a ≤ 0) → zS M r (pc + 3) ls st T h Q) : zS M r pc ls (zI a :: st) T h Q := by
  intro p l e R s m args below meth c Qm G0 T0 C G H locs la hX hP hS hl hls hst
  obtain ⟨va, hst⟩ := List.forall_mem_cons.mp hst
  have q := zI_le va zR0
  exact lv_if_le C.1 C.2.1 hd ht (fun z => kt (q.mp z) p l e R s m args below meth c Qm G0 T0 C G H locs la hX hP hS hl hls hst) (fun z => kf (fun y => z (q.mpr y)) p l e R s m args below meth c Qm G0 T0 C G H locs la hX hP hS hl hls hst)
theorem zS_goto {off : Int} {tgt : Nat} (hd : decode M.2.1 pc = .ok (.goto off, 3)) (ht : (pc : Int) + off = (tgt : Int)) (k : zS M r tgt ls st T h Q) : zS M r pc ls st T h Q := by
  intro p l e R s m args below meth c Qm G0 T0 C G H locs la hX hP hS hl hls hst
  exact lv_goto C.1 C.2.1 hd ht (k p l e R s m args below meth c Qm G0 T0 C G H locs la hX hP hS hl hls hst)
theorem zS_tableIn {dflt lo hi x off : Int} {offs : Array Int} {len tgt : Nat} (hd : decode M.2.1 pc = .ok (.tableswitch dflt lo hi offs, len)) (h1 : ¬ x < lo) (h2 : ¬ hi < x) (ho : offs[(x - lo).toNat]? = some off) (ht : (pc : Int) + off = (tgt : Int)) (k : zS M r tgt ls st T h Q) : zS M r pc ls (zI x :: st) T h Q := by
  intro p l e R s m args below meth c Qm G0 T0 C G H locs la hX hP hS hl hls hst
  obtain ⟨va, hst⟩ := List.forall_mem_cons.mp hst
  have e9 : (Int32.ofInt x).toInt = x := zI_toInt va
  exact lv_tableIn C.1 C.2.1 hd (by rw [e9]; exact h1) (by rw [e9]; exact h2) (by rw [e9]; exact ho) ht (k p l e R s m args below meth c Qm G0 T0 C G H locs la hX hP hS hl hls hst)
theorem zS_tableOut {dflt lo hi x : Int} {offs : Array Int} {len tgt : Nat} (hd : decode M.2.1 pc = .ok (.tableswitch dflt lo hi offs, len)) (h1 : x < lo ∨ hi < x) (ht : (pc : Int) + dflt = (tgt : Int)) (k : zS M r tgt ls st T h Q) : zS M r pc ls (zI x :: st) T h Q := by
  intro p l e R s m args below meth c Qm G0 T0 C G H locs la hX hP hS hl hls hst
  obtain ⟨va, hst⟩ := List.forall_mem_cons.mp hst
  have e9 : (Int32.ofInt x).toInt = x := zI_toInt va
  exact lv_tableOut C.1 C.2.1 hd (by rw [e9]; exact h1) ht (k p l e R s m args below meth c Qm G0 T0 C G H locs la hX hP hS hl hls hst)
end Rows
end
section
/-! THE HEAP'S ROWS: fields, arrays, calls, returns -/
def zset (h : zH) (k j v : Int) : zH := fun a b => if a = k ∧ b = j then v else h a b
theorem zset_s (h : zH) (k j v : Int) : zset h k j v k j = v := if_pos ⟨rfl, rfl⟩
theorem zset_k {h : zH} {k j v a : Int} (ha : a ≠ k) : zset h k j v a = h a := funext fun b => if_neg fun q => ha q.1
theorem zset_j {h : zH} {k j v a b : Int} (hb : b ≠ j) : zset h k j v a b = h a b := if_neg fun q => hb q.2
theorem zScr.set {G : zG} {h : zH} {k : Nat} {j v : Int} (hs : zScr G h) : zScr G (zset h k j v) := by
  refine ⟨?_, fun i hi => ?_⟩
  · rw [zset_k (by omega)]; exact hs.1
  · rw [zset_k (by omega)]; exact hs.2 i hi
def zAt (T : zT) (k : Int) (t : Nat × Nat) : Prop := 0 ≤ k ∧ T.1[k.toNat]? = some t
theorem zw_at {G : zG} {T : zT} {h : zH} {k : Nat} {t : Nat × Nat} (ht : T.1[k]? = some t) : (zw G T h)[k]? = some (G.2 k, zE G t (h k)) := by
  have hk : k < T.1.length := (List.getElem?_eq_some_iff.mp ht).1
  unfold zw
  rw [List.getElem?_map, List.getElem?_range hk]
  simp only [Option.map_some, List.getD_eq_getElem?_getD, ht, Option.getD_some]
theorem zw_set {G : zG} {T : zT} {h h' : zH} {k : Nat} {t : Nat × Nat} (ht : T.1[k]? = some t) (he : ∀ a : Nat, a ≠ k → h' a = h a) : (zw G T h).set k (G.2 k, zE G t (h' k)) = zw G T h' := by
  have hk : k < T.1.length := (List.getElem?_eq_some_iff.mp ht).1
  apply List.ext_getElem?
  intro i
  rw [List.getElem?_set]
  by_cases hi : k = i
  · subst hi
    rw [if_pos rfl, if_pos (by unfold zw; rw [List.length_map, List.length_range]; exact hk), zw_at ht]
  · rw [if_neg hi]
    unfold zw
    rw [List.getElem?_map, List.getElem?_map]
    by_cases hn : i < T.1.length
    · rw [List.getElem?_range hn, Option.map_some, Option.map_some, he i (fun q => hi q.symm)]
    · rw [List.getElem?_eq_none (by rw [List.length_range]; omega)]
      rfl
theorem zrm_set {α : Type} {n k : Nat} {f : Nat → α} {v : α} : ((List.range n).map f).set k v = (List.range n).map (fun j => if j = k then v else f j) := by
  apply List.ext_getElem?
  intro i
  rw [List.getElem?_set, List.length_map, List.length_range, List.getElem?_map, List.getElem?_map]
  by_cases hn : i < n
  · rw [List.getElem?_range hn]
    by_cases hi : k = i
    · subst hi
      simp [hn]
    · simp [hi]
      exact fun q => absurd q.symm hi
  · rw [List.getElem?_eq_none (by rw [List.length_range]; omega)]
    by_cases hi : k = i
    · subst hi
      simp [hn]
    · simp [hi]
theorem zokh_at {T : zT} {h : zH} {k j : Nat} {t : Nat × Nat} (hh : zokh T h) (ht : T.1[k]? = some t) (hj : j < t.2) : zokc T t j (h k j) := hh.1 k j t ht hj
theorem zRo_ok : zRo.all (fun q => match TTl[q.1]? with | some t => decide (t.1 < 20) && zF t.1 q.2.1 == 2 | none => false) = true := by decide +kernel
theorem zRa_ok : zRa.all (fun q => match TTl[q.1]? with | some t => decide (24 ≤ t.1) && t.2 == q.2.1 | none => false) = true := by decide +kernel
theorem zSh_set {h : zH} {k j : Nat} {t : Nat × Nat} {v : Int} (hs : zSh h) (ht : TTl[k]? = some t) (hr : (t.1 < 20 ∧ zF t.1 j ≠ 2) ∨ (20 ≤ t.1 ∧ t.1 < 24)) : zSh (zset h k j v) := by
  refine ⟨fun q hq => ?_, fun q hq i hi => ?_⟩
  · have h1 := List.all_eq_true.mp zRo_ok q hq
    unfold zset
    rw [if_neg]
    · exact hs.1 q hq
    · rintro ⟨h2, h3⟩
      have h2 : q.1 = k := by omega
      have h3 : q.2.1 = j := by omega
      rw [h2, ht] at h1
      simp only [Bool.and_eq_true, decide_eq_true_eq, beq_iff_eq] at h1
      rw [h3] at h1
      rcases hr with ⟨-, q⟩ | ⟨q, -⟩
      · exact q h1.2
      · omega
  · have h1 := List.all_eq_true.mp zRa_ok q hq
    unfold zset
    rw [if_neg]
    · exact hs.2 q hq i hi
    · rintro ⟨h2, -⟩
      have h2 : q.1 = k := by omega
      rw [h2, ht] at h1
      simp only [Bool.and_eq_true, decide_eq_true_eq] at h1
      omega
theorem zokh_set {T : zT} {h : zH} {k j : Nat} {t : Nat × Nat} {v : Int} (hh : zokh T h) (ht : T.1[k]? = some t) (hv : zokc T t j v) (hr : T.2 = true → (t.1 < 20 ∧ zF t.1 j ≠ 2) ∨ (20 ≤ t.1 ∧ t.1 < 24)) : zokh T (zset h k j v) := by
  refine ⟨?_, fun hT => ⟨(hh.2 hT).1, zSh_set (hh.2 hT).2 (by rw [← (hh.2 hT).1]; exact ht) (hr hT)⟩⟩
  intro a b t' ht' hb
  unfold zset
  by_cases hq : (a : Int) = k ∧ (b : Int) = j
  · rw [if_pos hq]
    obtain ⟨h1, h2⟩ := hq
    have h1 : a = k := by omega
    have h2 : b = j := by omega
    subst h1; subst h2
    cases ht.symm.trans ht'
    exact hv
  · rw [if_neg hq]
    exact hh.1 a b t' ht' hb
theorem zX_ad {T T' : zT} {G G' : zG} (h : zX T T' G G') : zAd G = zAd G' := by unfold zAd gB; rw [h.2.1]
theorem zX_c {T T' : zT} {G G' : zG} (h : zX T T' G G') {v : zV} (hv : zok T v) : zc G v = zc G' v := by
  obtain ⟨⟨d1, d2, d3, d4, ⟨d5, d6, d7⟩, d8, d9, d10⟩, a⟩ := G
  obtain ⟨g', a'⟩ := G'
  obtain ⟨-, h2, h3⟩ := h
  dsimp only at h2 h3
  subst h2
  obtain ⟨t, x⟩ := v
  unfold zc
  split <;> try rfl
  split
  · rfl
  · rename_i k heq hk
    cases heq
    have hv : x < T.1.length := hv
    exact congrArg Value.ref (h3 x.toNat (by omega))
theorem zX_ok {T T' : zT} {G G' : zG} (h : zX T T' G G') {v : zV} (hv : zok T v) : zok T' v := by
  have hl := h.1.length_le
  obtain ⟨t, x⟩ := v
  unfold zok at hv ⊢
  split at hv
  · exact hv
  · exact hv
  · show _ < (T'.1.length : Int)
    omega
  · trivial
theorem zX_map {T T' : zT} {G G' : zG} (h : zX T T' G G') {l : List zV} (hl : ∀ v ∈ l, zok T v) : l.map (zc G) = l.map (zc G') := List.map_congr_left fun v hv => zX_c h (hl v hv)
theorem zX_lv {T T' : zT} {G G' : zG} (h : zX T T' G G') {l : List zV} (hl : ∀ v ∈ l, zok T v) : zlv G l = zlv G' l := by
  unfold zlv
  apply List.map_congr_left
  intro q hq
  have h1 : q.1 ∈ l := by
    obtain ⟨a, i⟩ := q
    exact List.mem_of_getElem? (List.mk_mem_zipIdx_iff_getElem?.mp (List.mem_filter.mp hq).1)
  rw [zX_c h (hl _ h1)]
theorem zX_D {T T' : zT} {G G' : zG} (h : zX T T' G G') : gD G = gD G' := by unfold gD; rw [h.2.1]
theorem zX_ty {T T' : zT} {G G' : zG} (h : zX T T' G G') : zty G = zty G' := by unfold zty gY; rw [h.2.1]
theorem zC.K {M : zM} {r : zB} {Q : Option zV → zT → zH → Prop} {p : Program} {l : Launch} {e : Env} {R : Room} {s : State} {m : MethodId} {args : Array Value} {below : List Frame} {meth : Method} {c : Code} {Qm : State → Prop} {G0 G : zG} {T0 T : zT} (C : zC M r Q p l e R s m args below meth c Qm G0 T0) (h : zX T0 T G0 G) : zK G s s.heap := by
  have h0 := C.2.2.2.2.2.2.2.1
  unfold zK zKc gD zty gY gSc gL gXs gB gSk gSv gFa zAd gB at h0 ⊢
  rw [← h.2.1]
  exact h0
/-- a field's link: own class, entry, class number, place -/
def zLk (own : String) (ix ci j : Nat) : Prop := ∃ (q : vw_C) (ty0 : Nat → FieldType), vwCl[ci]? = some q ∧ (∀ w ∈ u_ws q.1 q.2.1 q.2.2, w ∈ lwg) ∧ (∀ k, k < q.2.2 → parseFieldDescriptor (q.2.1 k).2.2.1 = some (ty0 k)) ∧ (∀ a, a < q.2.2 → ∀ b, b < q.2.2 → a ≠ b → (q.2.1 a).2.1 ≠ (q.2.1 b).2.1) ∧
  j < q.2.2 ∧ Cond.fieldLink own ix q.1 (q.2.1 j).2.1 (q.2.1 j).2.2.1 ∈ lwg ∧ (q.2.1 j).1 = q.1 ∧ ((zF ci j = 0 ∧ ty0 j = .int) ∨ (zF ci j = 1 ∧ ty0 j = .long) ∨ (zF ci j = 2 ∧ ((∃ n, ty0 j = .object n) ∨ ∃ t, ty0 j = .array t)))
def zLfin (ci j : Nat) (b : Bool) : Prop := ∃ q : vw_C, vwCl[ci]? = some q ∧ (q.2.1 j).2.2.2 = b
theorem zE_obj {G : zG} {ci n : Nat} {f : Int → Int} (h : ci < 20) : zE G (ci, n) f = .inr (ci, (List.range n).map (fun j => zc G (zF ci j, f j))) := if_pos h
theorem zfit {G : zG} {t : Nat} {v : Int} {ty : FieldType} (h : (t = 0 ∧ ty = .int) ∨ (t = 1 ∧ ty = .long) ∨ (t = 2 ∧ ((∃ n, ty = .object n) ∨ ∃ t, ty = .array t))) : narrow ty (zc G (t, v)) = zc G (t, v) ∧ fits ty (zc G (t, v)) = true := by
  rcases h with ⟨rfl, rfl⟩ | ⟨rfl, rfl⟩ | ⟨rfl, ⟨n, rfl⟩ | ⟨n, rfl⟩⟩
  · exact ⟨rfl, rfl⟩
  · exact ⟨rfl, rfl⟩
  · by_cases q : v < 0
    · rw [show zc G (2, v) = .null from if_pos q]; exact ⟨rfl, rfl⟩
    · rw [show zc G (2, v) = .ref (G.2 v.toNat) from if_neg q]; exact ⟨rfl, rfl⟩
  · by_cases q : v < 0
    · rw [show zc G (2, v) = .null from if_pos q]; exact ⟨rfl, rfl⟩
    · rw [show zc G (2, v) = .ref (G.2 v.toNat) from if_neg q]; exact ⟨rfl, rfl⟩
section Heap
variable {M : zM} {r : zB} {pc : Nat} {ls st : List zV} {T : zT} {h : zH} {Q : Option zV → zT → zH → Prop}
theorem zc_pos {G : zG} {k : Int} (h : 0 ≤ k) : zc G (2, k) = .ref (G.2 k.toNat) := if_neg (by omega)
theorem zS_getfield {ix ci j n : Nat} {kk x : Int} (hd : decode M.2.1 pc = .ok (.getfield ix, 3)) (hL : zLk M.1.cls ix ci j) (ht : zAt T kk (ci, n)) (hj : (decide (j < n) && decide (ci < 20)) = true) (hx : (j : Int) = x) (k : zS M r (pc + 3) ls ((zF ci j, h kk x) :: st) T h Q) : zS M r pc ls (zA kk :: st) T h Q := by
  intro p l e R s m args below meth c Qm G0 T0 C G H locs la hX hP hS hl hls hst
  obtain ⟨q, ty0, h1, h2, -, -, h5, h6, h7, -⟩ := hL
  rw [Bool.and_eq_true, decide_eq_true_eq, decide_eq_true_eq] at hj
  obtain ⟨hj, hci⟩ := hj
  subst hx
  obtain ⟨hk0, ht⟩ := ht
  obtain ⟨a, rfl⟩ := Int.eq_ofNat_of_zero_le hk0
  simp only [Int.toNat_natCast] at ht
  have ho := zokh_at hP.2.2.1 ht hj
  unfold zokc at ho
  rw [if_pos hci] at ho
  have hw := zw_at (G := G) (h := h) ht
  rw [zE_obj hci] at hw
  rw [List.map_cons, zc_pos (by omega), Int.toNat_natCast]
  exact va_get (D := gD G) (ci := ci) (v := zc G (zF ci j, h a j)) (C := q.1) (T := q.2.1) (N := q.2.2) C.1 C.2.1 C.2.2.2.2.1 h2 C.2.2.2.1 (C.K hX).1 hP.1 a hw h1 j h5 (C.2.2.2.2.1 _ h6) (fun x hx => by rw [h7] at hx; exact hx) (by rw [List.getElem?_map, List.getElem?_range hj]; rfl) hd
    (k p l e R s m args below meth c Qm G0 T0 C G H locs la hX hP hS hl hls (zok_c ho (List.forall_mem_cons.mp hst).2))
theorem zput_w {G : zG} {ci n a j : Nat} {h : zH} {v : Int} (hci : ci < 20) (ht : T.1[a]? = some (ci, n)) : (zw G T h).set a (G.2 a, .inr (ci, ((List.range n).map (fun i => zc G (zF ci i, h a i))).set j (zc G (zF ci j, v)))) = zw G T (zset h a j v) := by
  rw [← zw_set (h := h) (h' := zset h a j v) (t := (ci, n)) ht (fun b hb => zset_k (by omega)), zE_obj hci, zrm_set]
  congr 4
  apply List.map_congr_left
  intro i _
  unfold zset
  by_cases hi : i = j
  · subst hi; simp
  · rw [if_neg hi, if_neg (by omega)]
theorem zS_putfield {ix ci j n : Nat} {kk x v : Int} {t : Nat} (hd : decode M.2.1 pc = .ok (.putfield ix, 3)) (hL : zLk M.1.cls ix ci j) (hf : zLfin ci j false ∨ (zLfin ci j true ∧ M.1.name = "<init>" ∧ ∀ q, vwCl[ci]? = some q → q.1 = M.1.cls)) (ht : zAt T kk (ci, n)) (hj : (decide (j < n) && decide (ci < 20)) = true) (hx : (j : Int) = x) (htg : zF ci j = t) (hsl : t ≠ 2 ∨ T.2 = false) (k : zS M r (pc + 3) ls st T (zset h kk x v) Q) : zS M r pc ls ((t, v) :: zA kk :: st) T h Q := by
  intro p l e R s m args below meth c Qm G0 T0 C G H locs la hX hP hS hl hls hst
  obtain ⟨q, ty0, h1, h2, h3, h4, h5, h6, h7, h8⟩ := hL
  rw [Bool.and_eq_true, decide_eq_true_eq, decide_eq_true_eq] at hj
  obtain ⟨hj, hci⟩ := hj
  subst hx
  subst htg
  obtain ⟨hk0, ht⟩ := ht
  obtain ⟨a, rfl⟩ := Int.eq_ofNat_of_zero_le hk0
  simp only [Int.toNat_natCast] at ht
  obtain ⟨hv, hst⟩ := List.forall_mem_cons.mp hst
  have hst := (List.forall_mem_cons.mp hst).2
  have hw := zw_at (G := G) (h := h) ht
  rw [zE_obj hci] at hw
  rw [List.map_cons, List.map_cons, zc_pos (by omega), Int.toNat_natCast]
  have hlen : j < ((List.range n).map (fun i => zc G (zF ci i, h a i))).length := by rw [List.length_map, List.length_range]; exact hj
  have hgo : ∀ (H1 : Heap) (locs1 : List Loc), va_P (gD G) vwCl ((zw G T h).set a (G.2 a, .inr (ci, ((List.range n).map (fun i => zc G (zF ci i, h a i))).set j (zc G (zF ci j, v))))) H1 → va_D (zAd G) ((zw G T h).set a (G.2 a, .inr (ci, ((List.range n).map (fun i => zc G (zF ci i, h a i))).set j (zc G (zF ci j, v))))) → va_S (zAd G) s.heap H1 locs1 → W p l e R s m args below meth c H1 locs1 r.2.1 r.2.2.1 Qm (F0 m (pc + 3) la (st.map (zc G))) := by
    intro H1 locs1 hP1 hD1 hS1
    rw [zput_w hci ht] at hP1 hD1
    exact k p l e R s m args below meth c Qm G0 T0 C G H1 locs1 la hX ⟨hP1, hD1, zokh_set hP.2.2.1 ht (by unfold zokc; rw [if_pos hci]; exact hv) (fun hT => Or.inl ⟨hci, hsl.resolve_right (by rw [hT]; decide)⟩), hP.2.2.2.set⟩ hS1 hl hls hst
  obtain ⟨e1, e2⟩ := zfit (G := G) (v := v) h8
  rcases hf with ⟨q', g1, g2⟩ | ⟨⟨q', g1, g2⟩, g3, g4⟩
  · cases h1.symm.trans g1
    exact va_put (D := gD G) (ci := ci) (C := q.1) (T := q.2.1) (N := q.2.2) C.1 C.2.1 C.2.2.2.2.1 h2 ty0 h3 h4 C.2.2.2.1 (C.K hX).1 hP.1 hP.2.1 hS a hw h1 j h5 (C.2.2.2.2.1 _ h6) (fun x hx => by rw [h7] at hx; exact hx) g2 (h3 j h5) e1 e2 hlen hd hgo
  · cases h1.symm.trans g1
    exact va_putF (D := gD G) (ci := ci) (C := q.1) (T := q.2.1) (N := q.2.2) C.1 C.2.1 C.2.2.2.2.1 h2 ty0 h3 h4 C.2.2.2.1 (C.K hX).1 hP.1 hP.2.1 hS a hw h1 j h5 (C.2.2.2.2.1 _ h6) (fun x hx => by rw [h7] at hx; exact hx) g2 (C.2.2.2.2.2.1.trans g3) (h7.trans (g4 q h1)) (h3 j h5) e1 e2 hlen hd hgo
/-- a field that refers, once all is made: the place is known -/
theorem zS_getref {ix ci j n i a : Nat} {kk y : Int} (hd : decode M.2.1 pc = .ok (.getfield ix, 3)) (hL : zLk M.1.cls ix ci j) (ht : zAt T kk (ci, n)) (hj : (decide (j < n) && decide (ci < 20)) = true) (hT : T.2 = true) (ha : (a : Int) = kk) (hy : zRo[i]? = some (a, j, y)) (hz : zF ci j = 2) (k : zS M r (pc + 3) ls (zA y :: st) T h Q) : zS M r pc ls (zA kk :: st) T h Q := by
  intro p l e R s m args below meth c Qm G0 T0 C G H locs la hX hP hS hl hls hst
  have e9 : h kk j = y := by rw [← ha]; exact (hP.2.2.1.2 hT).2.1 _ (List.mem_of_getElem? hy)
  refine zS_getfield (x := (j : Int)) hd hL ht hj rfl ?_ p l e R s m args below meth c Qm G0 T0 C G H locs la hX hP hS hl hls hst
  rw [e9, hz]
  exact k
theorem zS_forget {i : Nat} (k : zS M r pc (ls.set i zN) st T h Q) : zS M r pc ls st T h Q := by
  intro p l e R s m args below meth c Qm G0 T0 C G H locs la hX hP hS hl hls hst
  refine k p l e R s m args below meth c Qm G0 T0 C G H locs la hX hP hS ⟨hl.1, hl.2.1, fun q hq => ?_⟩ (zok_set hls trivial) hst
  obtain ⟨v, h1, h2, h3⟩ := zlv_of hq
  obtain ⟨x, w⟩ := q
  dsimp only at h1 h3 ⊢
  subst h3
  rw [List.getElem?_set] at h1
  split at h1
  · split at h1
    · cases h1; exact absurd rfl h2
    · cases h1
  · exact hl.2.2 _ (zlv_in h1 h2)
end Heap
end
section
/-! ARRAYS, CALLS, RETURNS, CONTRACTS -/
theorem zE_i {G : zG} {t n : Nat} {f : Int → Int} (h : t = 20 ∨ t = 21 ∨ t = 23) : zE G (t, n) f = .inl (gY G t, n, .inl (fun j => Int32.ofInt (f j))) := by
  rcases h with rfl | rfl | rfl <;> rfl
theorem zE_l {G : zG} {n : Nat} {f : Int → Int} : zE G (22, n) f = .inl (gY G 22, n, .inr (.inl (fun j => Int64.ofInt (f j)))) := rfl
theorem zE_q {G : zG} {t n : Nat} {f : Int → Int} (h : t = 24 ∨ t = 25 ∨ t = 26) : zE G (t, n) f = .inl (gY G t, n, .inr (.inr (.inr (.inr (fun j => if f j < 0 then none else some (G.2 (f j).toNat)))))) := by
  rcases h with rfl | rfl | rfl <;> rfl
theorem zast_i {G : zG} {T : zT} {t n a j : Nat} {h : zH} {v : Int} (ht' : t = 20 ∨ t = 21 ∨ t = 23) (ht : T.1[a]? = some (t, n)) : (zw G T h).set a (G.2 a, .inl (gY G t, n, .inl (upd (fun b => Int32.ofInt (h a b)) j (Int32.ofInt v)))) = zw G T (zset h a j v) := by
  rw [← zw_set (h := h) (h' := zset h a j v) (t := (t, n)) ht (fun b hb => zset_k (by omega)), zE_i ht']
  congr 5
  apply congrArg Sum.inl
  funext b
  unfold upd zset
  by_cases hb : b = j
  · subst hb; simp
  · rw [if_neg hb, if_neg (by omega)]
theorem zast_l {G : zG} {T : zT} {n a j : Nat} {h : zH} {v : Int} (ht : T.1[a]? = some (22, n)) : (zw G T h).set a (G.2 a, .inl (gY G 22, n, .inr (.inl (vp_updL (fun b => Int64.ofInt (h a b)) j (Int64.ofInt v))))) = zw G T (zset h a j v) := by
  rw [← zw_set (h := h) (h' := zset h a j v) (t := (22, n)) ht (fun b hb => zset_k (by omega)), zE_l]
  congr 6
  apply congrArg Sum.inl
  funext b
  unfold vp_updL zset
  by_cases hb : b = j
  · subst hb; simp
  · rw [if_neg hb, if_neg (by omega)]
theorem zast_q {G : zG} {T : zT} {t n a j k : Nat} {h : zH} (ht' : t = 24 ∨ t = 25 ∨ t = 26) (ht : T.1[a]? = some (t, n)) : (zw G T h).set a (G.2 a, .inl (gY G t, n, .inr (.inr (.inr (.inr (va_up (fun b : Nat => if h a b < 0 then none else some (G.2 (h a b).toNat)) j (some (G.2 k)))))))) = zw G T (zset h a j k) := by
  rw [← zw_set (h := h) (h' := zset h a j k) (t := (t, n)) ht (fun b hb => zset_k (by omega)), zE_q ht']
  congr 8
  apply congrArg Sum.inr
  funext b
  unfold va_up zset
  by_cases hb : b = j
  · subst hb
    simp
  · have e : ¬ ((a : Int) = a ∧ (b : Int) = j) := by omega
    rw [if_neg hb, if_neg e]
def zcpy (h : zH) (ks sp kd dp n : Int) : zH := fun a b => if a = kd ∧ dp ≤ b ∧ b < dp + n then h ks (sp + (b - dp)) else h a b
section Arr
variable {M : zM} {r : zB} {pc : Nat} {ls st : List zV} {T : zT} {h : zH} {Q : Option zV → zT → zH → Prop}
theorem zst_in {T : zT} {st : List zV} {j kk : Int} (hst : ∀ v ∈ zI j :: zA kk :: st, zok T v) : zR j ∧ ∀ v ∈ st, zok T v :=
  ⟨(List.forall_mem_cons.mp hst).1, (List.forall_mem_cons.mp (List.forall_mem_cons.mp hst).2).2⟩
theorem zS_iaload {n : Nat} {kk j : Int} (hd : decode M.2.1 pc = .ok (.iaload, 1)) (ht : zAt T kk (21, n)) (h0 : 0 ≤ j) (h1 : j < n) (k : zS M r (pc + 1) ls (zI (h kk j) :: st) T h Q) : zS M r pc ls (zI j :: zA kk :: st) T h Q := by
  intro p l e R s m args below meth c Qm G0 T0 C G H locs la hX hP hS hl hls hst
  obtain ⟨hk0, ht⟩ := ht
  obtain ⟨a, rfl⟩ := Int.eq_ofNat_of_zero_le hk0
  obtain ⟨b, rfl⟩ := Int.eq_ofNat_of_zero_le h0
  simp only [Int.toNat_natCast] at ht
  obtain ⟨hj, hst⟩ := zst_in hst
  obtain ⟨hin, hcl⟩ := zI_idx hj h0 h1
  have hw := zw_at (G := G) (h := h) ht
  rw [zE_i (Or.inr (Or.inl rfl))] at hw
  rw [List.map_cons, List.map_cons, zc_pos (by omega), Int.toNat_natCast]
  refine va_iald C.1 C.2.1 (C.K hX).1 hP.1 a 1 hw rfl hin hd ?_
  rw [hcl, Int.toNat_natCast]
  exact k p l e R s m args below meth c Qm G0 T0 C G H locs la hX hP hS hl hls (zok_c (hP.2.2.1.1 a b _ ht (show b < n by omega)) hst)
theorem zS_baload {n : Nat} {t : Nat} {kk j : Int} (hd : decode M.2.1 pc = .ok (.baload, 1)) (htt : t = 20 ∨ t = 23) (ht : zAt T kk (t, n)) (h0 : 0 ≤ j) (h1 : j < n) (k : zS M r (pc + 1) ls (zI (h kk j) :: st) T h Q) : zS M r pc ls (zI j :: zA kk :: st) T h Q := by
  intro p l e R s m args below meth c Qm G0 T0 C G H locs la hX hP hS hl hls hst
  obtain ⟨hk0, ht⟩ := ht
  obtain ⟨a, rfl⟩ := Int.eq_ofNat_of_zero_le hk0
  obtain ⟨b, rfl⟩ := Int.eq_ofNat_of_zero_le h0
  simp only [Int.toNat_natCast] at ht
  obtain ⟨hj, hst⟩ := zst_in hst
  obtain ⟨hin, hcl⟩ := zI_idx hj h0 h1
  have hw := zw_at (G := G) (h := h) ht
  have hok : zR (h a b) := by
    have := hP.2.2.1.1 a b _ ht (show b < n by omega)
    rcases htt with rfl | rfl
    · have q : -128 ≤ h a b ∧ h a b < 128 := this
      unfold zR; omega
    · have q : 0 ≤ h a b ∧ h a b < 2 := this
      unfold zR; omega
  have hk := k p l e R s m args below meth c Qm G0 T0 C G H locs la hX hP hS hl hls (zok_c hok hst)
  rw [List.map_cons, List.map_cons, zc_pos (by omega), Int.toNat_natCast]
  rcases htt with rfl | rfl
  · rw [zE_i (Or.inl rfl)] at hw
    refine va_bald C.1 C.2.1 (C.K hX).1 hP.1 a 0 hw rfl hin hd ?_
    rw [hcl, Int.toNat_natCast]
    exact hk
  · rw [zE_i (Or.inr (Or.inr rfl))] at hw
    refine va_zald C.1 C.2.1 (C.K hX).1 hP.1 a 3 hw rfl hin hd ?_
    rw [hcl, Int.toNat_natCast]
    exact hk
theorem zS_laload {n : Nat} {kk j : Int} (hd : decode M.2.1 pc = .ok (.laload, 1)) (ht : zAt T kk (22, n)) (h0 : 0 ≤ j) (h1 : j < n) (k : zS M r (pc + 1) ls (zJ (h kk j) :: st) T h Q) : zS M r pc ls (zI j :: zA kk :: st) T h Q := by
  intro p l e R s m args below meth c Qm G0 T0 C G H locs la hX hP hS hl hls hst
  obtain ⟨hk0, ht⟩ := ht
  obtain ⟨a, rfl⟩ := Int.eq_ofNat_of_zero_le hk0
  obtain ⟨b, rfl⟩ := Int.eq_ofNat_of_zero_le h0
  simp only [Int.toNat_natCast] at ht
  obtain ⟨hj, hst⟩ := zst_in hst
  obtain ⟨hin, hcl⟩ := zI_idx hj h0 h1
  have hw := zw_at (G := G) (h := h) ht
  rw [zE_l] at hw
  rw [List.map_cons, List.map_cons, zc_pos (by omega), Int.toNat_natCast]
  refine va_lald C.1 C.2.1 (C.K hX).1 hP.1 a 2 hw rfl hin hd ?_
  rw [hcl, Int.toNat_natCast]
  exact k p l e R s m args below meth c Qm G0 T0 C G H locs la hX hP hS hl hls (zok_c (hP.2.2.1.1 a b _ ht (show b < n by omega)) hst)
theorem zaldq {p : Program} {l : Launch} {e : Env} {R : Room} {s : State} {m : MethodId} {args : Array Value} {below : List Frame} {meth : Method} {c : Code} {H : Heap} {locs : List Loc} {cells slots : Nat} {Q : State → Prop} {cc : ByteArray} {pc : Nat} {ls : Array Slot} {rest : List Value} {D : va_G} {cl : List vw_C} {a : Nat} {tys : List (ClassId × FieldType)} {ws : va_W}
    (hexec : p.tables.exec = Jvm.exec) (hb : c.code = cc) (hK : va_K D cl tys s) (hP : va_P D cl ws H) (q0 t0 : Nat) {cA : ClassId} {ty : FieldType} {n : Nat} {f : Nat → Option Nat} (ha : ws[q0]? = some (a, .inl (cA, n, .inr (.inr (.inr (.inr f)))))) (ht : tys[t0]? = some (cA, ty)) (hty : ty.isReference = true) {i : Int32} (hin : vp_in i n) (hdg : decode cc pc = .ok (.aaload, 1))
    (kk : W p l e R s m args below meth c H locs cells slots Q (F0 m (pc + 1) ls (va_rf (f i.toNatClampNeg) :: rest))) : W p l e R s m args below meth c H locs cells slots Q (F0 m pc ls (.int i :: .ref a :: rest)) := by
  have hlt : i.toNatClampNeg < n := Nat.not_le.mp fun q => hin (Or.inr q)
  exact W.aald (v := va_rf (f i.toNatClampNeg)) (ty := ty) hexec hb (hP q0 _ ha) ((hK.2 t0 _ ht).1 n (fun j => va_rf (f j))) hty (fun q => by cases q) (by show ¬ (i < 0 ∨ (arrV _ _ _).slots.size ≤ _); rw [arrV_size]; exact hin) (by show (arrV _ _ _).slots[_]? = _; rw [arrV_read _ _ hlt]) rfl rfl hdg kk
theorem zc_rf {G : zG} {x : Int} : zc G (2, x) = va_rf (if x < 0 then none else some (G.2 x.toNat)) := by
  by_cases q : x < 0
  · rw [if_pos q]; exact if_pos q
  · rw [if_neg q]; exact if_neg q
theorem zS_aaload {n : Nat} {t : Nat} {kk j : Int} (hd : decode M.2.1 pc = .ok (.aaload, 1)) (htt : t = 24 ∨ t = 25 ∨ t = 26) (ht : zAt T kk (t, n)) (h0 : 0 ≤ j) (h1 : j < n) (k : zS M r (pc + 1) ls (zA (h kk j) :: st) T h Q) : zS M r pc ls (zI j :: zA kk :: st) T h Q := by
  intro p l e R s m args below meth c Qm G0 T0 C G H locs la hX hP hS hl hls hst
  obtain ⟨hk0, ht⟩ := ht
  obtain ⟨a, rfl⟩ := Int.eq_ofNat_of_zero_le hk0
  obtain ⟨b, rfl⟩ := Int.eq_ofNat_of_zero_le h0
  simp only [Int.toNat_natCast] at ht
  obtain ⟨hj, hst⟩ := zst_in hst
  obtain ⟨hin, hcl⟩ := zI_idx hj h0 h1
  have hw := zw_at (G := G) (h := h) ht
  rw [zE_q htt] at hw
  have hok : zok T (zA (h a b)) := by
    have := hP.2.2.1.1 a b _ ht (show b < n by omega)
    rcases htt with rfl | rfl | rfl <;> exact this
  have hk := k p l e R s m args below meth c Qm G0 T0 C G H locs la hX hP hS hl hls (zok_c hok hst)
  rw [List.map_cons, zc_rf] at hk
  rw [List.map_cons, List.map_cons, zc_pos (by omega), Int.toNat_natCast]
  rcases htt with rfl | rfl | rfl
  · refine zaldq C.1 C.2.1 (C.K hX).1 hP.1 a 4 hw rfl rfl hin hd ?_
    rw [hcl, Int.toNat_natCast]
    exact hk
  · refine zaldq C.1 C.2.1 (C.K hX).1 hP.1 a 5 hw rfl rfl hin hd ?_
    rw [hcl, Int.toNat_natCast]
    exact hk
  · refine zaldq C.1 C.2.1 (C.K hX).1 hP.1 a 6 hw rfl rfl hin hd ?_
    rw [hcl, Int.toNat_natCast]
    exact hk
/-- an array of references, once all is made -/
theorem zS_aaloadR {n t i a : Nat} {kk j b sd : Int} (hd : decode M.2.1 pc = .ok (.aaload, 1)) (htt : t = 24 ∨ t = 25 ∨ t = 26) (ht : zAt T kk (t, n)) (hT : T.2 = true) (ha : (a : Int) = kk) (hy : zRa[i]? = some (a, n, b, sd)) (h0 : 0 ≤ j) (h1 : j < n) (k : zS M r (pc + 1) ls (zA (b + sd * j) :: st) T h Q) : zS M r pc ls (zI j :: zA kk :: st) T h Q := by
  intro p l e R s m args below meth c Qm G0 T0 C G H locs la hX hP hS hl hls hst
  have e9 : h kk j = b + sd * j := by
    have := (hP.2.2.1.2 hT).2.2 _ (List.mem_of_getElem? hy) j.toNat (show j.toNat < n by omega)
    rw [Int.toNat_of_nonneg h0] at this
    rw [← ha]
    exact this
  refine zS_aaload hd htt ht h0 h1 ?_ p l e R s m args below meth c Qm G0 T0 C G H locs la hX hP hS hl hls hst
  rw [e9]
  exact k
theorem zS_aaload1 {n t i a : Nat} {kk j b : Int} (hd : decode M.2.1 pc = .ok (.aaload, 1)) (htt : t = 24 ∨ t = 25 ∨ t = 26) (ht : zAt T kk (t, n)) (hT : T.2 = true) (ha : (a : Int) = kk) (hy : zRa[i]? = some (a, n, b, 1)) (h0 : 0 ≤ j) (h1 : j < n) (k : zS M r (pc + 1) ls (zA (b + j) :: st) T h Q) : zS M r pc ls (zI j :: zA kk :: st) T h Q :=
  zS_aaloadR hd htt ht hT ha hy h0 h1 (by rw [Int.one_mul]; exact k)
theorem zS_iastore {n : Nat} {kk j v : Int} (hd : decode M.2.1 pc = .ok (.iastore, 1)) (ht : zAt T kk (21, n)) (h0 : 0 ≤ j) (h1 : j < n) (k : zS M r (pc + 1) ls st T (zset h kk j v) Q) : zS M r pc ls (zI v :: zI j :: zA kk :: st) T h Q := by
  intro p l e R s m args below meth c Qm G0 T0 C G H locs la hX hP hS hl hls hst
  obtain ⟨hk0, ht⟩ := ht
  obtain ⟨a, rfl⟩ := Int.eq_ofNat_of_zero_le hk0
  obtain ⟨b, rfl⟩ := Int.eq_ofNat_of_zero_le h0
  simp only [Int.toNat_natCast] at ht
  obtain ⟨hv, hst⟩ := List.forall_mem_cons.mp hst
  obtain ⟨hj, hst⟩ := zst_in hst
  obtain ⟨hin, hcl⟩ := zI_idx hj h0 h1
  have hw := zw_at (G := G) (h := h) ht
  rw [zE_i (Or.inr (Or.inl rfl))] at hw
  rw [List.map_cons, List.map_cons, List.map_cons, zc_pos (by omega), Int.toNat_natCast]
  refine va_iast C.1 C.2.1 (C.K hX).1 hP.1 hP.2.1 hS a 1 hw rfl hin hd (fun H1 locs1 hP1 hD1 hS1 => ?_)
  rw [hcl, Int.toNat_natCast, zast_i (Or.inr (Or.inl rfl)) ht] at hP1 hD1
  exact k p l e R s m args below meth c Qm G0 T0 C G H1 locs1 la hX ⟨hP1, hD1, zokh_set hP.2.2.1 ht hv (fun _ => Or.inr ⟨Nat.le_of_ble_eq_true rfl, Nat.le_of_ble_eq_true rfl⟩), hP.2.2.2.set⟩ hS1 hl hls hst
theorem znar8 {v : Int} (h : -128 ≤ v ∧ v < 128) : vp_nar .byte (Int32.ofInt v) = Int32.ofInt v := by
  rw [vp_nar_byte]
  apply Int32.toInt_inj.mp
  have e : (Int32.ofInt v).toInt = v := zI_toInt (by unfold zR; omega)
  rw [Int8.toInt_toInt32, Int32.toInt_toInt8, e, Int.bmod_eq_of_le] <;> omega
theorem zS_bastore {n : Nat} {t : Nat} {kk j v : Int} (hd : decode M.2.1 pc = .ok (.bastore, 1)) (htt : (t = 20 ∧ -128 ≤ v ∧ v < 128) ∨ (t = 23 ∧ (v = 0 ∨ v = 1))) (ht : zAt T kk (t, n)) (h0 : 0 ≤ j) (h1 : j < n) (k : zS M r (pc + 1) ls st T (zset h kk j v) Q) : zS M r pc ls (zI v :: zI j :: zA kk :: st) T h Q := by
  intro p l e R s m args below meth c Qm G0 T0 C G H locs la hX hP hS hl hls hst
  obtain ⟨hk0, ht⟩ := ht
  obtain ⟨a, rfl⟩ := Int.eq_ofNat_of_zero_le hk0
  obtain ⟨b, rfl⟩ := Int.eq_ofNat_of_zero_le h0
  simp only [Int.toNat_natCast] at ht
  obtain ⟨hv, hst⟩ := List.forall_mem_cons.mp hst
  obtain ⟨hj, hst⟩ := zst_in hst
  obtain ⟨hin, hcl⟩ := zI_idx hj h0 h1
  have hw := zw_at (G := G) (h := h) ht
  rw [List.map_cons, List.map_cons, List.map_cons, zc_pos (by omega), Int.toNat_natCast]
  rcases htt with ⟨rfl, hb⟩ | ⟨rfl, hb⟩
  · rw [zE_i (Or.inl rfl)] at hw
    refine va_bast C.1 C.2.1 (C.K hX).1 hP.1 hP.2.1 hS a 0 hw rfl hin hd (fun H1 locs1 hP1 hD1 hS1 => ?_)
    rw [hcl, Int.toNat_natCast, znar8 hb, zast_i (Or.inl rfl) ht] at hP1 hD1
    exact k p l e R s m args below meth c Qm G0 T0 C G H1 locs1 la hX ⟨hP1, hD1, zokh_set hP.2.2.1 ht hb (fun _ => Or.inr ⟨Nat.le_of_ble_eq_true rfl, Nat.le_of_ble_eq_true rfl⟩), hP.2.2.2.set⟩ hS1 hl hls hst
  · rw [zE_i (Or.inr (Or.inr rfl))] at hw
    refine va_zast C.1 C.2.1 (C.K hX).1 hP.1 hP.2.1 hS a 3 hw rfl hin hd (fun H1 locs1 hP1 hD1 hS1 => ?_)
    have hz : vp_nar .boolean (Int32.ofInt v) = Int32.ofInt v := by rcases hb with rfl | rfl <;> rfl
    rw [hcl, Int.toNat_natCast, hz, zast_i (Or.inr (Or.inr rfl)) ht] at hP1 hD1
    exact k p l e R s m args below meth c Qm G0 T0 C G H1 locs1 la hX ⟨hP1, hD1, zokh_set hP.2.2.1 ht (show 0 ≤ v ∧ v < 2 by omega) (fun _ => Or.inr ⟨Nat.le_of_ble_eq_true rfl, Nat.le_of_ble_eq_true rfl⟩), hP.2.2.2.set⟩ hS1 hl hls hst
theorem zS_lastore {n : Nat} {kk j v : Int} (hd : decode M.2.1 pc = .ok (.lastore, 1)) (ht : zAt T kk (22, n)) (h0 : 0 ≤ j) (h1 : j < n) (k : zS M r (pc + 1) ls st T (zset h kk j v) Q) : zS M r pc ls (zJ v :: zI j :: zA kk :: st) T h Q := by
  intro p l e R s m args below meth c Qm G0 T0 C G H locs la hX hP hS hl hls hst
  obtain ⟨hk0, ht⟩ := ht
  obtain ⟨a, rfl⟩ := Int.eq_ofNat_of_zero_le hk0
  obtain ⟨b, rfl⟩ := Int.eq_ofNat_of_zero_le h0
  simp only [Int.toNat_natCast] at ht
  obtain ⟨hv, hst⟩ := List.forall_mem_cons.mp hst
  obtain ⟨hj, hst⟩ := zst_in hst
  obtain ⟨hin, hcl⟩ := zI_idx hj h0 h1
  have hw := zw_at (G := G) (h := h) ht
  rw [zE_l] at hw
  rw [List.map_cons, List.map_cons, List.map_cons, zc_pos (by omega), Int.toNat_natCast]
  refine va_last C.1 C.2.1 (C.K hX).1 hP.1 hP.2.1 hS a 2 hw rfl hin hd (fun H1 locs1 hP1 hD1 hS1 => ?_)
  rw [hcl, Int.toNat_natCast, zast_l ht] at hP1 hD1
  exact k p l e R s m args below meth c Qm G0 T0 C G H1 locs1 la hX ⟨hP1, hD1, zokh_set hP.2.2.1 ht hv (fun _ => Or.inr ⟨Nat.le_of_ble_eq_true rfl, Nat.le_of_ble_eq_true rfl⟩), hP.2.2.2.set⟩ hS1 hl hls hst
theorem zAt_row (b n : Nat) (t : Nat × Nat) (hall : (List.range n).all (fun i => TTl[b + i]? == some t) = true) {j : Int} (h0 : 0 ≤ j) (h1 : j < n) : zAt TT ((b : Int) + j) t := by
  refine ⟨by omega, ?_⟩
  have := List.all_eq_true.mp hall j.toNat (List.mem_range.mpr (by omega))
  have e : ((b : Int) + j).toNat = b + j.toNat := by omega
  rw [e]
  simpa using this
end Arr
/-! contracts and calls -/
def zcat (v : zV) : Nat := if v.1 = 1 then 2 else 1
theorem zcat_le {G : zG} {st : List zV} (h : (st.map zcat).sum ≤ 8) : ((st.map (zc G)).map fun v => v.category).sum ≤ 8 := by
  rw [List.map_map]
  refine Nat.le_trans (Nat.le_of_eq ?_) h
  congr 1
  apply List.map_congr_left
  intro v _
  unfold zcat Function.comp
  split
  · obtain ⟨t, x⟩ := v
    rename_i q
    dsimp only at q
    subst q
    rfl
  · rename_i q
    exact zc_cat q
theorem zPc_blind {G : zG} {av : List zV} {T : zT} {h : zH} : FrameBlind (zPc G av T h) := fun a U g mk q => by
  obtain ⟨q0, q1, q2, q3⟩ := q
  exact ⟨q0, zK.calling q1, q2, q3⟩
/-- a method that may be called: its words, its number of parameters -/
def zLm (M : zM) (n : Nat) : Prop := Cond.code M.1 M.2.1 M.2.2.1 M.2.2.2 ∈ lwg ∧ Cond.initialized M.1.cls ∈ lwg ∧ (M.1.cls ≠ "java/lang/invoke/MethodHandle" ∧ M.1.cls ≠ "java/lang/invoke/VarHandle" ∧ (parseMethodDescriptor M.1.desc).map (fun d => d.parameters.length) = some n) ∧ M.2.2.1 ≤ 45
def zLv (M : zM) (n : Nat) : Prop := zLm M n ∧ Cond.instanceMethod M.1 ∈ lwg ∧ Cond.selects M.1.cls M.1 M.1 ∈ lwg
def zLs (M : zM) (n : Nat) : Prop := zLm M n ∧ Cond.static M.1 ∈ lwg
def zLi (M : zM) (n : Nat) : Prop := zLm M n ∧ Cond.instanceMethod M.1 ∈ lwg ∧ M.1.name = "<init>" ∧ M.2.2.2 = none
theorem zgood {ws : List Cond} (h : ∀ w ∈ ws, w ∈ lwg) : GoodIn lwg ws := fun w hw => lwg_good w (h w hw)
theorem zws_in {M : zM} {n : Nat} (h : zLm M n) : ∀ w ∈ zws M, w ∈ lwg := List.forall_mem_cons.mpr ⟨h.1, fun _ q => q⟩
/-- the script is the same -/
def zSame (h h' : zH) : Prop := h' (-2) 0 = h (-2) 0 ∧ ∀ j : Nat, (j : Int) < h (-2) 0 → h' (-1) j = h (-1) j
theorem zScr.same {G G' : zG} {h h' : zH} (e : G.1 = G'.1) (hs : zScr G h) (hs' : zScr G' h') : zSame h h' := by
  have e1 : gL G = gL G' := by unfold gL; rw [e]
  have e2 : gXs G = gXs G' := by unfold gXs; rw [e]
  refine ⟨by rw [hs.1, hs'.1, e1], fun j hj => ?_⟩
  rw [hs.1] at hj
  have hj : j < gL G := by omega
  obtain ⟨a1, a2⟩ := hs.2 j hj
  obtain ⟨b1, b2⟩ := hs'.2 j (by rw [← e1]; exact hj)
  rw [← e2, ← a2] at b2
  exact (zI_eq b1 a1).mp b2
section Calls
variable {M : zM} {r : zB} {pc : Nat} {ls st : List zV} {T : zT} {h : zH} {Q : Option zV → zT → zH → Prop}
theorem zgo {p : Program} {l : Launch} {e : Env} {R : Room} {s : State} {m : MethodId} {args : Array Value} {below : List Frame} {meth : Method} {c : Code} {Qm : State → Prop} {G0 G : zG} {T0 : zT} {H : Heap} {locs : List Loc} {la : Array Slot} {st0 : List Value} {mc ms : Nat} {a : Array Value} {Q1 : Option zV → zT → zH → Prop}
    (C : zC M r Q p l e R s m args below meth c Qm G0 T0) (hX : zX T0 T G0 G) (hP : zP G T h H) (hS : va_S (zAd G) s.heap H locs) (hl : lv_has la M.2.2.1 (zlv G ls)) (hls : ∀ v ∈ ls, zok T v) (hst : ∀ v ∈ st, zok T v)
    (hr : va_Run p l e R s m args below meth c H locs r.2.1 r.2.2.1 mc ms (F0 m pc la st0) (st.map (zc G)) (zQc G T Q1 a) (zAd G))
    (k : ∀ rv T' h', Q1 rv T' h' → zSame h h' → zS M (r.1, r.2.1 + mc, r.2.2.1 + ms, r.2.2.2.1, r.2.2.2.2) (pc + 3) ls (rv.toList ++ st) T' h' Q) : W p l e R s m args below meth c H locs r.2.1 r.2.2.1 Qm (F0 m pc la st0) := by
  intro Ts hT X
  obtain ⟨v, st₀, t, T', L, h0, X', hL, e1, e2, ⟨⟨rv, T1, h1, G1, hv, hX1, hP1, hok1, hq⟩, hz, hkk⟩, stp⟩ := hr Ts hT X
  have hv' : v = rv.map (zc G1) := by injection hv
  subst hv'
  rw [h0] at hz hkk
  have hS1 : va_S (zAd G) s.heap T'.heap (locs ++ L) := ⟨Nat.le_trans hS.1 (by rw [e1]; exact hz), fun q g1 g2 => by rw [e1, hkk q (Nat.lt_of_lt_of_le g1 hS.1) g2]; exact hS.2.1 q g1 g2, fun q hq => by
      rcases List.mem_append.mp hq with g | g
      · exact hS.2.2 q g
      · exact hL q g⟩
  have C' : zC M (r.1, r.2.1 + mc, r.2.2.1 + ms, r.2.2.2.1, r.2.2.2.2) Q p l e R s m args below meth c Qm G0 T0 := C
  have hW := k rv T1 h1 hq (hP.2.2.2.same hX1.2.1 hP1.2.2.2) p l e R s m args below meth c Qm G0 T0 C' G1 T'.heap (locs ++ L) la (hX.tr hX1) (by rw [e1]; exact hP1) (by rw [← zX_ad hX1]; exact hS1) (by rw [← zX_lv hX1 hls]; exact hl) (fun v hv => zX_ok hX1 (hls v hv)) (fun v hv => by
    rcases List.mem_append.mp hv with g | g
    · exact hok1 v (by simpa using g)
    · exact zX_ok hX1 (hst v g))
  rw [List.map_append, ← zX_map hX1 hst] at hW
  obtain ⟨t2, a1, b1⟩ := hW T' rfl X'
  refine ⟨t2, stp t2 ?_, b1⟩
  have e3 : (rv.map (zc G1)).toList = rv.toList.map (zc G1) := by cases rv <;> rfl
  rw [e3]
  exact a1
theorem zpre {p : Program} {l : Launch} {e : Env} {R : Room} {s : State} {m : MethodId} {args : Array Value} {below : List Frame} {meth : Method} {c : Code} {Qm : State → Prop} {G0 G : zG} {T0 : zT} {H : Heap} {locs : List Loc} {av : List zV}
    (C : zC M r Q p l e R s m args below meth c Qm G0 T0) (hX : zX T0 T G0 G) (hP : zP G T h H) (hS : va_S (zAd G) s.heap H locs) (hav : ∀ v ∈ av, zok T v) : ∀ U : State, U.heap = H → s.WarmedH U.vm → zPc G av T h (av.map (zc G)).toArray U :=
  fun U hU hW => ⟨rfl, (C.K hX).next hS hU hW, by rw [hU]; exact hP, hav⟩
theorem zroom {d d' mx : Nat} {R : Room} {mc ms : Nat} (hd : d' + 1 ≤ d) (hR : d ≤ R.frames ∧ 64 * d ≤ R.locals) (hm : mx ≤ 45) : (zRm d' mc ms).frames + 1 ≤ R.frames ∧ 8 + (mx + 11) + (zRm d' mc ms).locals ≤ R.locals := by
  have e1 : (zRm d' mc ms).frames = d' := rfl
  have e2 : (zRm d' mc ms).locals = 64 * d' := rfl
  rw [e1, e2]
  omega
theorem zS_invokevirtual {ix n d' mc ms ci nf : Nat} {M' : zM} {kk : Int} {As : List zV} {Q1 : Option zV → zT → zH → Prop} (hd : decode M.2.1 pc = .ok (.invokevirtual ix, 3)) (hl1 : Cond.methodLink M.1.cls ix M'.1 ∈ lwg) (hL : zLv M' n) (ht : zAt T kk (ci, nf)) (hci : ci < 20) (hcl : (vwCl[ci]?).map (fun q => q.1) = some M'.1.cls) (hn : As.length = n) (hw : (st.map zcat).sum ≤ 8) (hdd : d' + 1 ≤ r.1)
    (hM : zMet d' mc ms M' (zA kk :: As) T h Q1) (hmc : r.2.1 + mc ≤ r.2.2.2.1 ∧ r.2.2.1 + ms ≤ r.2.2.2.2)
    (k : ∀ rv T' h', Q1 rv T' h' → zSame h h' → zS M (r.1, r.2.1 + mc, r.2.2.1 + ms, r.2.2.2.1, r.2.2.2.2) (pc + 3) ls (rv.toList ++ st) T' h' Q) : zS M r pc ls (As.reverse ++ zA kk :: st) T h Q := by
  intro p l e R s m args below meth c Qm G0 T0 C G H locs la hX hP hS hl hls hst
  obtain ⟨hk0, ht⟩ := ht
  obtain ⟨a, rfl⟩ := Int.eq_ofNat_of_zero_le hk0
  simp only [Int.toNat_natCast] at ht
  have hAs : ∀ v ∈ As, zok T v := fun v hv => hst v (List.mem_append_left _ (List.mem_reverse.mpr hv))
  have hA : ∀ v ∈ zA a :: As, zok T v := List.forall_mem_cons.mpr ⟨hst _ (List.mem_append_right _ List.mem_cons_self), hAs⟩
  have hst : ∀ v ∈ st, zok T v := fun v hv => hst v (List.mem_append_right _ (List.mem_cons_of_mem _ hv))
  have hw9 := zw_at (G := G) (h := h) ht
  rw [zE_obj hci] at hw9
  cases hq : vwCl[ci]? with
  | none => rw [hq] at hcl; cases hcl
  | some q =>
    rw [hq] at hcl
    have hcl : q.1 = M'.1.cls := Option.some.inj hcl
    have hR := C.2.2.2.2.2.2.1
    have hrv := va_recv (C.K hX).1 hP.1 hq hw9
    rw [hcl] at hrv
    refine zgo (Q1 := Q1) (a := (Value.ref (G.2 a) :: As.map (zc G)).toArray) C hX hP hS hl hls hst (va_runV (As := As.map (zc G)) (b := G.2 a) (Ts := lwg) ⟨C.1, C.2.1, C.2.2.1, C.2.2.2.1, C.2.2.2.2.1⟩ (hM l G)
      (cwV n C.2.2.2.2.1 (zgood (fun w hw => by
        rcases List.mem_append.mp hw with g | g
        · simp only [List.mem_cons, List.not_mem_nil, or_false] at g
          rcases g with rfl | rfl | rfl | rfl
          · exact hl1
          · exact hL.2.1
          · exact hL.2.2
          · exact hL.1.2.1
        · exact zws_in hL.1 w g)) rfl rfl rfl ⟨rfl, hL.1.2.2.1⟩ (zroom hdd ⟨hR.1, hR.2.1⟩ hL.1.2.2.2)) ⟨zPc_blind, hrv, fun U hU hW => ?_⟩ rfl (by rw [List.length_map]; exact hn) hl.1 ?_ (lv_room (zcat_le hw)) hd ⟨Nat.le_trans hmc.1 hR.2.2.1, Nat.le_trans hmc.2 hR.2.2.2⟩) k
    · have := zpre C hX hP hS hA U hU hW
      rw [List.map_cons, zc_pos (by omega), Int.toNat_natCast] at this
      exact this
    · show List.map (zc G) (As.reverse ++ zA a :: st) = _
      rw [List.map_append, List.map_cons, List.map_reverse, zc_pos (by omega), Int.toNat_natCast]
theorem zS_invokestatic {ix n d' mc ms : Nat} {M' : zM} {As : List zV} {Q1 : Option zV → zT → zH → Prop} (hd : decode M.2.1 pc = .ok (.invokestatic ix, 3)) (hl1 : Cond.methodLink M.1.cls ix M'.1 ∈ lwg) (hL : zLs M' n) (hn : As.length = n) (hw : (st.map zcat).sum ≤ 8) (hdd : d' + 1 ≤ r.1)
    (hM : zMet d' mc ms M' As T h Q1) (hmc : r.2.1 + mc ≤ r.2.2.2.1 ∧ r.2.2.1 + ms ≤ r.2.2.2.2)
    (k : ∀ rv T' h', Q1 rv T' h' → zSame h h' → zS M (r.1, r.2.1 + mc, r.2.2.1 + ms, r.2.2.2.1, r.2.2.2.2) (pc + 3) ls (rv.toList ++ st) T' h' Q) : zS M r pc ls (As.reverse ++ st) T h Q := by
  intro p l e R s m args below meth c Qm G0 T0 C G H locs la hX hP hS hl hls hst
  have hAs : ∀ v ∈ As, zok T v := fun v hv => hst v (List.mem_append_left _ (List.mem_reverse.mpr hv))
  have hst : ∀ v ∈ st, zok T v := fun v hv => hst v (List.mem_append_right _ hv)
  have hR := C.2.2.2.2.2.2.1
  refine zgo (Q1 := Q1) (a := (As.map (zc G)).toArray) C hX hP hS hl hls hst (va_runS (As := As.map (zc G)) (Ts := lwg) ⟨C.1, C.2.1, C.2.2.1, C.2.2.2.1, C.2.2.2.2.1⟩ (hM l G)
    (va_cwS n C.2.2.2.2.1 (zgood (fun w hw => by
      rcases List.mem_append.mp hw with g | g
      · simp only [List.mem_cons, List.not_mem_nil, or_false] at g
        rcases g with rfl | rfl | rfl
        · exact hl1
        · exact hL.2
        · exact hL.1.2.1
      · exact zws_in hL.1 w g)) rfl rfl rfl hL.1.2.2.1 (zroom hdd ⟨hR.1, hR.2.1⟩ hL.1.2.2.2)) ⟨zPc_blind, fun U hU hW => zpre C hX hP hS hAs U hU hW⟩ rfl (by rw [List.length_map]; exact hn) hl.1 ?_ (lv_room (zcat_le hw)) hd ⟨Nat.le_trans hmc.1 hR.2.2.1, Nat.le_trans hmc.2 hR.2.2.2⟩) k
  show List.map (zc G) (As.reverse ++ st) = _
  rw [List.map_append, List.map_reverse]
/-! returns -/
theorem zS_ret {rv : Option zV} (hrv : zRv M pc rv) (hle : r.2.1 ≤ r.2.2.2.1 ∧ r.2.2.1 ≤ r.2.2.2.2) (hq : Q rv T h) : zS M r pc ls rv.toList T h Q := by
  intro p l e R s m args below meth c Qm G0 T0 C G H locs la hX hP hS hl hls hst
  exact W.widen hle.1 hle.2 (C.2.2.2.2.2.2.2.2 G T h H locs la pc rv hX hP hS (fun v hv => hst v (by simpa using hv)) hrv hq)
theorem zS_ireturn {x : Int} (hd : decode M.2.1 pc = .ok (.ireturn, 1)) (hty : M.2.2.2 = some .int) (hle : r.2.1 ≤ r.2.2.2.1 ∧ r.2.2.1 ≤ r.2.2.2.2) (hq : Q (some (zI x)) T h) : zS M r pc ls [zI x] T h Q :=
  zS_ret (rv := some (zI x)) ⟨⟨.int, hty, rfl⟩, hd⟩ hle hq
theorem zS_zreturn {x : Int} (hd : decode M.2.1 pc = .ok (.ireturn, 1)) (hty : M.2.2.2 = some .boolean) (hx : x = 0 ∨ x = 1) (hle : r.2.1 ≤ r.2.2.2.1 ∧ r.2.2.1 ≤ r.2.2.2.2) (hq : Q (some (zI x)) T h) : zS M r pc ls [zI x] T h Q :=
  zS_ret (rv := some (zI x)) ⟨⟨.boolean, hty, by rcases hx with rfl | rfl <;> rfl⟩, hd⟩ hle hq
theorem zS_lreturn {x : Int} (hd : decode M.2.1 pc = .ok (.lreturn, 1)) (hty : M.2.2.2 = some .long) (hle : r.2.1 ≤ r.2.2.2.1 ∧ r.2.2.1 ≤ r.2.2.2.2) (hq : Q (some (zJ x)) T h) : zS M r pc ls [zJ x] T h Q :=
  zS_ret (rv := some (zJ x)) ⟨hty, hd⟩ hle hq
theorem zS_areturn {x : Int} {n : String} (hd : decode M.2.1 pc = .ok (.areturn, 1)) (hty : M.2.2.2 = some (.object n)) (hx : 0 ≤ x) (hle : r.2.1 ≤ r.2.2.2.1 ∧ r.2.2.1 ≤ r.2.2.2.2) (hq : Q (some (zA x)) T h) : zS M r pc ls [zA x] T h Q :=
  zS_ret (rv := some (zA x)) ⟨hx, ⟨n, hty⟩, hd⟩ hle hq
theorem zS_return (hd : decode M.2.1 pc = .ok (.return_, 1)) (hty : M.2.2.2 = none) (hle : r.2.1 ≤ r.2.2.2.1 ∧ r.2.2.1 ≤ r.2.2.2.2) (hq : Q none T h) : zS M r pc ls [] T h Q :=
  zS_ret (rv := none) ⟨hty, hd⟩ hle hq
end Calls
/-! a contract out of a walk -/
def zlay : List zV → List zV
  | [] => []
  | v :: l => if v.1 = 1 then v :: zN :: zlay l else v :: zlay l
theorem zlay_len {G : zG} : ∀ av : List zV, (lg_sl (av.map (zc G))).length = (zlay av).length
  | [] => rfl
  | v :: l => by
    have ih := zlay_len (G := G) l
    unfold lg_sl at ih ⊢
    rw [List.map_cons, List.flatMap_cons, List.length_append, ih]
    show _ = (if v.1 = 1 then v :: zN :: zlay l else v :: zlay l).length
    by_cases hv : v.1 = 1
    · obtain ⟨t, x⟩ := v
      dsimp only at hv
      subst hv
      rw [if_pos (zc_cat2), if_pos rfl]
      simp
      omega
    · rw [if_neg (by rw [zc_cat hv]; decide), if_neg hv]
      simp
      omega
theorem zlay_at {G : zG} : ∀ (av : List zV) (o k : Nat) (v : zV), (zlay av)[k]? = some v → v.1 ≠ 3 → (o + k, zc G v) ∈ lv_args o (av.map (zc G))
  | [], o, k, v, h, _ => by cases h
  | u :: l, o, k, v, h, hv => by
    rw [List.map_cons]
    unfold lv_args
    unfold zlay at h
    by_cases hu : u.1 = 1
    · rw [if_pos hu] at h
      have hc : (zc G u).category = 2 := by
        obtain ⟨t, x⟩ := u
        dsimp only at hu
        subst hu
        rfl
      match k, h with
      | 0, h => cases h; simp
      | 1, h => cases h; exact absurd rfl hv
      | k + 2, h =>
        have := zlay_at (G := G) l (o + 2) k v h hv
        rw [hc]
        refine List.mem_cons_of_mem _ ?_
        have e : o + (k + 2) = o + 2 + k := by omega
        rw [e]
        exact this
    · rw [if_neg hu] at h
      have hc : (zc G u).category = 1 := zc_cat hu
      match k, h with
      | 0, h => cases h; simp
      | k + 1, h =>
        have := zlay_at (G := G) l (o + 1) k v h hv
        rw [hc]
        refine List.mem_cons_of_mem _ ?_
        have e : o + (k + 1) = o + 1 + k := by omega
        rw [e]
        exact this
theorem zMet.of {d mc ms : Nat} {M : zM} {av : List zV} {T : zT} {h : zH} {Q : Option zV → zT → zH → Prop} {ls : List zV} (hp : plainName M.1.cls = true) (he : zlay av ++ List.replicate (M.2.2.1 - (zlay av).length) zN = ls) (hle : (zlay av).length ≤ M.2.2.1)
    (k : zS M (d, 0, 0, mc, ms) 0 ls [] T h Q) : zMet d mc ms M av T h Q := by
  intro l G
  refine Met.ofW (cc := M.2.1) (maxL := M.2.2.1) (ret := M.2.2.2) hp rfl ?_
  intro p e s m args below meth c s₁ B hml hv
  obtain ⟨rfl, hK, hP, hok⟩ := hv
  have hts := atoms_spec (ws := zws M) B.pre
  have hl := lv_entry (av.map (zc G)) (n := M.2.2.1) (by rw [zlay_len]; exact hle)
  rw [lg_entry_eq]
  generalize (lg_sl (av.map (zc G)) ++ List.replicate (M.2.2.1 - (lg_sl (av.map (zc G))).length) Slot.unset).toArray = la at hl ⊢
  have hla : lv_has la M.2.2.1 (zlv G ls) := by
    refine ⟨hl.1, hl.2.1, fun q hq => ?_⟩
    obtain ⟨v, h1, h2, h3⟩ := zlv_of hq
    obtain ⟨k, w⟩ := q
    dsimp only at h1 h3 ⊢
    subst h3
    rw [← he] at h1
    have h4 : (zlay av)[k]? = some v := by
      by_cases hk : k < (zlay av).length
      · rw [List.getElem?_append_left hk] at h1
        exact h1
      · rw [List.getElem?_append_right (by omega), List.getElem?_replicate] at h1
        split at h1
        · cases h1
          exact absurd rfl h2
        · cases h1
    have := zlay_at (G := G) av 0 k v h4 h2
    rw [Nat.zero_add] at this
    exact hl.2.2 _ this
  have hls : ∀ v ∈ ls, zok T v := by
    have hlay : ∀ (av : List zV), (∀ v ∈ av, zok T v) → ∀ v ∈ zlay av, zok T v := by
      intro av
      induction av with
      | nil => intro _ v hv; cases hv
      | cons u l ih =>
        intro h v hv
        obtain ⟨h1, h2⟩ := List.forall_mem_cons.mp h
        unfold zlay at hv
        split at hv
        · rcases List.mem_cons.mp hv with rfl | hv
          · exact h1
          · rcases List.mem_cons.mp hv with rfl | hv
            · trivial
            · exact ih h2 v hv
        · rcases List.mem_cons.mp hv with rfl | hv
          · exact h1
          · exact ih h2 v hv
    intro v hv
    rw [← he] at hv
    rcases List.mem_append.mp hv with g | g
    · exact hlay av hok v g
    · rw [(List.mem_replicate.mp g).2]
      trivial
  refine k p l e _ s m _ below meth c _ G T ⟨B.exec, B.bytes, hml, findClass_of_methodNamed B.named, fun w hw => hts w (List.mem_cons_of_mem _ hw), (name_of_methodNamed B.named B.method).1, ⟨Nat.le_refl _, Nat.le_refl _, Nat.le_refl _, Nat.le_refl _⟩, hK, ?_⟩ G s.heap [] la zX.rf hP va_S.rf hla hls (fun v hv => by cases hv)
  intro G' T' h' H locs la pc rv hX hP' hS hok' hrv hq
  have hlocks := B.notSynchronized
  have hfin : ∀ t : State, t.heap = H → s.WarmedH t.vm → zQc G T Q (av.map (zc G)).toArray s (.returned (rv.map (zc G'))) t := fun t ht hW => ⟨⟨rv, T', h', G', rfl, hX, by rw [ht]; exact hP', hok', hq⟩, by rw [zX_ad hX]; exact hS.F ht⟩
  have hfree : ∀ q ∈ locs, zAd G q.base := fun q hq => by rw [zX_ad hX]; exact hS.2.2 q hq
  cases rv with
  | none => exact W.vret B.exec B.bytes (B.returns.trans hrv.1) hfin hfree hrv.2
  | some v =>
    obtain ⟨t, x⟩ := v
    match t, hrv, hok', hfin, hq with
    | 0, hrv, hok', hfin, hq =>
      obtain ⟨⟨ty, h1, h2⟩, h3⟩ := hrv
      exact W.zret B.exec B.bytes (B.returns.trans h1) h2 hfin hfree h3
    | 1, hrv, hok', hfin, hq => exact W.lret B.exec B.bytes (B.returns.trans hrv.1) hfin hfree hrv.2
    | 2, hrv, hok', hfin, hq =>
      obtain ⟨h1, ⟨n, h2⟩, h3⟩ := hrv
      exact W.aret B.exec B.bytes (B.returns.trans h2) (Or.inl ⟨n, rfl⟩) (Or.inr ⟨G'.2 x.toNat, zc_pos h1⟩) hfin hfree h3
    | n + 3, hrv, hok', hfin, hq => exact absurd hrv (by unfold zRv; simp)
end
