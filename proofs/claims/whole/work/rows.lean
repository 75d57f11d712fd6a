section
-- ===== PART A: goes FIRST, ahead of the names: the tables' words, and 'selects' of the private methods out of them =====
/-- a private method of a class that the tables say can be made, by its rows of tables_1 -/
def lw_okq (q : MethodName × Nat) : Prop := (q.1.cls ≠ "java/lang/invoke/MethodHandle" ∧ q.1.cls ≠ "java/lang/invoke/VarHandle") ∧ Cond.instantiable q.1.cls q.2 ∈ tables_1 ∧ Cond.privateMethod q.1 ∈ tables_1 ∧ Cond.instanceMethod q.1 ∈ tables_1
theorem lw_p0 : lw_okq (⟨"PredicateProver$Groups", "numberGroups", "()V"⟩, 8) := ⟨⟨by decide +kernel, by decide +kernel⟩, List.mem_of_getElem? (i := 135) (by decide +kernel), List.mem_of_getElem? (i := 141) (by decide +kernel), List.mem_of_getElem? (i := 142) (by decide +kernel)⟩
theorem lw_p1 : lw_okq (⟨"java/lang/Throwable", "fillInStackTrace", "(I)Ljava/lang/Throwable;"⟩, 6) := ⟨⟨by decide +kernel, by decide +kernel⟩, List.mem_of_getElem? (i := 190) (by decide +kernel), List.mem_of_getElem? (i := 188) (by decide +kernel), List.mem_of_getElem? (i := 189) (by decide +kernel)⟩
theorem lw_p2 : lw_okq (⟨"PredicateProver$Groups", "placeStates", "()V"⟩, 8) := ⟨⟨by decide +kernel, by decide +kernel⟩, List.mem_of_getElem? (i := 135) (by decide +kernel), List.mem_of_getElem? (i := 481) (by decide +kernel), List.mem_of_getElem? (i := 482) (by decide +kernel)⟩
theorem lw_p3 : lw_okq (⟨"PredicateProver", "forgetSearch", "()V"⟩, 10) := ⟨⟨by decide +kernel, by decide +kernel⟩, List.mem_of_getElem? (i := 31) (by decide +kernel), List.mem_of_getElem? (i := 714) (by decide +kernel), List.mem_of_getElem? (i := 715) (by decide +kernel)⟩
theorem lw_p4 : lw_okq (⟨"PredicateProver$Parser", "readTerm", "(I)Z"⟩, 3) := ⟨⟨by decide +kernel, by decide +kernel⟩, List.mem_of_getElem? (i := 584) (by decide +kernel), List.mem_of_getElem? (i := 772) (by decide +kernel), List.mem_of_getElem? (i := 773) (by decide +kernel)⟩
theorem lw_p5 : lw_okq (⟨"PredicateProver$Parser", "passTerm", "(I)Z"⟩, 3) := ⟨⟨by decide +kernel, by decide +kernel⟩, List.mem_of_getElem? (i := 584) (by decide +kernel), List.mem_of_getElem? (i := 780) (by decide +kernel), List.mem_of_getElem? (i := 781) (by decide +kernel)⟩
theorem lw_p6 : lw_okq (⟨"PredicateProver$Parser", "passPart", "(I)Z"⟩, 3) := ⟨⟨by decide +kernel, by decide +kernel⟩, List.mem_of_getElem? (i := 584) (by decide +kernel), List.mem_of_getElem? (i := 784) (by decide +kernel), List.mem_of_getElem? (i := 785) (by decide +kernel)⟩
theorem lw_p7 : lw_okq (⟨"PredicateProver$Program", "targetOf", "(IILPredicateProver$Formula;)I"⟩, 7) := ⟨⟨by decide +kernel, by decide +kernel⟩, List.mem_of_getElem? (i := 98) (by decide +kernel), List.mem_of_getElem? (i := 833) (by decide +kernel), List.mem_of_getElem? (i := 834) (by decide +kernel)⟩
theorem lw_p8 : lw_okq (⟨"PredicateProver", "makeRound", "()I"⟩, 10) := ⟨⟨by decide +kernel, by decide +kernel⟩, List.mem_of_getElem? (i := 31) (by decide +kernel), List.mem_of_getElem? (i := 885) (by decide +kernel), List.mem_of_getElem? (i := 886) (by decide +kernel)⟩
theorem lw_p9 : lw_okq (⟨"PredicateProver$Search", "addNode", "(IIII)V"⟩, 15) := ⟨⟨by decide +kernel, by decide +kernel⟩, List.mem_of_getElem? (i := 520) (by decide +kernel), List.mem_of_getElem? (i := 897) (by decide +kernel), List.mem_of_getElem? (i := 898) (by decide +kernel)⟩
theorem lw_p10 : lw_okq (⟨"PredicateProver$Search", "take", "(II)Z"⟩, 15) := ⟨⟨by decide +kernel, by decide +kernel⟩, List.mem_of_getElem? (i := 520) (by decide +kernel), List.mem_of_getElem? (i := 905) (by decide +kernel), List.mem_of_getElem? (i := 906) (by decide +kernel)⟩
theorem lw_p11 : lw_okq (⟨"PredicateProver$Search", "markReached", "(II)V"⟩, 15) := ⟨⟨by decide +kernel, by decide +kernel⟩, List.mem_of_getElem? (i := 520) (by decide +kernel), List.mem_of_getElem? (i := 909) (by decide +kernel), List.mem_of_getElem? (i := 910) (by decide +kernel)⟩
theorem lw_p12 : lw_okq (⟨"PredicateProver$Search", "tracePath", "(I)V"⟩, 15) := ⟨⟨by decide +kernel, by decide +kernel⟩, List.mem_of_getElem? (i := 520) (by decide +kernel), List.mem_of_getElem? (i := 924) (by decide +kernel), List.mem_of_getElem? (i := 925) (by decide +kernel)⟩
theorem lw_p13 : lw_okq (⟨"PredicateProver$Replay", "openBefore", "(I)V"⟩, 6) := ⟨⟨by decide +kernel, by decide +kernel⟩, List.mem_of_getElem? (i := 600) (by decide +kernel), List.mem_of_getElem? (i := 936) (by decide +kernel), List.mem_of_getElem? (i := 937) (by decide +kernel)⟩
theorem lw_p14 : lw_okq (⟨"PredicateProver$Replay", "leastInput", "(II)I"⟩, 6) := ⟨⟨by decide +kernel, by decide +kernel⟩, List.mem_of_getElem? (i := 600) (by decide +kernel), List.mem_of_getElem? (i := 940) (by decide +kernel), List.mem_of_getElem? (i := 941) (by decide +kernel)⟩
theorem lw_p15 : lw_okq (⟨"PredicateProver$Replay", "isOpen", "(II)Z"⟩, 6) := ⟨⟨by decide +kernel, by decide +kernel⟩, List.mem_of_getElem? (i := 600) (by decide +kernel), List.mem_of_getElem? (i := 946) (by decide +kernel), List.mem_of_getElem? (i := 947) (by decide +kernel)⟩
def lw_privs_1 : List (MethodName × Nat) := [(⟨"PredicateProver$Groups", "numberGroups", "()V"⟩, 8), (⟨"java/lang/Throwable", "fillInStackTrace", "(I)Ljava/lang/Throwable;"⟩, 6), (⟨"PredicateProver$Groups", "placeStates", "()V"⟩, 8), (⟨"PredicateProver", "forgetSearch", "()V"⟩, 10), (⟨"PredicateProver$Parser", "readTerm", "(I)Z"⟩, 3), (⟨"PredicateProver$Parser", "passTerm", "(I)Z"⟩, 3), (⟨"PredicateProver$Parser", "passPart", "(I)Z"⟩, 3), (⟨"PredicateProver$Program", "targetOf", "(IILPredicateProver$Formula;)I"⟩, 7), (⟨"PredicateProver", "makeRound", "()I"⟩, 10), (⟨"PredicateProver$Search", "addNode", "(IIII)V"⟩, 15), (⟨"PredicateProver$Search", "take", "(II)Z"⟩, 15), (⟨"PredicateProver$Search", "markReached", "(II)V"⟩, 15), (⟨"PredicateProver$Search", "tracePath", "(I)V"⟩, 15), (⟨"PredicateProver$Replay", "openBefore", "(I)V"⟩, 6), (⟨"PredicateProver$Replay", "leastInput", "(II)I"⟩, 6), (⟨"PredicateProver$Replay", "isOpen", "(II)Z"⟩, 6)]
theorem lw_r1 : ∀ q ∈ lw_privs_1, lw_okq q := List.forall_mem_cons.mpr ⟨lw_p0, List.forall_mem_cons.mpr ⟨lw_p1, List.forall_mem_cons.mpr ⟨lw_p2, List.forall_mem_cons.mpr ⟨lw_p3, List.forall_mem_cons.mpr ⟨lw_p4, List.forall_mem_cons.mpr ⟨lw_p5, List.forall_mem_cons.mpr ⟨lw_p6, List.forall_mem_cons.mpr ⟨lw_p7, List.forall_mem_cons.mpr ⟨lw_p8, List.forall_mem_cons.mpr ⟨lw_p9, List.forall_mem_cons.mpr ⟨lw_p10, List.forall_mem_cons.mpr ⟨lw_p11, List.forall_mem_cons.mpr ⟨lw_p12, List.forall_mem_cons.mpr ⟨lw_p13, List.forall_mem_cons.mpr ⟨lw_p14, List.forall_mem_cons.mpr ⟨lw_p15, fun _ h => absurd h List.not_mem_nil⟩⟩⟩⟩⟩⟩⟩⟩⟩⟩⟩⟩⟩⟩⟩⟩
theorem lw_p16 : lw_okq (⟨"PredicateProver$Replay", "collectInputs", "()V"⟩, 6) := ⟨⟨by decide +kernel, by decide +kernel⟩, List.mem_of_getElem? (i := 600) (by decide +kernel), List.mem_of_getElem? (i := 950) (by decide +kernel), List.mem_of_getElem? (i := 951) (by decide +kernel)⟩
theorem lw_p17 : lw_okq (⟨"PredicateProver$Refiner", "passEdge", "(I)V"⟩, 7) := ⟨⟨by decide +kernel, by decide +kernel⟩, List.mem_of_getElem? (i := 630) (by decide +kernel), List.mem_of_getElem? (i := 958) (by decide +kernel), List.mem_of_getElem? (i := 959) (by decide +kernel)⟩
theorem lw_p18 : lw_okq (⟨"PredicateProver$Refiner", "takeAlong", "([I)V"⟩, 7) := ⟨⟨by decide +kernel, by decide +kernel⟩, List.mem_of_getElem? (i := 630) (by decide +kernel), List.mem_of_getElem? (i := 962) (by decide +kernel), List.mem_of_getElem? (i := 963) (by decide +kernel)⟩
theorem lw_p19 : lw_okq (⟨"PredicateProver$Refiner", "rowsInUse", "()I"⟩, 7) := ⟨⟨by decide +kernel, by decide +kernel⟩, List.mem_of_getElem? (i := 630) (by decide +kernel), List.mem_of_getElem? (i := 967) (by decide +kernel), List.mem_of_getElem? (i := 968) (by decide +kernel)⟩
theorem lw_p20 : lw_okq (⟨"PredicateProver$Refiner", "pullBack", "([J[I)V"⟩, 7) := ⟨⟨by decide +kernel, by decide +kernel⟩, List.mem_of_getElem? (i := 630) (by decide +kernel), List.mem_of_getElem? (i := 971) (by decide +kernel), List.mem_of_getElem? (i := 972) (by decide +kernel)⟩
theorem lw_p21 : lw_okq (⟨"PredicateProver$Refiner", "leaveBehind", "([J[I)V"⟩, 7) := ⟨⟨by decide +kernel, by decide +kernel⟩, List.mem_of_getElem? (i := 630) (by decide +kernel), List.mem_of_getElem? (i := 976) (by decide +kernel), List.mem_of_getElem? (i := 977) (by decide +kernel)⟩
theorem lw_p22 : lw_okq (⟨"PredicateProver$Refiner", "adoptTaken", "()Z"⟩, 7) := ⟨⟨by decide +kernel, by decide +kernel⟩, List.mem_of_getElem? (i := 630) (by decide +kernel), List.mem_of_getElem? (i := 981) (by decide +kernel), List.mem_of_getElem? (i := 982) (by decide +kernel)⟩
theorem lw_p23 : lw_okq (⟨"PredicateProver$Refiner", "adopt", "([JI)V"⟩, 7) := ⟨⟨by decide +kernel, by decide +kernel⟩, List.mem_of_getElem? (i := 630) (by decide +kernel), List.mem_of_getElem? (i := 990) (by decide +kernel), List.mem_of_getElem? (i := 991) (by decide +kernel)⟩
theorem lw_p24 : lw_okq (⟨"PredicateProver$Refiner", "adoptVariableBit", "()Z"⟩, 7) := ⟨⟨by decide +kernel, by decide +kernel⟩, List.mem_of_getElem? (i := 630) (by decide +kernel), List.mem_of_getElem? (i := 996) (by decide +kernel), List.mem_of_getElem? (i := 997) (by decide +kernel)⟩
theorem lw_p25 : lw_okq (⟨"PredicateProverModel", "at", "(I)I"⟩, 31) := ⟨⟨by decide +kernel, by decide +kernel⟩, List.mem_of_getElem? (i := 1067) (by decide +kernel), List.mem_of_getElem? (i := 1184) (by decide +kernel), List.mem_of_getElem? (i := 1185) (by decide +kernel)⟩
theorem lw_p26 : lw_okq (⟨"PredicateProverModel", "fail", "(I)I"⟩, 31) := ⟨⟨by decide +kernel, by decide +kernel⟩, List.mem_of_getElem? (i := 1067) (by decide +kernel), List.mem_of_getElem? (i := 1191) (by decide +kernel), List.mem_of_getElem? (i := 1192) (by decide +kernel)⟩
theorem lw_p27 : lw_okq (⟨"PredicateProverModel", "relationAt", "(I)I"⟩, 31) := ⟨⟨by decide +kernel, by decide +kernel⟩, List.mem_of_getElem? (i := 1067) (by decide +kernel), List.mem_of_getElem? (i := 1198) (by decide +kernel), List.mem_of_getElem? (i := 1199) (by decide +kernel)⟩
theorem lw_p28 : lw_okq (⟨"PredicateProverModel", "termEnd", "(I)I"⟩, 31) := ⟨⟨by decide +kernel, by decide +kernel⟩, List.mem_of_getElem? (i := 1067) (by decide +kernel), List.mem_of_getElem? (i := 1202) (by decide +kernel), List.mem_of_getElem? (i := 1203) (by decide +kernel)⟩
theorem lw_p29 : lw_okq (⟨"PredicateProverModel", "worked", "(III)I"⟩, 31) := ⟨⟨by decide +kernel, by decide +kernel⟩, List.mem_of_getElem? (i := 1067) (by decide +kernel), List.mem_of_getElem? (i := 1212) (by decide +kernel), List.mem_of_getElem? (i := 1213) (by decide +kernel)⟩
theorem lw_p30 : lw_okq (⟨"PredicateProverModel", "join", "(II)V"⟩, 31) := ⟨⟨by decide +kernel, by decide +kernel⟩, List.mem_of_getElem? (i := 1067) (by decide +kernel), List.mem_of_getElem? (i := 1216) (by decide +kernel), List.mem_of_getElem? (i := 1217) (by decide +kernel)⟩
theorem lw_p31 : lw_okq (⟨"PredicateProverModel", "part", "(II)I"⟩, 31) := ⟨⟨by decide +kernel, by decide +kernel⟩, List.mem_of_getElem? (i := 1067) (by decide +kernel), List.mem_of_getElem? (i := 1220) (by decide +kernel), List.mem_of_getElem? (i := 1221) (by decide +kernel)⟩
def lw_privs_2 : List (MethodName × Nat) := [(⟨"PredicateProver$Replay", "collectInputs", "()V"⟩, 6), (⟨"PredicateProver$Refiner", "passEdge", "(I)V"⟩, 7), (⟨"PredicateProver$Refiner", "takeAlong", "([I)V"⟩, 7), (⟨"PredicateProver$Refiner", "rowsInUse", "()I"⟩, 7), (⟨"PredicateProver$Refiner", "pullBack", "([J[I)V"⟩, 7), (⟨"PredicateProver$Refiner", "leaveBehind", "([J[I)V"⟩, 7), (⟨"PredicateProver$Refiner", "adoptTaken", "()Z"⟩, 7), (⟨"PredicateProver$Refiner", "adopt", "([JI)V"⟩, 7), (⟨"PredicateProver$Refiner", "adoptVariableBit", "()Z"⟩, 7), (⟨"PredicateProverModel", "at", "(I)I"⟩, 31), (⟨"PredicateProverModel", "fail", "(I)I"⟩, 31), (⟨"PredicateProverModel", "relationAt", "(I)I"⟩, 31), (⟨"PredicateProverModel", "termEnd", "(I)I"⟩, 31), (⟨"PredicateProverModel", "worked", "(III)I"⟩, 31), (⟨"PredicateProverModel", "join", "(II)V"⟩, 31), (⟨"PredicateProverModel", "part", "(II)I"⟩, 31)]
theorem lw_r2 : ∀ q ∈ lw_privs_2, lw_okq q := List.forall_mem_cons.mpr ⟨lw_p16, List.forall_mem_cons.mpr ⟨lw_p17, List.forall_mem_cons.mpr ⟨lw_p18, List.forall_mem_cons.mpr ⟨lw_p19, List.forall_mem_cons.mpr ⟨lw_p20, List.forall_mem_cons.mpr ⟨lw_p21, List.forall_mem_cons.mpr ⟨lw_p22, List.forall_mem_cons.mpr ⟨lw_p23, List.forall_mem_cons.mpr ⟨lw_p24, List.forall_mem_cons.mpr ⟨lw_p25, List.forall_mem_cons.mpr ⟨lw_p26, List.forall_mem_cons.mpr ⟨lw_p27, List.forall_mem_cons.mpr ⟨lw_p28, List.forall_mem_cons.mpr ⟨lw_p29, List.forall_mem_cons.mpr ⟨lw_p30, List.forall_mem_cons.mpr ⟨lw_p31, fun _ h => absurd h List.not_mem_nil⟩⟩⟩⟩⟩⟩⟩⟩⟩⟩⟩⟩⟩⟩⟩⟩
theorem lw_p32 : lw_okq (⟨"PredicateProverModel", "valueOf", "(II)I"⟩, 31) := ⟨⟨by decide +kernel, by decide +kernel⟩, List.mem_of_getElem? (i := 1067) (by decide +kernel), List.mem_of_getElem? (i := 1224) (by decide +kernel), List.mem_of_getElem? (i := 1225) (by decide +kernel)⟩
theorem lw_p33 : lw_okq (⟨"PredicateProverModel", "atom", "(III)Z"⟩, 31) := ⟨⟨by decide +kernel, by decide +kernel⟩, List.mem_of_getElem? (i := 1067) (by decide +kernel), List.mem_of_getElem? (i := 1228) (by decide +kernel), List.mem_of_getElem? (i := 1229) (by decide +kernel)⟩
theorem lw_p34 : lw_okq (⟨"PredicateProverModel", "forget", "()V"⟩, 31) := ⟨⟨by decide +kernel, by decide +kernel⟩, List.mem_of_getElem? (i := 1067) (by decide +kernel), List.mem_of_getElem? (i := 1232) (by decide +kernel), List.mem_of_getElem? (i := 1233) (by decide +kernel)⟩
theorem lw_p35 : lw_okq (⟨"PredicateProverModel", "addWork", "()V"⟩, 31) := ⟨⟨by decide +kernel, by decide +kernel⟩, List.mem_of_getElem? (i := 1067) (by decide +kernel), List.mem_of_getElem? (i := 1240) (by decide +kernel), List.mem_of_getElem? (i := 1241) (by decide +kernel)⟩
theorem lw_p36 : lw_okq (⟨"PredicateProverModel", "search", "()V"⟩, 31) := ⟨⟨by decide +kernel, by decide +kernel⟩, List.mem_of_getElem? (i := 1067) (by decide +kernel), List.mem_of_getElem? (i := 1252) (by decide +kernel), List.mem_of_getElem? (i := 1253) (by decide +kernel)⟩
theorem lw_p37 : lw_okq (⟨"PredicateProverModel", "spread", "(II)Z"⟩, 31) := ⟨⟨by decide +kernel, by decide +kernel⟩, List.mem_of_getElem? (i := 1067) (by decide +kernel), List.mem_of_getElem? (i := 1256) (by decide +kernel), List.mem_of_getElem? (i := 1257) (by decide +kernel)⟩
theorem lw_p38 : lw_okq (⟨"PredicateProverModel", "mark", "(II)V"⟩, 31) := ⟨⟨by decide +kernel, by decide +kernel⟩, List.mem_of_getElem? (i := 1067) (by decide +kernel), List.mem_of_getElem? (i := 1260) (by decide +kernel), List.mem_of_getElem? (i := 1261) (by decide +kernel)⟩
theorem lw_p39 : lw_okq (⟨"PredicateProverModel", "led", "(II)I"⟩, 31) := ⟨⟨by decide +kernel, by decide +kernel⟩, List.mem_of_getElem? (i := 1067) (by decide +kernel), List.mem_of_getElem? (i := 1264) (by decide +kernel), List.mem_of_getElem? (i := 1265) (by decide +kernel)⟩
theorem lw_p40 : lw_okq (⟨"PredicateProverModel", "with", "(III)I"⟩, 31) := ⟨⟨by decide +kernel, by decide +kernel⟩, List.mem_of_getElem? (i := 1067) (by decide +kernel), List.mem_of_getElem? (i := 1271) (by decide +kernel), List.mem_of_getElem? (i := 1272) (by decide +kernel)⟩
theorem lw_p41 : lw_okq (⟨"PredicateProverModel", "isOn", "(II)Z"⟩, 31) := ⟨⟨by decide +kernel, by decide +kernel⟩, List.mem_of_getElem? (i := 1067) (by decide +kernel), List.mem_of_getElem? (i := 1275) (by decide +kernel), List.mem_of_getElem? (i := 1276) (by decide +kernel)⟩
theorem lw_p42 : lw_okq (⟨"PredicateProverModel", "known", "(II)Z"⟩, 31) := ⟨⟨by decide +kernel, by decide +kernel⟩, List.mem_of_getElem? (i := 1067) (by decide +kernel), List.mem_of_getElem? (i := 1279) (by decide +kernel), List.mem_of_getElem? (i := 1280) (by decide +kernel)⟩
theorem lw_p43 : lw_okq (⟨"PredicateProverModel", "isTrue", "()Z"⟩, 31) := ⟨⟨by decide +kernel, by decide +kernel⟩, List.mem_of_getElem? (i := 1067) (by decide +kernel), List.mem_of_getElem? (i := 1283) (by decide +kernel), List.mem_of_getElem? (i := 1284) (by decide +kernel)⟩
theorem lw_p44 : lw_okq (⟨"PredicateProverModel", "store", "(I)V"⟩, 31) := ⟨⟨by decide +kernel, by decide +kernel⟩, List.mem_of_getElem? (i := 1067) (by decide +kernel), List.mem_of_getElem? (i := 1287) (by decide +kernel), List.mem_of_getElem? (i := 1288) (by decide +kernel)⟩
theorem lw_p45 : lw_okq (⟨"PredicateProverModel", "before", "(I)V"⟩, 31) := ⟨⟨by decide +kernel, by decide +kernel⟩, List.mem_of_getElem? (i := 1067) (by decide +kernel), List.mem_of_getElem? (i := 1291) (by decide +kernel), List.mem_of_getElem? (i := 1292) (by decide +kernel)⟩
theorem lw_p46 : lw_okq (⟨"PredicateProverModel", "leadsIn", "(II)Z"⟩, 31) := ⟨⟨by decide +kernel, by decide +kernel⟩, List.mem_of_getElem? (i := 1067) (by decide +kernel), List.mem_of_getElem? (i := 1295) (by decide +kernel), List.mem_of_getElem? (i := 1296) (by decide +kernel)⟩
theorem lw_p47 : lw_okq (⟨"PredicateProverModel", "isIn", "(II)Z"⟩, 31) := ⟨⟨by decide +kernel, by decide +kernel⟩, List.mem_of_getElem? (i := 1067) (by decide +kernel), List.mem_of_getElem? (i := 1299) (by decide +kernel), List.mem_of_getElem? (i := 1300) (by decide +kernel)⟩
def lw_privs_3 : List (MethodName × Nat) := [(⟨"PredicateProverModel", "valueOf", "(II)I"⟩, 31), (⟨"PredicateProverModel", "atom", "(III)Z"⟩, 31), (⟨"PredicateProverModel", "forget", "()V"⟩, 31), (⟨"PredicateProverModel", "addWork", "()V"⟩, 31), (⟨"PredicateProverModel", "search", "()V"⟩, 31), (⟨"PredicateProverModel", "spread", "(II)Z"⟩, 31), (⟨"PredicateProverModel", "mark", "(II)V"⟩, 31), (⟨"PredicateProverModel", "led", "(II)I"⟩, 31), (⟨"PredicateProverModel", "with", "(III)I"⟩, 31), (⟨"PredicateProverModel", "isOn", "(II)Z"⟩, 31), (⟨"PredicateProverModel", "known", "(II)Z"⟩, 31), (⟨"PredicateProverModel", "isTrue", "()Z"⟩, 31), (⟨"PredicateProverModel", "store", "(I)V"⟩, 31), (⟨"PredicateProverModel", "before", "(I)V"⟩, 31), (⟨"PredicateProverModel", "leadsIn", "(II)Z"⟩, 31), (⟨"PredicateProverModel", "isIn", "(II)Z"⟩, 31)]
theorem lw_r3 : ∀ q ∈ lw_privs_3, lw_okq q := List.forall_mem_cons.mpr ⟨lw_p32, List.forall_mem_cons.mpr ⟨lw_p33, List.forall_mem_cons.mpr ⟨lw_p34, List.forall_mem_cons.mpr ⟨lw_p35, List.forall_mem_cons.mpr ⟨lw_p36, List.forall_mem_cons.mpr ⟨lw_p37, List.forall_mem_cons.mpr ⟨lw_p38, List.forall_mem_cons.mpr ⟨lw_p39, List.forall_mem_cons.mpr ⟨lw_p40, List.forall_mem_cons.mpr ⟨lw_p41, List.forall_mem_cons.mpr ⟨lw_p42, List.forall_mem_cons.mpr ⟨lw_p43, List.forall_mem_cons.mpr ⟨lw_p44, List.forall_mem_cons.mpr ⟨lw_p45, List.forall_mem_cons.mpr ⟨lw_p46, List.forall_mem_cons.mpr ⟨lw_p47, fun _ h => absurd h List.not_mem_nil⟩⟩⟩⟩⟩⟩⟩⟩⟩⟩⟩⟩⟩⟩⟩⟩
theorem lw_p48 : lw_okq (⟨"PredicateProverModel", "refine", "()I"⟩, 31) := ⟨⟨by decide +kernel, by decide +kernel⟩, List.mem_of_getElem? (i := 1067) (by decide +kernel), List.mem_of_getElem? (i := 1303) (by decide +kernel), List.mem_of_getElem? (i := 1304) (by decide +kernel)⟩
theorem lw_p49 : lw_okq (⟨"PredicateProverModel", "along", "(I)V"⟩, 31) := ⟨⟨by decide +kernel, by decide +kernel⟩, List.mem_of_getElem? (i := 1067) (by decide +kernel), List.mem_of_getElem? (i := 1307) (by decide +kernel), List.mem_of_getElem? (i := 1308) (by decide +kernel)⟩
theorem lw_p50 : lw_okq (⟨"PredicateProverModel", "fetch", "(I)V"⟩, 31) := ⟨⟨by decide +kernel, by decide +kernel⟩, List.mem_of_getElem? (i := 1067) (by decide +kernel), List.mem_of_getElem? (i := 1311) (by decide +kernel), List.mem_of_getElem? (i := 1312) (by decide +kernel)⟩
theorem lw_p51 : lw_okq (⟨"PredicateProverModel", "hangsOn", "(I)Z"⟩, 31) := ⟨⟨by decide +kernel, by decide +kernel⟩, List.mem_of_getElem? (i := 1067) (by decide +kernel), List.mem_of_getElem? (i := 1315) (by decide +kernel), List.mem_of_getElem? (i := 1316) (by decide +kernel)⟩
theorem lw_p52 : lw_okq (⟨"PredicateProverModel", "offer", "()I"⟩, 31) := ⟨⟨by decide +kernel, by decide +kernel⟩, List.mem_of_getElem? (i := 1067) (by decide +kernel), List.mem_of_getElem? (i := 1319) (by decide +kernel), List.mem_of_getElem? (i := 1320) (by decide +kernel)⟩
theorem lw_p53 : lw_okq (⟨"PredicateProverModel", "splits", "()Z"⟩, 31) := ⟨⟨by decide +kernel, by decide +kernel⟩, List.mem_of_getElem? (i := 1067) (by decide +kernel), List.mem_of_getElem? (i := 1323) (by decide +kernel), List.mem_of_getElem? (i := 1324) (by decide +kernel)⟩
theorem lw_p54 : lw_okq (⟨"PredicateProverModel", "isState", "(I)Z"⟩, 31) := ⟨⟨by decide +kernel, by decide +kernel⟩, List.mem_of_getElem? (i := 1067) (by decide +kernel), List.mem_of_getElem? (i := 1343) (by decide +kernel), List.mem_of_getElem? (i := 1344) (by decide +kernel)⟩
def lw_privs_4 : List (MethodName × Nat) := [(⟨"PredicateProverModel", "refine", "()I"⟩, 31), (⟨"PredicateProverModel", "along", "(I)V"⟩, 31), (⟨"PredicateProverModel", "fetch", "(I)V"⟩, 31), (⟨"PredicateProverModel", "hangsOn", "(I)Z"⟩, 31), (⟨"PredicateProverModel", "offer", "()I"⟩, 31), (⟨"PredicateProverModel", "splits", "()Z"⟩, 31), (⟨"PredicateProverModel", "isState", "(I)Z"⟩, 31)]
theorem lw_r4 : ∀ q ∈ lw_privs_4, lw_okq q := List.forall_mem_cons.mpr ⟨lw_p48, List.forall_mem_cons.mpr ⟨lw_p49, List.forall_mem_cons.mpr ⟨lw_p50, List.forall_mem_cons.mpr ⟨lw_p51, List.forall_mem_cons.mpr ⟨lw_p52, List.forall_mem_cons.mpr ⟨lw_p53, List.forall_mem_cons.mpr ⟨lw_p54, fun _ h => absurd h List.not_mem_nil⟩⟩⟩⟩⟩⟩⟩
def lw_privs : List (MethodName × Nat) := lw_privs_1 ++ (lw_privs_2 ++ (lw_privs_3 ++ (lw_privs_4)))
def lw_tbl : List Cond := k2_sels lw_privs ++ tables_1
theorem lw_privs_ok : ∀ q ∈ lw_privs, lw_okq q := by
  show ∀ q ∈ lw_privs_1 ++ (lw_privs_2 ++ (lw_privs_3 ++ (lw_privs_4))), lw_okq q
  exact List.forall_mem_append.mpr ⟨lw_r1, List.forall_mem_append.mpr ⟨lw_r2, List.forall_mem_append.mpr ⟨lw_r3, lw_r4⟩⟩⟩
end
section
/-! names of the class, the reference and the law (printed by wip/whole/gen_names.py out of the claim's own texts) -/
def WT : List Cond := lw_tbl.filter goodWord
theorem WT_good : ∀ w ∈ WT, (w.onTables && w.keeps) = true ∨ ∃ ty, w = .arrayClass ty := fun w h => good_of_word (List.mem_filter.mp h).2
theorem WT_lw {w : Cond} (h : w ∈ lw_tbl) (g : goodWord w = true) : w ∈ WT := List.mem_filter.mpr ⟨h, g⟩
theorem WT_in {w : Cond} {k : Nat} (h : tables_1[k]? = some w) (g : goodWord w = true) : w ∈ WT := WT_lw (List.mem_append_right _ (List.mem_of_getElem? h)) g
theorem WT_se {w : Cond} {k : Nat} (h : (k2_sels lw_privs)[k]? = some w) (g : goodWord w = true) : w ∈ WT := WT_lw (List.mem_append_left _ (List.mem_of_getElem? h)) g
def R_PP : String := "PredicateProver"
def T_PP : u_T := fun k => match k with
  | 0 => ("PredicateProver", "space", "LPredicateProver$Space;", true)
  | 1 => ("PredicateProver", "line", "LPredicateProver$Line;", true)
  | 2 => ("PredicateProver", "formula", "LPredicateProver$Formula;", true)
  | 3 => ("PredicateProver", "parser", "LPredicateProver$Parser;", true)
  | 4 => ("PredicateProver", "program", "LPredicateProver$Program;", true)
  | 5 => ("PredicateProver", "groups", "LPredicateProver$Groups;", true)
  | 6 => ("PredicateProver", "search", "LPredicateProver$Search;", true)
  | 7 => ("PredicateProver", "replay", "LPredicateProver$Replay;", true)
  | 8 => ("PredicateProver", "refiner", "LPredicateProver$Refiner;", true)
  | _ => ("PredicateProver", "lastOutcome", "I", false)
def t_PP : Nat → FieldType := fun k => match k with
  | 0 => .object "PredicateProver$Space"
  | 1 => .object "PredicateProver$Line"
  | 2 => .object "PredicateProver$Formula"
  | 3 => .object "PredicateProver$Parser"
  | 4 => .object "PredicateProver$Program"
  | 5 => .object "PredicateProver$Groups"
  | 6 => .object "PredicateProver$Search"
  | 7 => .object "PredicateProver$Replay"
  | 8 => .object "PredicateProver$Refiner"
  | _ => .int
theorem nm_PP : ∀ a, a < 10 → ∀ b, b < 10 → a ≠ b → (T_PP a).2.1 ≠ (T_PP b).2.1 := by decide +kernel
theorem ty_PP : ∀ k, k < 10 → parseFieldDescriptor (T_PP k).2.2.1 = some (t_PP k) := by decide +kernel
theorem inl_PP : ∀ w ∈ u_ws R_PP T_PP 10, w ∈ lw_tbl := by decide +kernel
theorem ing_PP : ∀ w ∈ u_ws R_PP T_PP 10, goodWord w = true := by decide +kernel
theorem in_PP : ∀ w ∈ u_ws R_PP T_PP 10, w ∈ WT := fun w h => WT_lw (inl_PP w h) (ing_PP w h)
def R_Sp : String := "PredicateProver$Space"
def T_Sp : u_T := fun k => match k with
  | 0 => ("PredicateProver$Space", "width", "I", true)
  | 1 => ("PredicateProver$Space", "mask", "I", true)
  | _ => ("PredicateProver$Space", "states", "I", true)
def t_Sp : Nat → FieldType := fun k => match k with
  | 0 => .int
  | 1 => .int
  | _ => .int
theorem nm_Sp : ∀ a, a < 3 → ∀ b, b < 3 → a ≠ b → (T_Sp a).2.1 ≠ (T_Sp b).2.1 := by decide +kernel
theorem ty_Sp : ∀ k, k < 3 → parseFieldDescriptor (T_Sp k).2.2.1 = some (t_Sp k) := by decide +kernel
theorem inl_Sp : ∀ w ∈ u_ws R_Sp T_Sp 3, w ∈ lw_tbl := by decide +kernel
theorem ing_Sp : ∀ w ∈ u_ws R_Sp T_Sp 3, goodWord w = true := by decide +kernel
theorem in_Sp : ∀ w ∈ u_ws R_Sp T_Sp 3, w ∈ WT := fun w h => WT_lw (inl_Sp w h) (ing_Sp w h)
def R_Li : String := "PredicateProver$Line"
def T_Li : u_T := fun k => match k with
  | 0 => ("PredicateProver$Line", "characters", "[C", true)
  | _ => ("PredicateProver$Line", "size", "I", false)
def t_Li : Nat → FieldType := fun k => match k with
  | 0 => .array .char
  | _ => .int
theorem nm_Li : ∀ a, a < 2 → ∀ b, b < 2 → a ≠ b → (T_Li a).2.1 ≠ (T_Li b).2.1 := by decide +kernel
theorem ty_Li : ∀ k, k < 2 → parseFieldDescriptor (T_Li k).2.2.1 = some (t_Li k) := by decide +kernel
theorem inl_Li : ∀ w ∈ u_ws R_Li T_Li 2, w ∈ lw_tbl := by decide +kernel
theorem ing_Li : ∀ w ∈ u_ws R_Li T_Li 2, goodWord w = true := by decide +kernel
theorem in_Li : ∀ w ∈ u_ws R_Li T_Li 2, w ∈ WT := fun w h => WT_lw (inl_Li w h) (ing_Li w h)
def R_Fo : String := "PredicateProver$Formula"
def T_Fo : u_T := fun k => match k with
  | 0 => ("PredicateProver$Formula", "space", "LPredicateProver$Space;", true)
  | 1 => ("PredicateProver$Formula", "code", "[C", true)
  | 2 => ("PredicateProver$Formula", "stack", "[I", true)
  | _ => ("PredicateProver$Formula", "size", "I", false)
def t_Fo : Nat → FieldType := fun k => match k with
  | 0 => .object "PredicateProver$Space"
  | 1 => .array .char
  | 2 => .array .int
  | _ => .int
theorem nm_Fo : ∀ a, a < 4 → ∀ b, b < 4 → a ≠ b → (T_Fo a).2.1 ≠ (T_Fo b).2.1 := by decide +kernel
theorem ty_Fo : ∀ k, k < 4 → parseFieldDescriptor (T_Fo k).2.2.1 = some (t_Fo k) := by decide +kernel
theorem inl_Fo : ∀ w ∈ u_ws R_Fo T_Fo 4, w ∈ lw_tbl := by decide +kernel
theorem ing_Fo : ∀ w ∈ u_ws R_Fo T_Fo 4, goodWord w = true := by decide +kernel
theorem in_Fo : ∀ w ∈ u_ws R_Fo T_Fo 4, w ∈ WT := fun w h => WT_lw (inl_Fo w h) (ing_Fo w h)
def R_Pa : String := "PredicateProver$Parser"
def T_Pa : u_T := fun k => match k with
  | 0 => ("PredicateProver$Parser", "line", "LPredicateProver$Line;", true)
  | 1 => ("PredicateProver$Parser", "formula", "LPredicateProver$Formula;", true)
  | _ => ("PredicateProver$Parser", "place", "I", false)
def t_Pa : Nat → FieldType := fun k => match k with
  | 0 => .object "PredicateProver$Line"
  | 1 => .object "PredicateProver$Formula"
  | _ => .int
theorem nm_Pa : ∀ a, a < 3 → ∀ b, b < 3 → a ≠ b → (T_Pa a).2.1 ≠ (T_Pa b).2.1 := by decide +kernel
theorem ty_Pa : ∀ k, k < 3 → parseFieldDescriptor (T_Pa k).2.2.1 = some (t_Pa k) := by decide +kernel
theorem inl_Pa : ∀ w ∈ u_ws R_Pa T_Pa 3, w ∈ lw_tbl := by decide +kernel
theorem ing_Pa : ∀ w ∈ u_ws R_Pa T_Pa 3, goodWord w = true := by decide +kernel
theorem in_Pa : ∀ w ∈ u_ws R_Pa T_Pa 3, w ∈ WT := fun w h => WT_lw (inl_Pa w h) (ing_Pa w h)
def R_Pr : String := "PredicateProver$Program"
def T_Pr : u_T := fun k => match k with
  | 0 => ("PredicateProver$Program", "space", "LPredicateProver$Space;", true)
  | 1 => ("PredicateProver$Program", "from", "[I", true)
  | 2 => ("PredicateProver$Program", "to", "[I", true)
  | 3 => ("PredicateProver$Program", "kind", "[I", true)
  | 4 => ("PredicateProver$Program", "variable", "[I", true)
  | 5 => ("PredicateProver$Program", "target", "[[I", true)
  | _ => ("PredicateProver$Program", "count", "I", false)
def t_Pr : Nat → FieldType := fun k => match k with
  | 0 => .object "PredicateProver$Space"
  | 1 => .array .int
  | 2 => .array .int
  | 3 => .array .int
  | 4 => .array .int
  | 5 => .array (.array .int)
  | _ => .int
theorem nm_Pr : ∀ a, a < 7 → ∀ b, b < 7 → a ≠ b → (T_Pr a).2.1 ≠ (T_Pr b).2.1 := by decide +kernel
theorem ty_Pr : ∀ k, k < 7 → parseFieldDescriptor (T_Pr k).2.2.1 = some (t_Pr k) := by decide +kernel
theorem inl_Pr : ∀ w ∈ u_ws R_Pr T_Pr 7, w ∈ lw_tbl := by decide +kernel
theorem ing_Pr : ∀ w ∈ u_ws R_Pr T_Pr 7, goodWord w = true := by decide +kernel
theorem in_Pr : ∀ w ∈ u_ws R_Pr T_Pr 7, w ∈ WT := fun w h => WT_lw (inl_Pr w h) (ing_Pr w h)
def R_Gr : String := "PredicateProver$Groups"
def T_Gr : u_T := fun k => match k with
  | 0 => ("PredicateProver$Groups", "space", "LPredicateProver$Space;", true)
  | 1 => ("PredicateProver$Groups", "count", "I", false)
  | 2 => ("PredicateProver$Groups", "signature", "[I", true)
  | 3 => ("PredicateProver$Groups", "groupCount", "I", false)
  | 4 => ("PredicateProver$Groups", "groupOf", "[I", true)
  | 5 => ("PredicateProver$Groups", "member", "[I", true)
  | 6 => ("PredicateProver$Groups", "start", "[I", true)
  | _ => ("PredicateProver$Groups", "groupOfSignature", "[I", true)
def t_Gr : Nat → FieldType := fun k => match k with
  | 0 => .object "PredicateProver$Space"
  | 1 => .int
  | 2 => .array .int
  | 3 => .int
  | 4 => .array .int
  | 5 => .array .int
  | 6 => .array .int
  | _ => .array .int
theorem nm_Gr : ∀ a, a < 8 → ∀ b, b < 8 → a ≠ b → (T_Gr a).2.1 ≠ (T_Gr b).2.1 := by decide +kernel
theorem ty_Gr : ∀ k, k < 8 → parseFieldDescriptor (T_Gr k).2.2.1 = some (t_Gr k) := by decide +kernel
theorem inl_Gr : ∀ w ∈ u_ws R_Gr T_Gr 8, w ∈ lw_tbl := by decide +kernel
theorem ing_Gr : ∀ w ∈ u_ws R_Gr T_Gr 8, goodWord w = true := by decide +kernel
theorem in_Gr : ∀ w ∈ u_ws R_Gr T_Gr 8, w ∈ WT := fun w h => WT_lw (inl_Gr w h) (ing_Gr w h)
def R_Se : String := "PredicateProver$Search"
def T_Se : u_T := fun k => match k with
  | 0 => ("PredicateProver$Search", "space", "LPredicateProver$Space;", true)
  | 1 => ("PredicateProver$Search", "program", "LPredicateProver$Program;", true)
  | 2 => ("PredicateProver$Search", "groups", "LPredicateProver$Groups;", true)
  | 3 => ("PredicateProver$Search", "count", "I", false)
  | 4 => ("PredicateProver$Search", "location", "[I", true)
  | 5 => ("PredicateProver$Search", "signature", "[I", true)
  | 6 => ("PredicateProver$Search", "parent", "[I", true)
  | 7 => ("PredicateProver$Search", "byEdge", "[I", true)
  | 8 => ("PredicateProver$Search", "group", "[I", true)
  | 9 => ("PredicateProver$Search", "depth", "[I", true)
  | 10 => ("PredicateProver$Search", "known", "[B", true)
  | 11 => ("PredicateProver$Search", "reached", "[B", true)
  | 12 => ("PredicateProver$Search", "outOfRoom", "Z", false)
  | 13 => ("PredicateProver$Search", "pathLength", "I", false)
  | _ => ("PredicateProver$Search", "pathEdge", "[I", true)
def t_Se : Nat → FieldType := fun k => match k with
  | 0 => .object "PredicateProver$Space"
  | 1 => .object "PredicateProver$Program"
  | 2 => .object "PredicateProver$Groups"
  | 3 => .int
  | 4 => .array .int
  | 5 => .array .int
  | 6 => .array .int
  | 7 => .array .int
  | 8 => .array .int
  | 9 => .array .int
  | 10 => .array .byte
  | 11 => .array .byte
  | 12 => .boolean
  | 13 => .int
  | _ => .array .int
theorem nm_Se : ∀ a, a < 15 → ∀ b, b < 15 → a ≠ b → (T_Se a).2.1 ≠ (T_Se b).2.1 := by decide +kernel
theorem ty_Se : ∀ k, k < 15 → parseFieldDescriptor (T_Se k).2.2.1 = some (t_Se k) := by decide +kernel
theorem inl_Se : ∀ w ∈ u_ws R_Se T_Se 15, w ∈ lw_tbl := by decide +kernel
theorem ing_Se : ∀ w ∈ u_ws R_Se T_Se 15, goodWord w = true := by decide +kernel
theorem in_Se : ∀ w ∈ u_ws R_Se T_Se 15, w ∈ WT := fun w h => WT_lw (inl_Se w h) (ing_Se w h)
def R_Re : String := "PredicateProver$Replay"
def T_Re : u_T := fun k => match k with
  | 0 => ("PredicateProver$Replay", "space", "LPredicateProver$Space;", true)
  | 1 => ("PredicateProver$Replay", "program", "LPredicateProver$Program;", true)
  | 2 => ("PredicateProver$Replay", "search", "LPredicateProver$Search;", true)
  | 3 => ("PredicateProver$Replay", "open", "[[J", true)
  | 4 => ("PredicateProver$Replay", "inputs", "[I", true)
  | _ => ("PredicateProver$Replay", "inputCount", "I", false)
def t_Re : Nat → FieldType := fun k => match k with
  | 0 => .object "PredicateProver$Space"
  | 1 => .object "PredicateProver$Program"
  | 2 => .object "PredicateProver$Search"
  | 3 => .array (.array .long)
  | 4 => .array .int
  | _ => .int
theorem nm_Re : ∀ a, a < 6 → ∀ b, b < 6 → a ≠ b → (T_Re a).2.1 ≠ (T_Re b).2.1 := by decide +kernel
theorem ty_Re : ∀ k, k < 6 → parseFieldDescriptor (T_Re k).2.2.1 = some (t_Re k) := by decide +kernel
theorem inl_Re : ∀ w ∈ u_ws R_Re T_Re 6, w ∈ lw_tbl := by decide +kernel
theorem ing_Re : ∀ w ∈ u_ws R_Re T_Re 6, goodWord w = true := by decide +kernel
theorem in_Re : ∀ w ∈ u_ws R_Re T_Re 6, w ∈ WT := fun w h => WT_lw (inl_Re w h) (ing_Re w h)
def R_Rf : String := "PredicateProver$Refiner"
def T_Rf : u_T := fun k => match k with
  | 0 => ("PredicateProver$Refiner", "space", "LPredicateProver$Space;", true)
  | 1 => ("PredicateProver$Refiner", "program", "LPredicateProver$Program;", true)
  | 2 => ("PredicateProver$Refiner", "groups", "LPredicateProver$Groups;", true)
  | 3 => ("PredicateProver$Refiner", "search", "LPredicateProver$Search;", true)
  | 4 => ("PredicateProver$Refiner", "taken", "[[J", true)
  | 5 => ("PredicateProver$Refiner", "spare", "[J", true)
  | _ => ("PredicateProver$Refiner", "takenCount", "I", false)
def t_Rf : Nat → FieldType := fun k => match k with
  | 0 => .object "PredicateProver$Space"
  | 1 => .object "PredicateProver$Program"
  | 2 => .object "PredicateProver$Groups"
  | 3 => .object "PredicateProver$Search"
  | 4 => .array (.array .long)
  | 5 => .array .long
  | _ => .int
theorem nm_Rf : ∀ a, a < 7 → ∀ b, b < 7 → a ≠ b → (T_Rf a).2.1 ≠ (T_Rf b).2.1 := by decide +kernel
theorem ty_Rf : ∀ k, k < 7 → parseFieldDescriptor (T_Rf k).2.2.1 = some (t_Rf k) := by decide +kernel
theorem inl_Rf : ∀ w ∈ u_ws R_Rf T_Rf 7, w ∈ lw_tbl := by decide +kernel
theorem ing_Rf : ∀ w ∈ u_ws R_Rf T_Rf 7, goodWord w = true := by decide +kernel
theorem in_Rf : ∀ w ∈ u_ws R_Rf T_Rf 7, w ∈ WT := fun w h => WT_lw (inl_Rf w h) (ing_Rf w h)
def R_Mo : String := "PredicateProverModel"
def T_Mo : u_T := fun k => match k with
  | 0 => ("PredicateProverModel", "width", "I", true)
  | 1 => ("PredicateProverModel", "limit", "I", true)
  | 2 => ("PredicateProverModel", "states", "I", true)
  | 3 => ("PredicateProverModel", "code", "I", false)
  | 4 => ("PredicateProverModel", "line", "[I", true)
  | 5 => ("PredicateProverModel", "typed", "I", false)
  | 6 => ("PredicateProverModel", "edges", "I", false)
  | 7 => ("PredicateProverModel", "from", "[I", true)
  | 8 => ("PredicateProverModel", "to", "[I", true)
  | 9 => ("PredicateProverModel", "kind", "[I", true)
  | 10 => ("PredicateProverModel", "variable", "[I", true)
  | 11 => ("PredicateProverModel", "effect", "[J", true)
  | 12 => ("PredicateProverModel", "predicates", "I", false)
  | 13 => ("PredicateProverModel", "member", "[J", true)
  | 14 => ("PredicateProverModel", "signature", "[I", true)
  | 15 => ("PredicateProverModel", "outcome", "I", false)
  | 16 => ("PredicateProverModel", "nodes", "I", false)
  | 17 => ("PredicateProverModel", "place", "[I", true)
  | 18 => ("PredicateProverModel", "sign", "[I", true)
  | 19 => ("PredicateProverModel", "source", "[I", true)
  | 20 => ("PredicateProverModel", "by", "[I", true)
  | 21 => ("PredicateProverModel", "length", "I", false)
  | 22 => ("PredicateProverModel", "path", "[I", true)
  | 23 => ("PredicateProverModel", "inputs", "I", false)
  | 24 => ("PredicateProverModel", "input", "[I", true)
  | 25 => ("PredicateProverModel", "seen", "[I", true)
  | 26 => ("PredicateProverModel", "taken", "I", false)
  | 27 => ("PredicateProverModel", "set", "[J", true)
  | 28 => ("PredicateProverModel", "work", "[Z", true)
  | 29 => ("PredicateProverModel", "value", "[I", true)
  | _ => ("PredicateProverModel", "open", "[I", true)
def t_Mo : Nat → FieldType := fun k => match k with
  | 0 => .int
  | 1 => .int
  | 2 => .int
  | 3 => .int
  | 4 => .array .int
  | 5 => .int
  | 6 => .int
  | 7 => .array .int
  | 8 => .array .int
  | 9 => .array .int
  | 10 => .array .int
  | 11 => .array .long
  | 12 => .int
  | 13 => .array .long
  | 14 => .array .int
  | 15 => .int
  | 16 => .int
  | 17 => .array .int
  | 18 => .array .int
  | 19 => .array .int
  | 20 => .array .int
  | 21 => .int
  | 22 => .array .int
  | 23 => .int
  | 24 => .array .int
  | 25 => .array .int
  | 26 => .int
  | 27 => .array .long
  | 28 => .array .boolean
  | 29 => .array .int
  | _ => .array .int
theorem nm_Mo : ∀ a, a < 31 → ∀ b, b < 31 → a ≠ b → (T_Mo a).2.1 ≠ (T_Mo b).2.1 := by decide +kernel
theorem ty_Mo : ∀ k, k < 31 → parseFieldDescriptor (T_Mo k).2.2.1 = some (t_Mo k) := by decide +kernel
theorem inl_Mo : ∀ w ∈ u_ws R_Mo T_Mo 31, w ∈ lw_tbl := by decide +kernel
theorem ing_Mo : ∀ w ∈ u_ws R_Mo T_Mo 31, goodWord w = true := by decide +kernel
theorem in_Mo : ∀ w ∈ u_ws R_Mo T_Mo 31, w ∈ WT := fun w h => WT_lw (inl_Mo w h) (ing_Mo w h)
def R_Lw : String := "PredicateProverLaw"
def R_Ar : String := "java/util/Arrays"
abbrev vcl : List vw_C := [(R_PP, T_PP, 10), (R_Sp, T_Sp, 3), (R_Li, T_Li, 2), (R_Fo, T_Fo, 4), (R_Pa, T_Pa, 3), (R_Pr, T_Pr, 7), (R_Gr, T_Gr, 8), (R_Se, T_Se, 15), (R_Re, T_Re, 6), (R_Rf, T_Rf, 7), (R_Mo, T_Mo, 31)]
abbrev b_PP_init : ByteArray := prog_1_method_1_code
def y_PP_init : MethodName := ⟨R_PP, "<init>", "(I)V"⟩
abbrev b_Sp_init : ByteArray := prog_10_method_1_code
def y_Sp_init : MethodName := ⟨R_Sp, "<init>", "(I)V"⟩
abbrev b_Li_init : ByteArray := prog_4_method_1_code
def y_Li_init : MethodName := ⟨R_Li, "<init>", "()V"⟩
abbrev b_Fo_init : ByteArray := prog_2_method_1_code
def y_Fo_init : MethodName := ⟨R_Fo, "<init>", "(LPredicateProver$Space;)V"⟩
abbrev b_Pr_init : ByteArray := prog_6_method_1_code
def y_Pr_init : MethodName := ⟨R_Pr, "<init>", "(LPredicateProver$Space;)V"⟩
abbrev b_Gr_init : ByteArray := prog_3_method_1_code
def y_Gr_init : MethodName := ⟨R_Gr, "<init>", "(LPredicateProver$Space;)V"⟩
abbrev b_Gr_numberGroups : ByteArray := prog_3_method_8_code
def y_Gr_numberGroups : MethodName := ⟨R_Gr, "numberGroups", "()V"⟩
abbrev b_Ar_fill_aIIII : ByteArray := prog_29_method_104_code
def y_Ar_fill_aIIII : MethodName := ⟨R_Ar, "fill", "([IIII)V"⟩
abbrev b_Ar_rangeCheck : ByteArray := prog_29_method_30_code
def y_Ar_rangeCheck : MethodName := ⟨R_Ar, "rangeCheck", "(III)V"⟩
abbrev b_Gr_placeStates : ByteArray := prog_3_method_9_code
def y_Gr_placeStates : MethodName := ⟨R_Gr, "placeStates", "()V"⟩
abbrev b_Ar_fill_aII : ByteArray := prog_29_method_103_code
def y_Ar_fill_aII : MethodName := ⟨R_Ar, "fill", "([II)V"⟩
abbrev b_Se_init : ByteArray := prog_9_method_1_code
def y_Se_init : MethodName := ⟨R_Se, "<init>", "(LPredicateProver$Space;LPredicateProver$Program;LPredicateProver$Groups;)V"⟩
abbrev b_Pa_init : ByteArray := prog_5_method_1_code
def y_Pa_init : MethodName := ⟨R_Pa, "<init>", "(LPredicateProver$Line;LPredicateProver$Formula;)V"⟩
abbrev b_Re_init : ByteArray := prog_8_method_1_code
def y_Re_init : MethodName := ⟨R_Re, "<init>", "(LPredicateProver$Space;LPredicateProver$Program;LPredicateProver$Search;)V"⟩
abbrev b_Rf_init : ByteArray := prog_7_method_1_code
def y_Rf_init : MethodName := ⟨R_Rf, "<init>", "(LPredicateProver$Space;LPredicateProver$Program;LPredicateProver$Groups;LPredicateProver$Search;)V"⟩
abbrev b_PP_type : ByteArray := prog_1_method_2_code
def y_PP_type : MethodName := ⟨R_PP, "type", "(C)I"⟩
abbrev b_Li_append : ByteArray := prog_4_method_2_code
def y_Li_append : MethodName := ⟨R_Li, "append", "(C)I"⟩
abbrev b_PP_wipe : ByteArray := prog_1_method_3_code
def y_PP_wipe : MethodName := ⟨R_PP, "wipe", "()V"⟩
abbrev b_Li_makeEmpty : ByteArray := prog_4_method_4_code
def y_Li_makeEmpty : MethodName := ⟨R_Li, "makeEmpty", "()V"⟩
abbrev b_PP_clear : ByteArray := prog_1_method_6_code
def y_PP_clear : MethodName := ⟨R_PP, "clear", "()V"⟩
abbrev b_Gr_dropPredicates : ByteArray := prog_3_method_3_code
def y_Gr_dropPredicates : MethodName := ⟨R_Gr, "dropPredicates", "()V"⟩
abbrev b_PP_forgetSearch : ByteArray := prog_1_method_19_code
def y_PP_forgetSearch : MethodName := ⟨R_PP, "forgetSearch", "()V"⟩
abbrev b_Se_forget : ByteArray := prog_9_method_2_code
def y_Se_forget : MethodName := ⟨R_Se, "forget", "()V"⟩
abbrev b_Re_forget : ByteArray := prog_8_method_2_code
def y_Re_forget : MethodName := ⟨R_Re, "forget", "()V"⟩
abbrev b_PP_outcome : ByteArray := prog_1_method_8_code
def y_PP_outcome : MethodName := ⟨R_PP, "outcome", "()I"⟩
abbrev b_PP_edges : ByteArray := prog_1_method_9_code
def y_PP_edges : MethodName := ⟨R_PP, "edges", "()I"⟩
abbrev b_PP_predicates : ByteArray := prog_1_method_10_code
def y_PP_predicates : MethodName := ⟨R_PP, "predicates", "()I"⟩
abbrev b_PP_nodes : ByteArray := prog_1_method_14_code
def y_PP_nodes : MethodName := ⟨R_PP, "nodes", "()I"⟩
abbrev b_PP_length : ByteArray := prog_1_method_16_code
def y_PP_length : MethodName := ⟨R_PP, "length", "()I"⟩
abbrev b_Lw_cell : ByteArray := method_2_code
def y_Lw_cell : MethodName := ⟨R_Lw, "cell", "([II)I"⟩
abbrev b_Lw_edge : ByteArray := method_3_code
def y_Lw_edge : MethodName := ⟨R_Lw, "edge", "(LPredicateProver;[J)I"⟩
abbrev b_PP_edge : ByteArray := prog_1_method_4_code
def y_PP_edge : MethodName := ⟨R_PP, "edge", "()I"⟩
abbrev b_Pa_readEdge : ByteArray := prog_5_method_2_code
def y_Pa_readEdge : MethodName := ⟨R_Pa, "readEdge", "()I"⟩
abbrev b_Li_at : ByteArray := prog_4_method_3_code
def y_Li_at : MethodName := ⟨R_Li, "at", "(I)C"⟩
abbrev b_Pa_isLocation : ByteArray := prog_5_method_7_code
def y_Pa_isLocation : MethodName := ⟨R_Pa, "isLocation", "(C)Z"⟩
abbrev b_Fo_isVariable : ByteArray := prog_2_method_2_code
def y_Fo_isVariable : MethodName := ⟨R_Fo, "isVariable", "(C)Z"⟩
abbrev b_Pa_readTerm : ByteArray := prog_5_method_4_code
def y_Pa_readTerm : MethodName := ⟨R_Pa, "readTerm", "(I)Z"⟩
abbrev b_Fo_begin : ByteArray := prog_2_method_4_code
def y_Fo_begin : MethodName := ⟨R_Fo, "begin", "()V"⟩
abbrev b_Pa_passTerm : ByteArray := prog_5_method_5_code
def y_Pa_passTerm : MethodName := ⟨R_Pa, "passTerm", "(I)Z"⟩
abbrev b_Pa_passPart : ByteArray := prog_5_method_6_code
def y_Pa_passPart : MethodName := ⟨R_Pa, "passPart", "(I)Z"⟩
abbrev b_Fo_isDigit : ByteArray := prog_2_method_3_code
def y_Fo_isDigit : MethodName := ⟨R_Fo, "isDigit", "(C)Z"⟩
abbrev b_Fo_add : ByteArray := prog_2_method_5_code
def y_Fo_add : MethodName := ⟨R_Fo, "add", "(C)V"⟩
abbrev b_Pa_isOperator : ByteArray := prog_5_method_8_code
def y_Pa_isOperator : MethodName := ⟨R_Pa, "isOperator", "(C)Z"⟩
abbrev b_Pa_readAtom : ByteArray := prog_5_method_3_code
def y_Pa_readAtom : MethodName := ⟨R_Pa, "readAtom", "(I)Z"⟩
abbrev b_Pa_isComparison : ByteArray := prog_5_method_9_code
def y_Pa_isComparison : MethodName := ⟨R_Pa, "isComparison", "(C)Z"⟩
abbrev b_Pr_isFull : ByteArray := prog_6_method_2_code
def y_Pr_isFull : MethodName := ⟨R_Pr, "isFull", "()Z"⟩
abbrev b_Pr_add : ByteArray := prog_6_method_3_code
def y_Pr_add : MethodName := ⟨R_Pr, "add", "(ILPredicateProver$Line;LPredicateProver$Formula;)I"⟩
abbrev b_Pr_targetOf : ByteArray := prog_6_method_4_code
def y_Pr_targetOf : MethodName := ⟨R_Pr, "targetOf", "(IILPredicateProver$Formula;)I"⟩
abbrev b_Sp_write : ByteArray := prog_10_method_4_code
def y_Sp_write : MethodName := ⟨R_Sp, "write", "(III)I"⟩
abbrev b_Fo_valueIn : ByteArray := prog_2_method_6_code
def y_Fo_valueIn : MethodName := ⟨R_Fo, "valueIn", "(I)I"⟩
abbrev b_Sp_read : ByteArray := prog_10_method_3_code
def y_Sp_read : MethodName := ⟨R_Sp, "read", "(II)I"⟩
abbrev b_Fo_combine : ByteArray := prog_2_method_7_code
def y_Fo_combine : MethodName := ⟨R_Fo, "combine", "(CII)I"⟩
abbrev b_Lw_predicate : ByteArray := method_4_code
def y_Lw_predicate : MethodName := ⟨R_Lw, "predicate", "(LPredicateProver;[J)I"⟩
abbrev b_PP_predicate : ByteArray := prog_1_method_5_code
def y_PP_predicate : MethodName := ⟨R_PP, "predicate", "()I"⟩
abbrev b_Gr_isFull : ByteArray := prog_3_method_2_code
def y_Gr_isFull : MethodName := ⟨R_Gr, "isFull", "()Z"⟩
abbrev b_Gr_include : ByteArray := prog_3_method_4_code
def y_Gr_include : MethodName := ⟨R_Gr, "include", "(I)V"⟩
abbrev b_Gr_endPredicate : ByteArray := prog_3_method_5_code
def y_Gr_endPredicate : MethodName := ⟨R_Gr, "endPredicate", "()V"⟩
abbrev b_Lw_prove : ByteArray := method_5_code
def y_Lw_prove : MethodName := ⟨R_Lw, "prove", "(LPredicateProver;I[J)I"⟩
abbrev b_PP_prove : ByteArray := prog_1_method_7_code
def y_PP_prove : MethodName := ⟨R_PP, "prove", "(I)I"⟩
abbrev b_PP_makeRound : ByteArray := prog_1_method_20_code
def y_PP_makeRound : MethodName := ⟨R_PP, "makeRound", "()I"⟩
abbrev b_Se_run : ByteArray := prog_9_method_3_code
def y_Se_run : MethodName := ⟨R_Se, "run", "()V"⟩
abbrev b_Ar_fill_aBB : ByteArray := prog_29_method_109_code
def y_Ar_fill_aBB : MethodName := ⟨R_Ar, "fill", "([BB)V"⟩
abbrev b_Se_addNode : ByteArray := prog_9_method_6_code
def y_Se_addNode : MethodName := ⟨R_Se, "addNode", "(IIII)V"⟩
abbrev b_Gr_signatureOf : ByteArray := prog_3_method_6_code
def y_Gr_signatureOf : MethodName := ⟨R_Gr, "signatureOf", "(I)I"⟩
abbrev b_Se_take : ByteArray := prog_9_method_4_code
def y_Se_take : MethodName := ⟨R_Se, "take", "(II)Z"⟩
abbrev b_Se_markReached : ByteArray := prog_9_method_5_code
def y_Se_markReached : MethodName := ⟨R_Se, "markReached", "(II)V"⟩
abbrev b_Ar_fill_aBIIB : ByteArray := prog_29_method_110_code
def y_Ar_fill_aBIIB : MethodName := ⟨R_Ar, "fill", "([BIIB)V"⟩
abbrev b_Pr_choices : ByteArray := prog_6_method_6_code
def y_Pr_choices : MethodName := ⟨R_Pr, "choices", "(I)I"⟩
abbrev b_Pr_step : ByteArray := prog_6_method_5_code
def y_Pr_step : MethodName := ⟨R_Pr, "step", "(III)I"⟩
abbrev b_Se_tracePath : ByteArray := prog_9_method_7_code
def y_Se_tracePath : MethodName := ⟨R_Se, "tracePath", "(I)V"⟩
abbrev b_Re_succeeds : ByteArray := prog_8_method_3_code
def y_Re_succeeds : MethodName := ⟨R_Re, "succeeds", "()Z"⟩
abbrev b_Ar_fill_aJJ : ByteArray := prog_29_method_101_code
def y_Ar_fill_aJJ : MethodName := ⟨R_Ar, "fill", "([JJ)V"⟩
abbrev b_Re_openBefore : ByteArray := prog_8_method_5_code
def y_Re_openBefore : MethodName := ⟨R_Re, "openBefore", "(I)V"⟩
abbrev b_Re_leastInput : ByteArray := prog_8_method_6_code
def y_Re_leastInput : MethodName := ⟨R_Re, "leastInput", "(II)I"⟩
abbrev b_Re_isOpen : ByteArray := prog_8_method_4_code
def y_Re_isOpen : MethodName := ⟨R_Re, "isOpen", "(II)Z"⟩
abbrev b_Re_collectInputs : ByteArray := prog_8_method_7_code
def y_Re_collectInputs : MethodName := ⟨R_Re, "collectInputs", "()V"⟩
abbrev b_Rf_refine : ByteArray := prog_7_method_2_code
def y_Rf_refine : MethodName := ⟨R_Rf, "refine", "()Z"⟩
abbrev b_Rf_passEdge : ByteArray := prog_7_method_4_code
def y_Rf_passEdge : MethodName := ⟨R_Rf, "passEdge", "(I)V"⟩
abbrev b_Rf_takeAlong : ByteArray := prog_7_method_5_code
def y_Rf_takeAlong : MethodName := ⟨R_Rf, "takeAlong", "([I)V"⟩
abbrev b_Rf_rowsInUse : ByteArray := prog_7_method_3_code
def y_Rf_rowsInUse : MethodName := ⟨R_Rf, "rowsInUse", "()I"⟩
abbrev b_Rf_pullBack : ByteArray := prog_7_method_6_code
def y_Rf_pullBack : MethodName := ⟨R_Rf, "pullBack", "([J[I)V"⟩
abbrev b_Rf_leaveBehind : ByteArray := prog_7_method_7_code
def y_Rf_leaveBehind : MethodName := ⟨R_Rf, "leaveBehind", "([J[I)V"⟩
abbrev b_Rf_adoptTaken : ByteArray := prog_7_method_8_code
def y_Rf_adoptTaken : MethodName := ⟨R_Rf, "adoptTaken", "()Z"⟩
abbrev b_Gr_splitting : ByteArray := prog_3_method_7_code
def y_Gr_splitting : MethodName := ⟨R_Gr, "splitting", "([J)J"⟩
abbrev b_Rf_adopt : ByteArray := prog_7_method_9_code
def y_Rf_adopt : MethodName := ⟨R_Rf, "adopt", "([JI)V"⟩
abbrev b_Rf_adoptVariableBit : ByteArray := prog_7_method_10_code
def y_Rf_adoptVariableBit : MethodName := ⟨R_Rf, "adoptVariableBit", "()Z"⟩
abbrev b_Lw_holds : ByteArray := method_6_code
def y_Lw_holds : MethodName := ⟨R_Lw, "holds", "(LPredicateProver;II[J)I"⟩
abbrev b_PP_holds : ByteArray := prog_1_method_11_code
def y_PP_holds : MethodName := ⟨R_PP, "holds", "(II)Z"⟩
abbrev b_Sp_contains : ByteArray := prog_10_method_2_code
def y_Sp_contains : MethodName := ⟨R_Sp, "contains", "(I)Z"⟩
abbrev b_Lw_signature : ByteArray := method_7_code
def y_Lw_signature : MethodName := ⟨R_Lw, "signature", "(LPredicateProver;I[J)I"⟩
abbrev b_PP_signature : ByteArray := prog_1_method_12_code
def y_PP_signature : MethodName := ⟨R_PP, "signature", "(I)S"⟩
abbrev b_Lw_follow : ByteArray := method_8_code
def y_Lw_follow : MethodName := ⟨R_Lw, "follow", "(LPredicateProver;III[J)I"⟩
abbrev b_PP_follow : ByteArray := prog_1_method_13_code
def y_PP_follow : MethodName := ⟨R_PP, "follow", "(III)I"⟩
abbrev b_Lw_node : ByteArray := method_9_code
def y_Lw_node : MethodName := ⟨R_Lw, "node", "(LPredicateProver;II[J)I"⟩
abbrev b_PP_node : ByteArray := prog_1_method_15_code
def y_PP_node : MethodName := ⟨R_PP, "node", "(II)I"⟩
abbrev b_Lw_path : ByteArray := method_10_code
def y_Lw_path : MethodName := ⟨R_Lw, "path", "(LPredicateProver;I[J)I"⟩
abbrev b_PP_path : ByteArray := prog_1_method_17_code
def y_PP_path : MethodName := ⟨R_PP, "path", "(I)I"⟩
abbrev b_Lw_input : ByteArray := method_11_code
def y_Lw_input : MethodName := ⟨R_Lw, "input", "(LPredicateProver;I[J)I"⟩
abbrev b_PP_input : ByteArray := prog_1_method_18_code
def y_PP_input : MethodName := ⟨R_PP, "input", "(I)I"⟩
abbrev b_Mo_init : ByteArray := prog_12_method_1_code
def y_Mo_init : MethodName := ⟨R_Mo, "<init>", "(I)V"⟩
abbrev b_Mo_thrown : ByteArray := prog_12_method_2_code
def y_Mo_thrown : MethodName := ⟨R_Mo, "thrown", "()I"⟩
abbrev b_Mo_type : ByteArray := prog_12_method_4_code
def y_Mo_type : MethodName := ⟨R_Mo, "type", "(C)I"⟩
abbrev b_Mo_wipe : ByteArray := prog_12_method_5_code
def y_Mo_wipe : MethodName := ⟨R_Mo, "wipe", "()V"⟩
abbrev b_Mo_edge : ByteArray := prog_12_method_20_code
def y_Mo_edge : MethodName := ⟨R_Mo, "edge", "()I"⟩
abbrev b_Mo_at : ByteArray := prog_12_method_6_code
def y_Mo_at : MethodName := ⟨R_Mo, "at", "(I)I"⟩
abbrev b_Mo_isLocation : ByteArray := prog_12_method_12_code
def y_Mo_isLocation : MethodName := ⟨R_Mo, "isLocation", "(I)Z"⟩
abbrev b_Mo_fail : ByteArray := prog_12_method_3_code
def y_Mo_fail : MethodName := ⟨R_Mo, "fail", "(I)I"⟩
abbrev b_Mo_isVariable : ByteArray := prog_12_method_7_code
def y_Mo_isVariable : MethodName := ⟨R_Mo, "isVariable", "(I)Z"⟩
abbrev b_Mo_relationAt : ByteArray := prog_12_method_11_code
def y_Mo_relationAt : MethodName := ⟨R_Mo, "relationAt", "(I)I"⟩
abbrev b_Mo_termEnd : ByteArray := prog_12_method_10_code
def y_Mo_termEnd : MethodName := ⟨R_Mo, "termEnd", "(I)I"⟩
abbrev b_Mo_isSign : ByteArray := prog_12_method_8_code
def y_Mo_isSign : MethodName := ⟨R_Mo, "isSign", "(I)Z"⟩
abbrev b_Mo_isRelation : ByteArray := prog_12_method_9_code
def y_Mo_isRelation : MethodName := ⟨R_Mo, "isRelation", "(I)Z"⟩
abbrev b_Mo_worked : ByteArray := prog_12_method_17_code
def y_Mo_worked : MethodName := ⟨R_Mo, "worked", "(III)I"⟩
abbrev b_Mo_join : ByteArray := prog_12_method_16_code
def y_Mo_join : MethodName := ⟨R_Mo, "join", "(II)V"⟩
abbrev b_Mo_part : ByteArray := prog_12_method_13_code
def y_Mo_part : MethodName := ⟨R_Mo, "part", "(II)I"⟩
abbrev b_Mo_valueOf : ByteArray := prog_12_method_14_code
def y_Mo_valueOf : MethodName := ⟨R_Mo, "valueOf", "(II)I"⟩
abbrev b_Mo_atom : ByteArray := prog_12_method_18_code
def y_Mo_atom : MethodName := ⟨R_Mo, "atom", "(III)Z"⟩
abbrev b_Mo_forget : ByteArray := prog_12_method_19_code
def y_Mo_forget : MethodName := ⟨R_Mo, "forget", "()V"⟩
abbrev b_Mo_predicate : ByteArray := prog_12_method_24_code
def y_Mo_predicate : MethodName := ⟨R_Mo, "predicate", "()I"⟩
abbrev b_Mo_addWork : ByteArray := prog_12_method_25_code
def y_Mo_addWork : MethodName := ⟨R_Mo, "addWork", "()V"⟩
abbrev b_Mo_clear : ByteArray := prog_12_method_26_code
def y_Mo_clear : MethodName := ⟨R_Mo, "clear", "()V"⟩
abbrev b_Mo_prove : ByteArray := prog_12_method_42_code
def y_Mo_prove : MethodName := ⟨R_Mo, "prove", "(I)I"⟩
abbrev b_Mo_search : ByteArray := prog_12_method_30_code
def y_Mo_search : MethodName := ⟨R_Mo, "search", "()V"⟩
abbrev b_Mo_spread : ByteArray := prog_12_method_29_code
def y_Mo_spread : MethodName := ⟨R_Mo, "spread", "(II)Z"⟩
abbrev b_Mo_mark : ByteArray := prog_12_method_27_code
def y_Mo_mark : MethodName := ⟨R_Mo, "mark", "(II)V"⟩
abbrev b_Mo_led : ByteArray := prog_12_method_23_code
def y_Mo_led : MethodName := ⟨R_Mo, "led", "(II)I"⟩
abbrev b_Mo_bit : ByteArray := prog_12_method_21_code
def y_Mo_bit : MethodName := ⟨R_Mo, "bit", "([JII)I"⟩
abbrev b_Mo_with : ByteArray := prog_12_method_15_code
def y_Mo_with : MethodName := ⟨R_Mo, "with", "(III)I"⟩
abbrev b_Mo_isOn : ByteArray := prog_12_method_22_code
def y_Mo_isOn : MethodName := ⟨R_Mo, "isOn", "(II)Z"⟩
abbrev b_Mo_known : ByteArray := prog_12_method_28_code
def y_Mo_known : MethodName := ⟨R_Mo, "known", "(II)Z"⟩
abbrev b_Mo_isTrue : ByteArray := prog_12_method_36_code
def y_Mo_isTrue : MethodName := ⟨R_Mo, "isTrue", "()Z"⟩
abbrev b_Mo_store : ByteArray := prog_12_method_35_code
def y_Mo_store : MethodName := ⟨R_Mo, "store", "(I)V"⟩
abbrev b_Mo_before : ByteArray := prog_12_method_31_code
def y_Mo_before : MethodName := ⟨R_Mo, "before", "(I)V"⟩
abbrev b_Mo_leadsIn : ByteArray := prog_12_method_32_code
def y_Mo_leadsIn : MethodName := ⟨R_Mo, "leadsIn", "(II)Z"⟩
abbrev b_Mo_isIn : ByteArray := prog_12_method_33_code
def y_Mo_isIn : MethodName := ⟨R_Mo, "isIn", "(II)Z"⟩
abbrev b_Mo_refine : ByteArray := prog_12_method_41_code
def y_Mo_refine : MethodName := ⟨R_Mo, "refine", "()I"⟩
abbrev b_Mo_along : ByteArray := prog_12_method_39_code
def y_Mo_along : MethodName := ⟨R_Mo, "along", "(I)V"⟩
abbrev b_Mo_fetch : ByteArray := prog_12_method_34_code
def y_Mo_fetch : MethodName := ⟨R_Mo, "fetch", "(I)V"⟩
abbrev b_Mo_hangsOn : ByteArray := prog_12_method_38_code
def y_Mo_hangsOn : MethodName := ⟨R_Mo, "hangsOn", "(I)Z"⟩
abbrev b_Mo_offer : ByteArray := prog_12_method_40_code
def y_Mo_offer : MethodName := ⟨R_Mo, "offer", "()I"⟩
abbrev b_Mo_splits : ByteArray := prog_12_method_37_code
def y_Mo_splits : MethodName := ⟨R_Mo, "splits", "()Z"⟩
abbrev b_Mo_outcome : ByteArray := prog_12_method_43_code
def y_Mo_outcome : MethodName := ⟨R_Mo, "outcome", "()I"⟩
abbrev b_Mo_edges : ByteArray := prog_12_method_44_code
def y_Mo_edges : MethodName := ⟨R_Mo, "edges", "()I"⟩
abbrev b_Mo_predicates : ByteArray := prog_12_method_45_code
def y_Mo_predicates : MethodName := ⟨R_Mo, "predicates", "()I"⟩
abbrev b_Mo_holds : ByteArray := prog_12_method_47_code
def y_Mo_holds : MethodName := ⟨R_Mo, "holds", "(II)Z"⟩
abbrev b_Mo_isState : ByteArray := prog_12_method_46_code
def y_Mo_isState : MethodName := ⟨R_Mo, "isState", "(I)Z"⟩
abbrev b_Mo_signature : ByteArray := prog_12_method_48_code
def y_Mo_signature : MethodName := ⟨R_Mo, "signature", "(I)S"⟩
abbrev b_Mo_follow : ByteArray := prog_12_method_49_code
def y_Mo_follow : MethodName := ⟨R_Mo, "follow", "(III)I"⟩
abbrev b_Mo_nodes : ByteArray := prog_12_method_50_code
def y_Mo_nodes : MethodName := ⟨R_Mo, "nodes", "()I"⟩
abbrev b_Mo_node : ByteArray := prog_12_method_51_code
def y_Mo_node : MethodName := ⟨R_Mo, "node", "(II)I"⟩
abbrev b_Mo_length : ByteArray := prog_12_method_52_code
def y_Mo_length : MethodName := ⟨R_Mo, "length", "()I"⟩
abbrev b_Mo_path : ByteArray := prog_12_method_53_code
def y_Mo_path : MethodName := ⟨R_Mo, "path", "(I)I"⟩
abbrev b_Mo_input : ByteArray := prog_12_method_54_code
def y_Mo_input : MethodName := ⟨R_Mo, "input", "(I)I"⟩
abbrev b_Lw_law : ByteArray := code
def y_Lw_law : MethodName := ⟨R_Lw, "law", "([I)Z"⟩
theorem wi_Sp : Cond.initialized R_Sp ∈ WT := WT_in (k := 2) (by decide +kernel) (by decide +kernel)
theorem wi_Li : Cond.initialized R_Li ∈ WT := WT_in (k := 3) (by decide +kernel) (by decide +kernel)
theorem wi_Fo : Cond.initialized R_Fo ∈ WT := WT_in (k := 4) (by decide +kernel) (by decide +kernel)
theorem wi_Pa : Cond.initialized R_Pa ∈ WT := WT_in (k := 25) (by decide +kernel) (by decide +kernel)
theorem wi_Pr : Cond.initialized R_Pr ∈ WT := WT_in (k := 5) (by decide +kernel) (by decide +kernel)
theorem wi_Gr : Cond.initialized R_Gr ∈ WT := WT_in (k := 6) (by decide +kernel) (by decide +kernel)
theorem wi_Se : Cond.initialized R_Se ∈ WT := WT_in (k := 24) (by decide +kernel) (by decide +kernel)
theorem wi_Re : Cond.initialized R_Re ∈ WT := WT_in (k := 26) (by decide +kernel) (by decide +kernel)
theorem wi_Rf : Cond.initialized R_Rf ∈ WT := WT_in (k := 27) (by decide +kernel) (by decide +kernel)
theorem wi_PP : Cond.initialized R_PP ∈ WT := WT_in (k := 1) (by decide +kernel) (by decide +kernel)
theorem wi_Mo : Cond.initialized R_Mo ∈ WT := WT_in (k := 28) (by decide +kernel) (by decide +kernel)
theorem wi_Lw : Cond.initialized R_Lw ∈ WT := WT_in (k := 0) (by decide +kernel) (by decide +kernel)
theorem wi_Ar : Cond.initialized R_Ar ∈ WT := WT_in (k := 7) (by decide +kernel) (by decide +kernel)
theorem wc_PP_init : Cond.code y_PP_init b_PP_init 8 none ∈ WT := WT_in (k := 34) (by decide +kernel) (by decide +kernel)
theorem wm_PP_init : Cond.instanceMethod y_PP_init ∈ WT := WT_in (k := 33) (by decide +kernel) (by decide +kernel)
theorem wc_Sp_init : Cond.code y_Sp_init b_Sp_init 3 none ∈ WT := WT_in (k := 42) (by decide +kernel) (by decide +kernel)
theorem wm_Sp_init : Cond.instanceMethod y_Sp_init ∈ WT := WT_in (k := 41) (by decide +kernel) (by decide +kernel)
theorem wc_Li_init : Cond.code y_Li_init b_Li_init 1 none ∈ WT := WT_in (k := 67) (by decide +kernel) (by decide +kernel)
theorem wm_Li_init : Cond.instanceMethod y_Li_init ∈ WT := WT_in (k := 66) (by decide +kernel) (by decide +kernel)
theorem wc_Fo_init : Cond.code y_Fo_init b_Fo_init 2 none ∈ WT := WT_in (k := 81) (by decide +kernel) (by decide +kernel)
theorem wm_Fo_init : Cond.instanceMethod y_Fo_init ∈ WT := WT_in (k := 80) (by decide +kernel) (by decide +kernel)
theorem wc_Pr_init : Cond.code y_Pr_init b_Pr_init 2 none ∈ WT := WT_in (k := 101) (by decide +kernel) (by decide +kernel)
theorem wm_Pr_init : Cond.instanceMethod y_Pr_init ∈ WT := WT_in (k := 100) (by decide +kernel) (by decide +kernel)
theorem wc_Gr_init : Cond.code y_Gr_init b_Gr_init 2 none ∈ WT := WT_in (k := 138) (by decide +kernel) (by decide +kernel)
theorem wm_Gr_init : Cond.instanceMethod y_Gr_init ∈ WT := WT_in (k := 137) (by decide +kernel) (by decide +kernel)
theorem wc_Gr_numberGroups : Cond.code y_Gr_numberGroups b_Gr_numberGroups 3 none ∈ WT := WT_in (k := 143) (by decide +kernel) (by decide +kernel)
theorem wm_Gr_numberGroups : Cond.instanceMethod y_Gr_numberGroups ∈ WT := WT_in (k := 142) (by decide +kernel) (by decide +kernel)
theorem ws_Gr_numberGroups : Cond.selects R_Gr y_Gr_numberGroups y_Gr_numberGroups ∈ WT := WT_se (k := 0) (by decide +kernel) (by decide +kernel)
theorem wc_Ar_fill_aIIII : Cond.code y_Ar_fill_aIIII b_Ar_fill_aIIII 5 none ∈ WT := WT_in (k := 146) (by decide +kernel) (by decide +kernel)
theorem wt_Ar_fill_aIIII : Cond.static y_Ar_fill_aIIII ∈ WT := WT_in (k := 145) (by decide +kernel) (by decide +kernel)
theorem wc_Ar_rangeCheck : Cond.code y_Ar_rangeCheck b_Ar_rangeCheck 3 none ∈ WT := WT_in (k := 149) (by decide +kernel) (by decide +kernel)
theorem wt_Ar_rangeCheck : Cond.static y_Ar_rangeCheck ∈ WT := WT_in (k := 148) (by decide +kernel) (by decide +kernel)
theorem wc_Gr_placeStates : Cond.code y_Gr_placeStates b_Gr_placeStates 3 none ∈ WT := WT_in (k := 483) (by decide +kernel) (by decide +kernel)
theorem wm_Gr_placeStates : Cond.instanceMethod y_Gr_placeStates ∈ WT := WT_in (k := 482) (by decide +kernel) (by decide +kernel)
theorem ws_Gr_placeStates : Cond.selects R_Gr y_Gr_placeStates y_Gr_placeStates ∈ WT := WT_se (k := 2) (by decide +kernel) (by decide +kernel)
theorem wc_Ar_fill_aII : Cond.code y_Ar_fill_aII b_Ar_fill_aII 4 none ∈ WT := WT_in (k := 486) (by decide +kernel) (by decide +kernel)
theorem wt_Ar_fill_aII : Cond.static y_Ar_fill_aII ∈ WT := WT_in (k := 485) (by decide +kernel) (by decide +kernel)
theorem wc_Se_init : Cond.code y_Se_init b_Se_init 4 none ∈ WT := WT_in (k := 523) (by decide +kernel) (by decide +kernel)
theorem wm_Se_init : Cond.instanceMethod y_Se_init ∈ WT := WT_in (k := 522) (by decide +kernel) (by decide +kernel)
theorem wc_Pa_init : Cond.code y_Pa_init b_Pa_init 3 none ∈ WT := WT_in (k := 587) (by decide +kernel) (by decide +kernel)
theorem wm_Pa_init : Cond.instanceMethod y_Pa_init ∈ WT := WT_in (k := 586) (by decide +kernel) (by decide +kernel)
theorem wc_Re_init : Cond.code y_Re_init b_Re_init 4 none ∈ WT := WT_in (k := 603) (by decide +kernel) (by decide +kernel)
theorem wm_Re_init : Cond.instanceMethod y_Re_init ∈ WT := WT_in (k := 602) (by decide +kernel) (by decide +kernel)
theorem wc_Rf_init : Cond.code y_Rf_init b_Rf_init 5 none ∈ WT := WT_in (k := 633) (by decide +kernel) (by decide +kernel)
theorem wm_Rf_init : Cond.instanceMethod y_Rf_init ∈ WT := WT_in (k := 632) (by decide +kernel) (by decide +kernel)
theorem wc_PP_type : Cond.code y_PP_type b_PP_type 2 (some .int) ∈ WT := WT_in (k := 692) (by decide +kernel) (by decide +kernel)
theorem wm_PP_type : Cond.instanceMethod y_PP_type ∈ WT := WT_in (k := 690) (by decide +kernel) (by decide +kernel)
theorem ws_PP_type : Cond.selects R_PP y_PP_type y_PP_type ∈ WT := WT_in (k := 691) (by decide +kernel) (by decide +kernel)
theorem wc_Li_append : Cond.code y_Li_append b_Li_append 2 (some .int) ∈ WT := WT_in (k := 696) (by decide +kernel) (by decide +kernel)
theorem wm_Li_append : Cond.instanceMethod y_Li_append ∈ WT := WT_in (k := 694) (by decide +kernel) (by decide +kernel)
theorem ws_Li_append : Cond.selects R_Li y_Li_append y_Li_append ∈ WT := WT_in (k := 695) (by decide +kernel) (by decide +kernel)
theorem wc_PP_wipe : Cond.code y_PP_wipe b_PP_wipe 1 none ∈ WT := WT_in (k := 700) (by decide +kernel) (by decide +kernel)
theorem wm_PP_wipe : Cond.instanceMethod y_PP_wipe ∈ WT := WT_in (k := 698) (by decide +kernel) (by decide +kernel)
theorem ws_PP_wipe : Cond.selects R_PP y_PP_wipe y_PP_wipe ∈ WT := WT_in (k := 699) (by decide +kernel) (by decide +kernel)
theorem wc_Li_makeEmpty : Cond.code y_Li_makeEmpty b_Li_makeEmpty 1 none ∈ WT := WT_in (k := 704) (by decide +kernel) (by decide +kernel)
theorem wm_Li_makeEmpty : Cond.instanceMethod y_Li_makeEmpty ∈ WT := WT_in (k := 702) (by decide +kernel) (by decide +kernel)
theorem ws_Li_makeEmpty : Cond.selects R_Li y_Li_makeEmpty y_Li_makeEmpty ∈ WT := WT_in (k := 703) (by decide +kernel) (by decide +kernel)
theorem wc_PP_clear : Cond.code y_PP_clear b_PP_clear 1 none ∈ WT := WT_in (k := 708) (by decide +kernel) (by decide +kernel)
theorem wm_PP_clear : Cond.instanceMethod y_PP_clear ∈ WT := WT_in (k := 706) (by decide +kernel) (by decide +kernel)
theorem ws_PP_clear : Cond.selects R_PP y_PP_clear y_PP_clear ∈ WT := WT_in (k := 707) (by decide +kernel) (by decide +kernel)
theorem wc_Gr_dropPredicates : Cond.code y_Gr_dropPredicates b_Gr_dropPredicates 1 none ∈ WT := WT_in (k := 712) (by decide +kernel) (by decide +kernel)
theorem wm_Gr_dropPredicates : Cond.instanceMethod y_Gr_dropPredicates ∈ WT := WT_in (k := 710) (by decide +kernel) (by decide +kernel)
theorem ws_Gr_dropPredicates : Cond.selects R_Gr y_Gr_dropPredicates y_Gr_dropPredicates ∈ WT := WT_in (k := 711) (by decide +kernel) (by decide +kernel)
theorem wc_PP_forgetSearch : Cond.code y_PP_forgetSearch b_PP_forgetSearch 1 none ∈ WT := WT_in (k := 716) (by decide +kernel) (by decide +kernel)
theorem wm_PP_forgetSearch : Cond.instanceMethod y_PP_forgetSearch ∈ WT := WT_in (k := 715) (by decide +kernel) (by decide +kernel)
theorem ws_PP_forgetSearch : Cond.selects R_PP y_PP_forgetSearch y_PP_forgetSearch ∈ WT := WT_se (k := 3) (by decide +kernel) (by decide +kernel)
theorem wc_Se_forget : Cond.code y_Se_forget b_Se_forget 1 none ∈ WT := WT_in (k := 720) (by decide +kernel) (by decide +kernel)
theorem wm_Se_forget : Cond.instanceMethod y_Se_forget ∈ WT := WT_in (k := 718) (by decide +kernel) (by decide +kernel)
theorem ws_Se_forget : Cond.selects R_Se y_Se_forget y_Se_forget ∈ WT := WT_in (k := 719) (by decide +kernel) (by decide +kernel)
theorem wc_Re_forget : Cond.code y_Re_forget b_Re_forget 1 none ∈ WT := WT_in (k := 724) (by decide +kernel) (by decide +kernel)
theorem wm_Re_forget : Cond.instanceMethod y_Re_forget ∈ WT := WT_in (k := 722) (by decide +kernel) (by decide +kernel)
theorem ws_Re_forget : Cond.selects R_Re y_Re_forget y_Re_forget ∈ WT := WT_in (k := 723) (by decide +kernel) (by decide +kernel)
theorem wc_PP_outcome : Cond.code y_PP_outcome b_PP_outcome 1 (some .int) ∈ WT := WT_in (k := 728) (by decide +kernel) (by decide +kernel)
theorem wm_PP_outcome : Cond.instanceMethod y_PP_outcome ∈ WT := WT_in (k := 726) (by decide +kernel) (by decide +kernel)
theorem ws_PP_outcome : Cond.selects R_PP y_PP_outcome y_PP_outcome ∈ WT := WT_in (k := 727) (by decide +kernel) (by decide +kernel)
theorem wc_PP_edges : Cond.code y_PP_edges b_PP_edges 1 (some .int) ∈ WT := WT_in (k := 732) (by decide +kernel) (by decide +kernel)
theorem wm_PP_edges : Cond.instanceMethod y_PP_edges ∈ WT := WT_in (k := 730) (by decide +kernel) (by decide +kernel)
theorem ws_PP_edges : Cond.selects R_PP y_PP_edges y_PP_edges ∈ WT := WT_in (k := 731) (by decide +kernel) (by decide +kernel)
theorem wc_PP_predicates : Cond.code y_PP_predicates b_PP_predicates 1 (some .int) ∈ WT := WT_in (k := 736) (by decide +kernel) (by decide +kernel)
theorem wm_PP_predicates : Cond.instanceMethod y_PP_predicates ∈ WT := WT_in (k := 734) (by decide +kernel) (by decide +kernel)
theorem ws_PP_predicates : Cond.selects R_PP y_PP_predicates y_PP_predicates ∈ WT := WT_in (k := 735) (by decide +kernel) (by decide +kernel)
theorem wc_PP_nodes : Cond.code y_PP_nodes b_PP_nodes 1 (some .int) ∈ WT := WT_in (k := 740) (by decide +kernel) (by decide +kernel)
theorem wm_PP_nodes : Cond.instanceMethod y_PP_nodes ∈ WT := WT_in (k := 738) (by decide +kernel) (by decide +kernel)
theorem ws_PP_nodes : Cond.selects R_PP y_PP_nodes y_PP_nodes ∈ WT := WT_in (k := 739) (by decide +kernel) (by decide +kernel)
theorem wc_PP_length : Cond.code y_PP_length b_PP_length 1 (some .int) ∈ WT := WT_in (k := 744) (by decide +kernel) (by decide +kernel)
theorem wm_PP_length : Cond.instanceMethod y_PP_length ∈ WT := WT_in (k := 742) (by decide +kernel) (by decide +kernel)
theorem ws_PP_length : Cond.selects R_PP y_PP_length y_PP_length ∈ WT := WT_in (k := 743) (by decide +kernel) (by decide +kernel)
theorem wc_Lw_cell : Cond.code y_Lw_cell b_Lw_cell 2 (some .int) ∈ WT := WT_in (k := 747) (by decide +kernel) (by decide +kernel)
theorem wt_Lw_cell : Cond.static y_Lw_cell ∈ WT := WT_in (k := 746) (by decide +kernel) (by decide +kernel)
theorem wc_PP_edge : Cond.code y_PP_edge b_PP_edge 3 (some .int) ∈ WT := WT_in (k := 756) (by decide +kernel) (by decide +kernel)
theorem wm_PP_edge : Cond.instanceMethod y_PP_edge ∈ WT := WT_in (k := 754) (by decide +kernel) (by decide +kernel)
theorem ws_PP_edge : Cond.selects R_PP y_PP_edge y_PP_edge ∈ WT := WT_in (k := 755) (by decide +kernel) (by decide +kernel)
theorem wc_Pa_readEdge : Cond.code y_Pa_readEdge b_Pa_readEdge 1 (some .int) ∈ WT := WT_in (k := 760) (by decide +kernel) (by decide +kernel)
theorem wm_Pa_readEdge : Cond.instanceMethod y_Pa_readEdge ∈ WT := WT_in (k := 758) (by decide +kernel) (by decide +kernel)
theorem ws_Pa_readEdge : Cond.selects R_Pa y_Pa_readEdge y_Pa_readEdge ∈ WT := WT_in (k := 759) (by decide +kernel) (by decide +kernel)
theorem wc_Li_at : Cond.code y_Li_at b_Li_at 2 (some .char) ∈ WT := WT_in (k := 764) (by decide +kernel) (by decide +kernel)
theorem wm_Li_at : Cond.instanceMethod y_Li_at ∈ WT := WT_in (k := 762) (by decide +kernel) (by decide +kernel)
theorem ws_Li_at : Cond.selects R_Li y_Li_at y_Li_at ∈ WT := WT_in (k := 763) (by decide +kernel) (by decide +kernel)
theorem wc_Pa_isLocation : Cond.code y_Pa_isLocation b_Pa_isLocation 1 (some .boolean) ∈ WT := WT_in (k := 767) (by decide +kernel) (by decide +kernel)
theorem wt_Pa_isLocation : Cond.static y_Pa_isLocation ∈ WT := WT_in (k := 766) (by decide +kernel) (by decide +kernel)
theorem wc_Fo_isVariable : Cond.code y_Fo_isVariable b_Fo_isVariable 1 (some .boolean) ∈ WT := WT_in (k := 770) (by decide +kernel) (by decide +kernel)
theorem wt_Fo_isVariable : Cond.static y_Fo_isVariable ∈ WT := WT_in (k := 769) (by decide +kernel) (by decide +kernel)
theorem wc_Pa_readTerm : Cond.code y_Pa_readTerm b_Pa_readTerm 2 (some .boolean) ∈ WT := WT_in (k := 774) (by decide +kernel) (by decide +kernel)
theorem wm_Pa_readTerm : Cond.instanceMethod y_Pa_readTerm ∈ WT := WT_in (k := 773) (by decide +kernel) (by decide +kernel)
theorem ws_Pa_readTerm : Cond.selects R_Pa y_Pa_readTerm y_Pa_readTerm ∈ WT := WT_se (k := 4) (by decide +kernel) (by decide +kernel)
theorem wc_Fo_begin : Cond.code y_Fo_begin b_Fo_begin 1 none ∈ WT := WT_in (k := 778) (by decide +kernel) (by decide +kernel)
theorem wm_Fo_begin : Cond.instanceMethod y_Fo_begin ∈ WT := WT_in (k := 776) (by decide +kernel) (by decide +kernel)
theorem ws_Fo_begin : Cond.selects R_Fo y_Fo_begin y_Fo_begin ∈ WT := WT_in (k := 777) (by decide +kernel) (by decide +kernel)
theorem wc_Pa_passTerm : Cond.code y_Pa_passTerm b_Pa_passTerm 4 (some .boolean) ∈ WT := WT_in (k := 782) (by decide +kernel) (by decide +kernel)
theorem wm_Pa_passTerm : Cond.instanceMethod y_Pa_passTerm ∈ WT := WT_in (k := 781) (by decide +kernel) (by decide +kernel)
theorem ws_Pa_passTerm : Cond.selects R_Pa y_Pa_passTerm y_Pa_passTerm ∈ WT := WT_se (k := 5) (by decide +kernel) (by decide +kernel)
theorem wc_Pa_passPart : Cond.code y_Pa_passPart b_Pa_passPart 3 (some .boolean) ∈ WT := WT_in (k := 786) (by decide +kernel) (by decide +kernel)
theorem wm_Pa_passPart : Cond.instanceMethod y_Pa_passPart ∈ WT := WT_in (k := 785) (by decide +kernel) (by decide +kernel)
theorem ws_Pa_passPart : Cond.selects R_Pa y_Pa_passPart y_Pa_passPart ∈ WT := WT_se (k := 6) (by decide +kernel) (by decide +kernel)
theorem wc_Fo_isDigit : Cond.code y_Fo_isDigit b_Fo_isDigit 1 (some .boolean) ∈ WT := WT_in (k := 789) (by decide +kernel) (by decide +kernel)
theorem wt_Fo_isDigit : Cond.static y_Fo_isDigit ∈ WT := WT_in (k := 788) (by decide +kernel) (by decide +kernel)
theorem wc_Fo_add : Cond.code y_Fo_add b_Fo_add 2 none ∈ WT := WT_in (k := 793) (by decide +kernel) (by decide +kernel)
theorem wm_Fo_add : Cond.instanceMethod y_Fo_add ∈ WT := WT_in (k := 791) (by decide +kernel) (by decide +kernel)
theorem ws_Fo_add : Cond.selects R_Fo y_Fo_add y_Fo_add ∈ WT := WT_in (k := 792) (by decide +kernel) (by decide +kernel)
theorem wc_Pa_isOperator : Cond.code y_Pa_isOperator b_Pa_isOperator 1 (some .boolean) ∈ WT := WT_in (k := 796) (by decide +kernel) (by decide +kernel)
theorem wt_Pa_isOperator : Cond.static y_Pa_isOperator ∈ WT := WT_in (k := 795) (by decide +kernel) (by decide +kernel)
theorem wc_Pa_readAtom : Cond.code y_Pa_readAtom b_Pa_readAtom 3 (some .boolean) ∈ WT := WT_in (k := 800) (by decide +kernel) (by decide +kernel)
theorem wm_Pa_readAtom : Cond.instanceMethod y_Pa_readAtom ∈ WT := WT_in (k := 798) (by decide +kernel) (by decide +kernel)
theorem ws_Pa_readAtom : Cond.selects R_Pa y_Pa_readAtom y_Pa_readAtom ∈ WT := WT_in (k := 799) (by decide +kernel) (by decide +kernel)
theorem wc_Pa_isComparison : Cond.code y_Pa_isComparison b_Pa_isComparison 1 (some .boolean) ∈ WT := WT_in (k := 803) (by decide +kernel) (by decide +kernel)
theorem wt_Pa_isComparison : Cond.static y_Pa_isComparison ∈ WT := WT_in (k := 802) (by decide +kernel) (by decide +kernel)
theorem wc_Pr_isFull : Cond.code y_Pr_isFull b_Pr_isFull 1 (some .boolean) ∈ WT := WT_in (k := 810) (by decide +kernel) (by decide +kernel)
theorem wm_Pr_isFull : Cond.instanceMethod y_Pr_isFull ∈ WT := WT_in (k := 808) (by decide +kernel) (by decide +kernel)
theorem ws_Pr_isFull : Cond.selects R_Pr y_Pr_isFull y_Pr_isFull ∈ WT := WT_in (k := 809) (by decide +kernel) (by decide +kernel)
theorem wc_Pr_add : Cond.code y_Pr_add b_Pr_add 6 (some .int) ∈ WT := WT_in (k := 830) (by decide +kernel) (by decide +kernel)
theorem wm_Pr_add : Cond.instanceMethod y_Pr_add ∈ WT := WT_in (k := 828) (by decide +kernel) (by decide +kernel)
theorem ws_Pr_add : Cond.selects R_Pr y_Pr_add y_Pr_add ∈ WT := WT_in (k := 829) (by decide +kernel) (by decide +kernel)
theorem wc_Pr_targetOf : Cond.code y_Pr_targetOf b_Pr_targetOf 5 (some .int) ∈ WT := WT_in (k := 835) (by decide +kernel) (by decide +kernel)
theorem wm_Pr_targetOf : Cond.instanceMethod y_Pr_targetOf ∈ WT := WT_in (k := 834) (by decide +kernel) (by decide +kernel)
theorem ws_Pr_targetOf : Cond.selects R_Pr y_Pr_targetOf y_Pr_targetOf ∈ WT := WT_se (k := 7) (by decide +kernel) (by decide +kernel)
theorem wc_Sp_write : Cond.code y_Sp_write b_Sp_write 5 (some .int) ∈ WT := WT_in (k := 839) (by decide +kernel) (by decide +kernel)
theorem wm_Sp_write : Cond.instanceMethod y_Sp_write ∈ WT := WT_in (k := 837) (by decide +kernel) (by decide +kernel)
theorem ws_Sp_write : Cond.selects R_Sp y_Sp_write y_Sp_write ∈ WT := WT_in (k := 838) (by decide +kernel) (by decide +kernel)
theorem wc_Fo_valueIn : Cond.code y_Fo_valueIn b_Fo_valueIn 5 (some .int) ∈ WT := WT_in (k := 843) (by decide +kernel) (by decide +kernel)
theorem wm_Fo_valueIn : Cond.instanceMethod y_Fo_valueIn ∈ WT := WT_in (k := 841) (by decide +kernel) (by decide +kernel)
theorem ws_Fo_valueIn : Cond.selects R_Fo y_Fo_valueIn y_Fo_valueIn ∈ WT := WT_in (k := 842) (by decide +kernel) (by decide +kernel)
theorem wc_Sp_read : Cond.code y_Sp_read b_Sp_read 3 (some .int) ∈ WT := WT_in (k := 848) (by decide +kernel) (by decide +kernel)
theorem wm_Sp_read : Cond.instanceMethod y_Sp_read ∈ WT := WT_in (k := 846) (by decide +kernel) (by decide +kernel)
theorem ws_Sp_read : Cond.selects R_Sp y_Sp_read y_Sp_read ∈ WT := WT_in (k := 847) (by decide +kernel) (by decide +kernel)
theorem wc_Fo_combine : Cond.code y_Fo_combine b_Fo_combine 3 (some .int) ∈ WT := WT_in (k := 852) (by decide +kernel) (by decide +kernel)
theorem wt_Fo_combine : Cond.static y_Fo_combine ∈ WT := WT_in (k := 851) (by decide +kernel) (by decide +kernel)
theorem wc_PP_predicate : Cond.code y_PP_predicate b_PP_predicate 3 (some .int) ∈ WT := WT_in (k := 859) (by decide +kernel) (by decide +kernel)
theorem wm_PP_predicate : Cond.instanceMethod y_PP_predicate ∈ WT := WT_in (k := 857) (by decide +kernel) (by decide +kernel)
theorem ws_PP_predicate : Cond.selects R_PP y_PP_predicate y_PP_predicate ∈ WT := WT_in (k := 858) (by decide +kernel) (by decide +kernel)
theorem wc_Gr_isFull : Cond.code y_Gr_isFull b_Gr_isFull 1 (some .boolean) ∈ WT := WT_in (k := 865) (by decide +kernel) (by decide +kernel)
theorem wm_Gr_isFull : Cond.instanceMethod y_Gr_isFull ∈ WT := WT_in (k := 863) (by decide +kernel) (by decide +kernel)
theorem ws_Gr_isFull : Cond.selects R_Gr y_Gr_isFull y_Gr_isFull ∈ WT := WT_in (k := 864) (by decide +kernel) (by decide +kernel)
theorem wc_Gr_include : Cond.code y_Gr_include b_Gr_include 2 none ∈ WT := WT_in (k := 871) (by decide +kernel) (by decide +kernel)
theorem wm_Gr_include : Cond.instanceMethod y_Gr_include ∈ WT := WT_in (k := 869) (by decide +kernel) (by decide +kernel)
theorem ws_Gr_include : Cond.selects R_Gr y_Gr_include y_Gr_include ∈ WT := WT_in (k := 870) (by decide +kernel) (by decide +kernel)
theorem wc_Gr_endPredicate : Cond.code y_Gr_endPredicate b_Gr_endPredicate 1 none ∈ WT := WT_in (k := 875) (by decide +kernel) (by decide +kernel)
theorem wm_Gr_endPredicate : Cond.instanceMethod y_Gr_endPredicate ∈ WT := WT_in (k := 873) (by decide +kernel) (by decide +kernel)
theorem ws_Gr_endPredicate : Cond.selects R_Gr y_Gr_endPredicate y_Gr_endPredicate ∈ WT := WT_in (k := 874) (by decide +kernel) (by decide +kernel)
theorem wc_PP_prove : Cond.code y_PP_prove b_PP_prove 3 (some .int) ∈ WT := WT_in (k := 882) (by decide +kernel) (by decide +kernel)
theorem wm_PP_prove : Cond.instanceMethod y_PP_prove ∈ WT := WT_in (k := 880) (by decide +kernel) (by decide +kernel)
theorem ws_PP_prove : Cond.selects R_PP y_PP_prove y_PP_prove ∈ WT := WT_in (k := 881) (by decide +kernel) (by decide +kernel)
theorem wc_PP_makeRound : Cond.code y_PP_makeRound b_PP_makeRound 1 (some .int) ∈ WT := WT_in (k := 887) (by decide +kernel) (by decide +kernel)
theorem wm_PP_makeRound : Cond.instanceMethod y_PP_makeRound ∈ WT := WT_in (k := 886) (by decide +kernel) (by decide +kernel)
theorem ws_PP_makeRound : Cond.selects R_PP y_PP_makeRound y_PP_makeRound ∈ WT := WT_se (k := 8) (by decide +kernel) (by decide +kernel)
theorem wc_Se_run : Cond.code y_Se_run b_Se_run 4 none ∈ WT := WT_in (k := 891) (by decide +kernel) (by decide +kernel)
theorem wm_Se_run : Cond.instanceMethod y_Se_run ∈ WT := WT_in (k := 889) (by decide +kernel) (by decide +kernel)
theorem ws_Se_run : Cond.selects R_Se y_Se_run y_Se_run ∈ WT := WT_in (k := 890) (by decide +kernel) (by decide +kernel)
theorem wc_Ar_fill_aBB : Cond.code y_Ar_fill_aBB b_Ar_fill_aBB 4 none ∈ WT := WT_in (k := 895) (by decide +kernel) (by decide +kernel)
theorem wt_Ar_fill_aBB : Cond.static y_Ar_fill_aBB ∈ WT := WT_in (k := 894) (by decide +kernel) (by decide +kernel)
theorem wc_Se_addNode : Cond.code y_Se_addNode b_Se_addNode 5 none ∈ WT := WT_in (k := 899) (by decide +kernel) (by decide +kernel)
theorem wm_Se_addNode : Cond.instanceMethod y_Se_addNode ∈ WT := WT_in (k := 898) (by decide +kernel) (by decide +kernel)
theorem ws_Se_addNode : Cond.selects R_Se y_Se_addNode y_Se_addNode ∈ WT := WT_se (k := 9) (by decide +kernel) (by decide +kernel)
theorem wc_Gr_signatureOf : Cond.code y_Gr_signatureOf b_Gr_signatureOf 2 (some .int) ∈ WT := WT_in (k := 903) (by decide +kernel) (by decide +kernel)
theorem wm_Gr_signatureOf : Cond.instanceMethod y_Gr_signatureOf ∈ WT := WT_in (k := 901) (by decide +kernel) (by decide +kernel)
theorem ws_Gr_signatureOf : Cond.selects R_Gr y_Gr_signatureOf y_Gr_signatureOf ∈ WT := WT_in (k := 902) (by decide +kernel) (by decide +kernel)
theorem wc_Se_take : Cond.code y_Se_take b_Se_take 5 (some .boolean) ∈ WT := WT_in (k := 907) (by decide +kernel) (by decide +kernel)
theorem wm_Se_take : Cond.instanceMethod y_Se_take ∈ WT := WT_in (k := 906) (by decide +kernel) (by decide +kernel)
theorem ws_Se_take : Cond.selects R_Se y_Se_take y_Se_take ∈ WT := WT_se (k := 10) (by decide +kernel) (by decide +kernel)
theorem wc_Se_markReached : Cond.code y_Se_markReached b_Se_markReached 7 none ∈ WT := WT_in (k := 911) (by decide +kernel) (by decide +kernel)
theorem wm_Se_markReached : Cond.instanceMethod y_Se_markReached ∈ WT := WT_in (k := 910) (by decide +kernel) (by decide +kernel)
theorem ws_Se_markReached : Cond.selects R_Se y_Se_markReached y_Se_markReached ∈ WT := WT_se (k := 11) (by decide +kernel) (by decide +kernel)
theorem wc_Ar_fill_aBIIB : Cond.code y_Ar_fill_aBIIB b_Ar_fill_aBIIB 5 none ∈ WT := WT_in (k := 914) (by decide +kernel) (by decide +kernel)
theorem wt_Ar_fill_aBIIB : Cond.static y_Ar_fill_aBIIB ∈ WT := WT_in (k := 913) (by decide +kernel) (by decide +kernel)
theorem wc_Pr_choices : Cond.code y_Pr_choices b_Pr_choices 2 (some .int) ∈ WT := WT_in (k := 918) (by decide +kernel) (by decide +kernel)
theorem wm_Pr_choices : Cond.instanceMethod y_Pr_choices ∈ WT := WT_in (k := 916) (by decide +kernel) (by decide +kernel)
theorem ws_Pr_choices : Cond.selects R_Pr y_Pr_choices y_Pr_choices ∈ WT := WT_in (k := 917) (by decide +kernel) (by decide +kernel)
theorem wc_Pr_step : Cond.code y_Pr_step b_Pr_step 5 (some .int) ∈ WT := WT_in (k := 922) (by decide +kernel) (by decide +kernel)
theorem wm_Pr_step : Cond.instanceMethod y_Pr_step ∈ WT := WT_in (k := 920) (by decide +kernel) (by decide +kernel)
theorem ws_Pr_step : Cond.selects R_Pr y_Pr_step y_Pr_step ∈ WT := WT_in (k := 921) (by decide +kernel) (by decide +kernel)
theorem wc_Se_tracePath : Cond.code y_Se_tracePath b_Se_tracePath 4 none ∈ WT := WT_in (k := 926) (by decide +kernel) (by decide +kernel)
theorem wm_Se_tracePath : Cond.instanceMethod y_Se_tracePath ∈ WT := WT_in (k := 925) (by decide +kernel) (by decide +kernel)
theorem ws_Se_tracePath : Cond.selects R_Se y_Se_tracePath y_Se_tracePath ∈ WT := WT_se (k := 12) (by decide +kernel) (by decide +kernel)
theorem wc_Re_succeeds : Cond.code y_Re_succeeds b_Re_succeeds 2 (some .boolean) ∈ WT := WT_in (k := 930) (by decide +kernel) (by decide +kernel)
theorem wm_Re_succeeds : Cond.instanceMethod y_Re_succeeds ∈ WT := WT_in (k := 928) (by decide +kernel) (by decide +kernel)
theorem ws_Re_succeeds : Cond.selects R_Re y_Re_succeeds y_Re_succeeds ∈ WT := WT_in (k := 929) (by decide +kernel) (by decide +kernel)
theorem wc_Ar_fill_aJJ : Cond.code y_Ar_fill_aJJ b_Ar_fill_aJJ 5 none ∈ WT := WT_in (k := 934) (by decide +kernel) (by decide +kernel)
theorem wt_Ar_fill_aJJ : Cond.static y_Ar_fill_aJJ ∈ WT := WT_in (k := 933) (by decide +kernel) (by decide +kernel)
theorem wc_Re_openBefore : Cond.code y_Re_openBefore b_Re_openBefore 3 none ∈ WT := WT_in (k := 938) (by decide +kernel) (by decide +kernel)
theorem wm_Re_openBefore : Cond.instanceMethod y_Re_openBefore ∈ WT := WT_in (k := 937) (by decide +kernel) (by decide +kernel)
theorem ws_Re_openBefore : Cond.selects R_Re y_Re_openBefore y_Re_openBefore ∈ WT := WT_se (k := 13) (by decide +kernel) (by decide +kernel)
theorem wc_Re_leastInput : Cond.code y_Re_leastInput b_Re_leastInput 7 (some .int) ∈ WT := WT_in (k := 942) (by decide +kernel) (by decide +kernel)
theorem wm_Re_leastInput : Cond.instanceMethod y_Re_leastInput ∈ WT := WT_in (k := 941) (by decide +kernel) (by decide +kernel)
theorem ws_Re_leastInput : Cond.selects R_Re y_Re_leastInput y_Re_leastInput ∈ WT := WT_se (k := 14) (by decide +kernel) (by decide +kernel)
theorem wc_Re_isOpen : Cond.code y_Re_isOpen b_Re_isOpen 3 (some .boolean) ∈ WT := WT_in (k := 948) (by decide +kernel) (by decide +kernel)
theorem wm_Re_isOpen : Cond.instanceMethod y_Re_isOpen ∈ WT := WT_in (k := 947) (by decide +kernel) (by decide +kernel)
theorem ws_Re_isOpen : Cond.selects R_Re y_Re_isOpen y_Re_isOpen ∈ WT := WT_se (k := 15) (by decide +kernel) (by decide +kernel)
theorem wc_Re_collectInputs : Cond.code y_Re_collectInputs b_Re_collectInputs 5 none ∈ WT := WT_in (k := 952) (by decide +kernel) (by decide +kernel)
theorem wm_Re_collectInputs : Cond.instanceMethod y_Re_collectInputs ∈ WT := WT_in (k := 951) (by decide +kernel) (by decide +kernel)
theorem ws_Re_collectInputs : Cond.selects R_Re y_Re_collectInputs y_Re_collectInputs ∈ WT := WT_se (k := 16) (by decide +kernel) (by decide +kernel)
theorem wc_Rf_refine : Cond.code y_Rf_refine b_Rf_refine 3 (some .boolean) ∈ WT := WT_in (k := 956) (by decide +kernel) (by decide +kernel)
theorem wm_Rf_refine : Cond.instanceMethod y_Rf_refine ∈ WT := WT_in (k := 954) (by decide +kernel) (by decide +kernel)
theorem ws_Rf_refine : Cond.selects R_Rf y_Rf_refine y_Rf_refine ∈ WT := WT_in (k := 955) (by decide +kernel) (by decide +kernel)
theorem wc_Rf_passEdge : Cond.code y_Rf_passEdge b_Rf_passEdge 4 none ∈ WT := WT_in (k := 960) (by decide +kernel) (by decide +kernel)
theorem wm_Rf_passEdge : Cond.instanceMethod y_Rf_passEdge ∈ WT := WT_in (k := 959) (by decide +kernel) (by decide +kernel)
theorem ws_Rf_passEdge : Cond.selects R_Rf y_Rf_passEdge y_Rf_passEdge ∈ WT := WT_se (k := 17) (by decide +kernel) (by decide +kernel)
theorem wc_Rf_takeAlong : Cond.code y_Rf_takeAlong b_Rf_takeAlong 5 none ∈ WT := WT_in (k := 964) (by decide +kernel) (by decide +kernel)
theorem wm_Rf_takeAlong : Cond.instanceMethod y_Rf_takeAlong ∈ WT := WT_in (k := 963) (by decide +kernel) (by decide +kernel)
theorem ws_Rf_takeAlong : Cond.selects R_Rf y_Rf_takeAlong y_Rf_takeAlong ∈ WT := WT_se (k := 18) (by decide +kernel) (by decide +kernel)
theorem wc_Rf_rowsInUse : Cond.code y_Rf_rowsInUse b_Rf_rowsInUse 1 (some .int) ∈ WT := WT_in (k := 969) (by decide +kernel) (by decide +kernel)
theorem wm_Rf_rowsInUse : Cond.instanceMethod y_Rf_rowsInUse ∈ WT := WT_in (k := 968) (by decide +kernel) (by decide +kernel)
theorem ws_Rf_rowsInUse : Cond.selects R_Rf y_Rf_rowsInUse y_Rf_rowsInUse ∈ WT := WT_se (k := 19) (by decide +kernel) (by decide +kernel)
theorem wc_Rf_pullBack : Cond.code y_Rf_pullBack b_Rf_pullBack 4 none ∈ WT := WT_in (k := 973) (by decide +kernel) (by decide +kernel)
theorem wm_Rf_pullBack : Cond.instanceMethod y_Rf_pullBack ∈ WT := WT_in (k := 972) (by decide +kernel) (by decide +kernel)
theorem ws_Rf_pullBack : Cond.selects R_Rf y_Rf_pullBack y_Rf_pullBack ∈ WT := WT_se (k := 20) (by decide +kernel) (by decide +kernel)
theorem wc_Rf_leaveBehind : Cond.code y_Rf_leaveBehind b_Rf_leaveBehind 6 none ∈ WT := WT_in (k := 978) (by decide +kernel) (by decide +kernel)
theorem wm_Rf_leaveBehind : Cond.instanceMethod y_Rf_leaveBehind ∈ WT := WT_in (k := 977) (by decide +kernel) (by decide +kernel)
theorem ws_Rf_leaveBehind : Cond.selects R_Rf y_Rf_leaveBehind y_Rf_leaveBehind ∈ WT := WT_se (k := 21) (by decide +kernel) (by decide +kernel)
theorem wc_Rf_adoptTaken : Cond.code y_Rf_adoptTaken b_Rf_adoptTaken 5 (some .boolean) ∈ WT := WT_in (k := 983) (by decide +kernel) (by decide +kernel)
theorem wm_Rf_adoptTaken : Cond.instanceMethod y_Rf_adoptTaken ∈ WT := WT_in (k := 982) (by decide +kernel) (by decide +kernel)
theorem ws_Rf_adoptTaken : Cond.selects R_Rf y_Rf_adoptTaken y_Rf_adoptTaken ∈ WT := WT_se (k := 22) (by decide +kernel) (by decide +kernel)
theorem wc_Gr_splitting : Cond.code y_Gr_splitting b_Gr_splitting 5 (some .long) ∈ WT := WT_in (k := 987) (by decide +kernel) (by decide +kernel)
theorem wm_Gr_splitting : Cond.instanceMethod y_Gr_splitting ∈ WT := WT_in (k := 985) (by decide +kernel) (by decide +kernel)
theorem ws_Gr_splitting : Cond.selects R_Gr y_Gr_splitting y_Gr_splitting ∈ WT := WT_in (k := 986) (by decide +kernel) (by decide +kernel)
theorem wc_Rf_adopt : Cond.code y_Rf_adopt b_Rf_adopt 4 none ∈ WT := WT_in (k := 992) (by decide +kernel) (by decide +kernel)
theorem wm_Rf_adopt : Cond.instanceMethod y_Rf_adopt ∈ WT := WT_in (k := 991) (by decide +kernel) (by decide +kernel)
theorem ws_Rf_adopt : Cond.selects R_Rf y_Rf_adopt y_Rf_adopt ∈ WT := WT_se (k := 23) (by decide +kernel) (by decide +kernel)
theorem wc_Rf_adoptVariableBit : Cond.code y_Rf_adoptVariableBit b_Rf_adoptVariableBit 4 (some .boolean) ∈ WT := WT_in (k := 998) (by decide +kernel) (by decide +kernel)
theorem wm_Rf_adoptVariableBit : Cond.instanceMethod y_Rf_adoptVariableBit ∈ WT := WT_in (k := 997) (by decide +kernel) (by decide +kernel)
theorem ws_Rf_adoptVariableBit : Cond.selects R_Rf y_Rf_adoptVariableBit y_Rf_adoptVariableBit ∈ WT := WT_se (k := 24) (by decide +kernel) (by decide +kernel)
theorem wc_PP_holds : Cond.code y_PP_holds b_PP_holds 3 (some .boolean) ∈ WT := WT_in (k := 1006) (by decide +kernel) (by decide +kernel)
theorem wm_PP_holds : Cond.instanceMethod y_PP_holds ∈ WT := WT_in (k := 1004) (by decide +kernel) (by decide +kernel)
theorem ws_PP_holds : Cond.selects R_PP y_PP_holds y_PP_holds ∈ WT := WT_in (k := 1005) (by decide +kernel) (by decide +kernel)
theorem wc_Sp_contains : Cond.code y_Sp_contains b_Sp_contains 2 (some .boolean) ∈ WT := WT_in (k := 1010) (by decide +kernel) (by decide +kernel)
theorem wm_Sp_contains : Cond.instanceMethod y_Sp_contains ∈ WT := WT_in (k := 1008) (by decide +kernel) (by decide +kernel)
theorem ws_Sp_contains : Cond.selects R_Sp y_Sp_contains y_Sp_contains ∈ WT := WT_in (k := 1009) (by decide +kernel) (by decide +kernel)
theorem wc_PP_signature : Cond.code y_PP_signature b_PP_signature 2 (some .short) ∈ WT := WT_in (k := 1030) (by decide +kernel) (by decide +kernel)
theorem wm_PP_signature : Cond.instanceMethod y_PP_signature ∈ WT := WT_in (k := 1028) (by decide +kernel) (by decide +kernel)
theorem ws_PP_signature : Cond.selects R_PP y_PP_signature y_PP_signature ∈ WT := WT_in (k := 1029) (by decide +kernel) (by decide +kernel)
theorem wc_PP_follow : Cond.code y_PP_follow b_PP_follow 4 (some .int) ∈ WT := WT_in (k := 1038) (by decide +kernel) (by decide +kernel)
theorem wm_PP_follow : Cond.instanceMethod y_PP_follow ∈ WT := WT_in (k := 1036) (by decide +kernel) (by decide +kernel)
theorem ws_PP_follow : Cond.selects R_PP y_PP_follow y_PP_follow ∈ WT := WT_in (k := 1037) (by decide +kernel) (by decide +kernel)
theorem wc_PP_node : Cond.code y_PP_node b_PP_node 3 (some .int) ∈ WT := WT_in (k := 1047) (by decide +kernel) (by decide +kernel)
theorem wm_PP_node : Cond.instanceMethod y_PP_node ∈ WT := WT_in (k := 1045) (by decide +kernel) (by decide +kernel)
theorem ws_PP_node : Cond.selects R_PP y_PP_node y_PP_node ∈ WT := WT_in (k := 1046) (by decide +kernel) (by decide +kernel)
theorem wc_PP_path : Cond.code y_PP_path b_PP_path 2 (some .int) ∈ WT := WT_in (k := 1056) (by decide +kernel) (by decide +kernel)
theorem wm_PP_path : Cond.instanceMethod y_PP_path ∈ WT := WT_in (k := 1054) (by decide +kernel) (by decide +kernel)
theorem ws_PP_path : Cond.selects R_PP y_PP_path y_PP_path ∈ WT := WT_in (k := 1055) (by decide +kernel) (by decide +kernel)
theorem wc_PP_input : Cond.code y_PP_input b_PP_input 2 (some .int) ∈ WT := WT_in (k := 1064) (by decide +kernel) (by decide +kernel)
theorem wm_PP_input : Cond.instanceMethod y_PP_input ∈ WT := WT_in (k := 1062) (by decide +kernel) (by decide +kernel)
theorem ws_PP_input : Cond.selects R_PP y_PP_input y_PP_input ∈ WT := WT_in (k := 1063) (by decide +kernel) (by decide +kernel)
theorem wc_Mo_init : Cond.code y_Mo_init b_Mo_init 2 none ∈ WT := WT_in (k := 1070) (by decide +kernel) (by decide +kernel)
theorem wm_Mo_init : Cond.instanceMethod y_Mo_init ∈ WT := WT_in (k := 1069) (by decide +kernel) (by decide +kernel)
theorem wc_Mo_thrown : Cond.code y_Mo_thrown b_Mo_thrown 1 (some .int) ∈ WT := WT_in (k := 1170) (by decide +kernel) (by decide +kernel)
theorem wm_Mo_thrown : Cond.instanceMethod y_Mo_thrown ∈ WT := WT_in (k := 1168) (by decide +kernel) (by decide +kernel)
theorem ws_Mo_thrown : Cond.selects R_Mo y_Mo_thrown y_Mo_thrown ∈ WT := WT_in (k := 1169) (by decide +kernel) (by decide +kernel)
theorem wc_Mo_type : Cond.code y_Mo_type b_Mo_type 2 (some .int) ∈ WT := WT_in (k := 1174) (by decide +kernel) (by decide +kernel)
theorem wm_Mo_type : Cond.instanceMethod y_Mo_type ∈ WT := WT_in (k := 1172) (by decide +kernel) (by decide +kernel)
theorem ws_Mo_type : Cond.selects R_Mo y_Mo_type y_Mo_type ∈ WT := WT_in (k := 1173) (by decide +kernel) (by decide +kernel)
theorem wc_Mo_wipe : Cond.code y_Mo_wipe b_Mo_wipe 1 none ∈ WT := WT_in (k := 1178) (by decide +kernel) (by decide +kernel)
theorem wm_Mo_wipe : Cond.instanceMethod y_Mo_wipe ∈ WT := WT_in (k := 1176) (by decide +kernel) (by decide +kernel)
theorem ws_Mo_wipe : Cond.selects R_Mo y_Mo_wipe y_Mo_wipe ∈ WT := WT_in (k := 1177) (by decide +kernel) (by decide +kernel)
theorem wc_Mo_edge : Cond.code y_Mo_edge b_Mo_edge 9 (some .int) ∈ WT := WT_in (k := 1182) (by decide +kernel) (by decide +kernel)
theorem wm_Mo_edge : Cond.instanceMethod y_Mo_edge ∈ WT := WT_in (k := 1180) (by decide +kernel) (by decide +kernel)
theorem ws_Mo_edge : Cond.selects R_Mo y_Mo_edge y_Mo_edge ∈ WT := WT_in (k := 1181) (by decide +kernel) (by decide +kernel)
theorem wc_Mo_at : Cond.code y_Mo_at b_Mo_at 2 (some .int) ∈ WT := WT_in (k := 1186) (by decide +kernel) (by decide +kernel)
theorem wm_Mo_at : Cond.instanceMethod y_Mo_at ∈ WT := WT_in (k := 1185) (by decide +kernel) (by decide +kernel)
theorem ws_Mo_at : Cond.selects R_Mo y_Mo_at y_Mo_at ∈ WT := WT_se (k := 25) (by decide +kernel) (by decide +kernel)
theorem wc_Mo_isLocation : Cond.code y_Mo_isLocation b_Mo_isLocation 1 (some .boolean) ∈ WT := WT_in (k := 1189) (by decide +kernel) (by decide +kernel)
theorem wt_Mo_isLocation : Cond.static y_Mo_isLocation ∈ WT := WT_in (k := 1188) (by decide +kernel) (by decide +kernel)
theorem wc_Mo_fail : Cond.code y_Mo_fail b_Mo_fail 2 (some .int) ∈ WT := WT_in (k := 1193) (by decide +kernel) (by decide +kernel)
theorem wm_Mo_fail : Cond.instanceMethod y_Mo_fail ∈ WT := WT_in (k := 1192) (by decide +kernel) (by decide +kernel)
theorem ws_Mo_fail : Cond.selects R_Mo y_Mo_fail y_Mo_fail ∈ WT := WT_se (k := 26) (by decide +kernel) (by decide +kernel)
theorem wc_Mo_isVariable : Cond.code y_Mo_isVariable b_Mo_isVariable 1 (some .boolean) ∈ WT := WT_in (k := 1196) (by decide +kernel) (by decide +kernel)
theorem wt_Mo_isVariable : Cond.static y_Mo_isVariable ∈ WT := WT_in (k := 1195) (by decide +kernel) (by decide +kernel)
theorem wc_Mo_relationAt : Cond.code y_Mo_relationAt b_Mo_relationAt 3 (some .int) ∈ WT := WT_in (k := 1200) (by decide +kernel) (by decide +kernel)
theorem wm_Mo_relationAt : Cond.instanceMethod y_Mo_relationAt ∈ WT := WT_in (k := 1199) (by decide +kernel) (by decide +kernel)
theorem ws_Mo_relationAt : Cond.selects R_Mo y_Mo_relationAt y_Mo_relationAt ∈ WT := WT_se (k := 27) (by decide +kernel) (by decide +kernel)
theorem wc_Mo_termEnd : Cond.code y_Mo_termEnd b_Mo_termEnd 7 (some .int) ∈ WT := WT_in (k := 1204) (by decide +kernel) (by decide +kernel)
theorem wm_Mo_termEnd : Cond.instanceMethod y_Mo_termEnd ∈ WT := WT_in (k := 1203) (by decide +kernel) (by decide +kernel)
theorem ws_Mo_termEnd : Cond.selects R_Mo y_Mo_termEnd y_Mo_termEnd ∈ WT := WT_se (k := 28) (by decide +kernel) (by decide +kernel)
theorem wc_Mo_isSign : Cond.code y_Mo_isSign b_Mo_isSign 1 (some .boolean) ∈ WT := WT_in (k := 1207) (by decide +kernel) (by decide +kernel)
theorem wt_Mo_isSign : Cond.static y_Mo_isSign ∈ WT := WT_in (k := 1206) (by decide +kernel) (by decide +kernel)
theorem wc_Mo_isRelation : Cond.code y_Mo_isRelation b_Mo_isRelation 1 (some .boolean) ∈ WT := WT_in (k := 1210) (by decide +kernel) (by decide +kernel)
theorem wt_Mo_isRelation : Cond.static y_Mo_isRelation ∈ WT := WT_in (k := 1209) (by decide +kernel) (by decide +kernel)
theorem wc_Mo_worked : Cond.code y_Mo_worked b_Mo_worked 8 (some .int) ∈ WT := WT_in (k := 1214) (by decide +kernel) (by decide +kernel)
theorem wm_Mo_worked : Cond.instanceMethod y_Mo_worked ∈ WT := WT_in (k := 1213) (by decide +kernel) (by decide +kernel)
theorem ws_Mo_worked : Cond.selects R_Mo y_Mo_worked y_Mo_worked ∈ WT := WT_se (k := 29) (by decide +kernel) (by decide +kernel)
theorem wc_Mo_join : Cond.code y_Mo_join b_Mo_join 5 none ∈ WT := WT_in (k := 1218) (by decide +kernel) (by decide +kernel)
theorem wm_Mo_join : Cond.instanceMethod y_Mo_join ∈ WT := WT_in (k := 1217) (by decide +kernel) (by decide +kernel)
theorem ws_Mo_join : Cond.selects R_Mo y_Mo_join y_Mo_join ∈ WT := WT_se (k := 30) (by decide +kernel) (by decide +kernel)
theorem wc_Mo_part : Cond.code y_Mo_part b_Mo_part 3 (some .int) ∈ WT := WT_in (k := 1222) (by decide +kernel) (by decide +kernel)
theorem wm_Mo_part : Cond.instanceMethod y_Mo_part ∈ WT := WT_in (k := 1221) (by decide +kernel) (by decide +kernel)
theorem ws_Mo_part : Cond.selects R_Mo y_Mo_part y_Mo_part ∈ WT := WT_se (k := 31) (by decide +kernel) (by decide +kernel)
theorem wc_Mo_valueOf : Cond.code y_Mo_valueOf b_Mo_valueOf 3 (some .int) ∈ WT := WT_in (k := 1226) (by decide +kernel) (by decide +kernel)
theorem wm_Mo_valueOf : Cond.instanceMethod y_Mo_valueOf ∈ WT := WT_in (k := 1225) (by decide +kernel) (by decide +kernel)
theorem ws_Mo_valueOf : Cond.selects R_Mo y_Mo_valueOf y_Mo_valueOf ∈ WT := WT_se (k := 32) (by decide +kernel) (by decide +kernel)
theorem wc_Mo_atom : Cond.code y_Mo_atom b_Mo_atom 6 (some .boolean) ∈ WT := WT_in (k := 1230) (by decide +kernel) (by decide +kernel)
theorem wm_Mo_atom : Cond.instanceMethod y_Mo_atom ∈ WT := WT_in (k := 1229) (by decide +kernel) (by decide +kernel)
theorem ws_Mo_atom : Cond.selects R_Mo y_Mo_atom y_Mo_atom ∈ WT := WT_se (k := 33) (by decide +kernel) (by decide +kernel)
theorem wc_Mo_forget : Cond.code y_Mo_forget b_Mo_forget 1 none ∈ WT := WT_in (k := 1234) (by decide +kernel) (by decide +kernel)
theorem wm_Mo_forget : Cond.instanceMethod y_Mo_forget ∈ WT := WT_in (k := 1233) (by decide +kernel) (by decide +kernel)
theorem ws_Mo_forget : Cond.selects R_Mo y_Mo_forget y_Mo_forget ∈ WT := WT_se (k := 34) (by decide +kernel) (by decide +kernel)
theorem wc_Mo_predicate : Cond.code y_Mo_predicate b_Mo_predicate 3 (some .int) ∈ WT := WT_in (k := 1238) (by decide +kernel) (by decide +kernel)
theorem wm_Mo_predicate : Cond.instanceMethod y_Mo_predicate ∈ WT := WT_in (k := 1236) (by decide +kernel) (by decide +kernel)
theorem ws_Mo_predicate : Cond.selects R_Mo y_Mo_predicate y_Mo_predicate ∈ WT := WT_in (k := 1237) (by decide +kernel) (by decide +kernel)
theorem wc_Mo_addWork : Cond.code y_Mo_addWork b_Mo_addWork 2 none ∈ WT := WT_in (k := 1242) (by decide +kernel) (by decide +kernel)
theorem wm_Mo_addWork : Cond.instanceMethod y_Mo_addWork ∈ WT := WT_in (k := 1241) (by decide +kernel) (by decide +kernel)
theorem ws_Mo_addWork : Cond.selects R_Mo y_Mo_addWork y_Mo_addWork ∈ WT := WT_se (k := 35) (by decide +kernel) (by decide +kernel)
theorem wc_Mo_clear : Cond.code y_Mo_clear b_Mo_clear 2 none ∈ WT := WT_in (k := 1246) (by decide +kernel) (by decide +kernel)
theorem wm_Mo_clear : Cond.instanceMethod y_Mo_clear ∈ WT := WT_in (k := 1244) (by decide +kernel) (by decide +kernel)
theorem ws_Mo_clear : Cond.selects R_Mo y_Mo_clear y_Mo_clear ∈ WT := WT_in (k := 1245) (by decide +kernel) (by decide +kernel)
theorem wc_Mo_prove : Cond.code y_Mo_prove b_Mo_prove 5 (some .int) ∈ WT := WT_in (k := 1250) (by decide +kernel) (by decide +kernel)
theorem wm_Mo_prove : Cond.instanceMethod y_Mo_prove ∈ WT := WT_in (k := 1248) (by decide +kernel) (by decide +kernel)
theorem ws_Mo_prove : Cond.selects R_Mo y_Mo_prove y_Mo_prove ∈ WT := WT_in (k := 1249) (by decide +kernel) (by decide +kernel)
theorem wc_Mo_search : Cond.code y_Mo_search b_Mo_search 4 none ∈ WT := WT_in (k := 1254) (by decide +kernel) (by decide +kernel)
theorem wm_Mo_search : Cond.instanceMethod y_Mo_search ∈ WT := WT_in (k := 1253) (by decide +kernel) (by decide +kernel)
theorem ws_Mo_search : Cond.selects R_Mo y_Mo_search y_Mo_search ∈ WT := WT_se (k := 36) (by decide +kernel) (by decide +kernel)
theorem wc_Mo_spread : Cond.code y_Mo_spread b_Mo_spread 4 (some .boolean) ∈ WT := WT_in (k := 1258) (by decide +kernel) (by decide +kernel)
theorem wm_Mo_spread : Cond.instanceMethod y_Mo_spread ∈ WT := WT_in (k := 1257) (by decide +kernel) (by decide +kernel)
theorem ws_Mo_spread : Cond.selects R_Mo y_Mo_spread y_Mo_spread ∈ WT := WT_se (k := 37) (by decide +kernel) (by decide +kernel)
theorem wc_Mo_mark : Cond.code y_Mo_mark b_Mo_mark 4 none ∈ WT := WT_in (k := 1262) (by decide +kernel) (by decide +kernel)
theorem wm_Mo_mark : Cond.instanceMethod y_Mo_mark ∈ WT := WT_in (k := 1261) (by decide +kernel) (by decide +kernel)
theorem ws_Mo_mark : Cond.selects R_Mo y_Mo_mark y_Mo_mark ∈ WT := WT_se (k := 38) (by decide +kernel) (by decide +kernel)
theorem wc_Mo_led : Cond.code y_Mo_led b_Mo_led 3 (some .int) ∈ WT := WT_in (k := 1266) (by decide +kernel) (by decide +kernel)
theorem wm_Mo_led : Cond.instanceMethod y_Mo_led ∈ WT := WT_in (k := 1265) (by decide +kernel) (by decide +kernel)
theorem ws_Mo_led : Cond.selects R_Mo y_Mo_led y_Mo_led ∈ WT := WT_se (k := 39) (by decide +kernel) (by decide +kernel)
theorem wc_Mo_bit : Cond.code y_Mo_bit b_Mo_bit 3 (some .int) ∈ WT := WT_in (k := 1269) (by decide +kernel) (by decide +kernel)
theorem wt_Mo_bit : Cond.static y_Mo_bit ∈ WT := WT_in (k := 1268) (by decide +kernel) (by decide +kernel)
theorem wc_Mo_with : Cond.code y_Mo_with b_Mo_with 4 (some .int) ∈ WT := WT_in (k := 1273) (by decide +kernel) (by decide +kernel)
theorem wm_Mo_with : Cond.instanceMethod y_Mo_with ∈ WT := WT_in (k := 1272) (by decide +kernel) (by decide +kernel)
theorem ws_Mo_with : Cond.selects R_Mo y_Mo_with y_Mo_with ∈ WT := WT_se (k := 40) (by decide +kernel) (by decide +kernel)
theorem wc_Mo_isOn : Cond.code y_Mo_isOn b_Mo_isOn 3 (some .boolean) ∈ WT := WT_in (k := 1277) (by decide +kernel) (by decide +kernel)
theorem wm_Mo_isOn : Cond.instanceMethod y_Mo_isOn ∈ WT := WT_in (k := 1276) (by decide +kernel) (by decide +kernel)
theorem ws_Mo_isOn : Cond.selects R_Mo y_Mo_isOn y_Mo_isOn ∈ WT := WT_se (k := 41) (by decide +kernel) (by decide +kernel)
theorem wc_Mo_known : Cond.code y_Mo_known b_Mo_known 4 (some .boolean) ∈ WT := WT_in (k := 1281) (by decide +kernel) (by decide +kernel)
theorem wm_Mo_known : Cond.instanceMethod y_Mo_known ∈ WT := WT_in (k := 1280) (by decide +kernel) (by decide +kernel)
theorem ws_Mo_known : Cond.selects R_Mo y_Mo_known y_Mo_known ∈ WT := WT_se (k := 42) (by decide +kernel) (by decide +kernel)
theorem wc_Mo_isTrue : Cond.code y_Mo_isTrue b_Mo_isTrue 5 (some .boolean) ∈ WT := WT_in (k := 1285) (by decide +kernel) (by decide +kernel)
theorem wm_Mo_isTrue : Cond.instanceMethod y_Mo_isTrue ∈ WT := WT_in (k := 1284) (by decide +kernel) (by decide +kernel)
theorem ws_Mo_isTrue : Cond.selects R_Mo y_Mo_isTrue y_Mo_isTrue ∈ WT := WT_se (k := 43) (by decide +kernel) (by decide +kernel)
theorem wc_Mo_store : Cond.code y_Mo_store b_Mo_store 3 none ∈ WT := WT_in (k := 1289) (by decide +kernel) (by decide +kernel)
theorem wm_Mo_store : Cond.instanceMethod y_Mo_store ∈ WT := WT_in (k := 1288) (by decide +kernel) (by decide +kernel)
theorem ws_Mo_store : Cond.selects R_Mo y_Mo_store y_Mo_store ∈ WT := WT_se (k := 44) (by decide +kernel) (by decide +kernel)
theorem wc_Mo_before : Cond.code y_Mo_before b_Mo_before 3 none ∈ WT := WT_in (k := 1293) (by decide +kernel) (by decide +kernel)
theorem wm_Mo_before : Cond.instanceMethod y_Mo_before ∈ WT := WT_in (k := 1292) (by decide +kernel) (by decide +kernel)
theorem ws_Mo_before : Cond.selects R_Mo y_Mo_before y_Mo_before ∈ WT := WT_se (k := 45) (by decide +kernel) (by decide +kernel)
theorem wc_Mo_leadsIn : Cond.code y_Mo_leadsIn b_Mo_leadsIn 5 (some .boolean) ∈ WT := WT_in (k := 1297) (by decide +kernel) (by decide +kernel)
theorem wm_Mo_leadsIn : Cond.instanceMethod y_Mo_leadsIn ∈ WT := WT_in (k := 1296) (by decide +kernel) (by decide +kernel)
theorem ws_Mo_leadsIn : Cond.selects R_Mo y_Mo_leadsIn y_Mo_leadsIn ∈ WT := WT_se (k := 46) (by decide +kernel) (by decide +kernel)
theorem wc_Mo_isIn : Cond.code y_Mo_isIn b_Mo_isIn 3 (some .boolean) ∈ WT := WT_in (k := 1301) (by decide +kernel) (by decide +kernel)
theorem wm_Mo_isIn : Cond.instanceMethod y_Mo_isIn ∈ WT := WT_in (k := 1300) (by decide +kernel) (by decide +kernel)
theorem ws_Mo_isIn : Cond.selects R_Mo y_Mo_isIn y_Mo_isIn ∈ WT := WT_se (k := 47) (by decide +kernel) (by decide +kernel)
theorem wc_Mo_refine : Cond.code y_Mo_refine b_Mo_refine 5 (some .int) ∈ WT := WT_in (k := 1305) (by decide +kernel) (by decide +kernel)
theorem wm_Mo_refine : Cond.instanceMethod y_Mo_refine ∈ WT := WT_in (k := 1304) (by decide +kernel) (by decide +kernel)
theorem ws_Mo_refine : Cond.selects R_Mo y_Mo_refine y_Mo_refine ∈ WT := WT_se (k := 48) (by decide +kernel) (by decide +kernel)
theorem wc_Mo_along : Cond.code y_Mo_along b_Mo_along 4 none ∈ WT := WT_in (k := 1309) (by decide +kernel) (by decide +kernel)
theorem wm_Mo_along : Cond.instanceMethod y_Mo_along ∈ WT := WT_in (k := 1308) (by decide +kernel) (by decide +kernel)
theorem ws_Mo_along : Cond.selects R_Mo y_Mo_along y_Mo_along ∈ WT := WT_se (k := 49) (by decide +kernel) (by decide +kernel)
theorem wc_Mo_fetch : Cond.code y_Mo_fetch b_Mo_fetch 3 none ∈ WT := WT_in (k := 1313) (by decide +kernel) (by decide +kernel)
theorem wm_Mo_fetch : Cond.instanceMethod y_Mo_fetch ∈ WT := WT_in (k := 1312) (by decide +kernel) (by decide +kernel)
theorem ws_Mo_fetch : Cond.selects R_Mo y_Mo_fetch y_Mo_fetch ∈ WT := WT_se (k := 50) (by decide +kernel) (by decide +kernel)
theorem wc_Mo_hangsOn : Cond.code y_Mo_hangsOn b_Mo_hangsOn 4 (some .boolean) ∈ WT := WT_in (k := 1317) (by decide +kernel) (by decide +kernel)
theorem wm_Mo_hangsOn : Cond.instanceMethod y_Mo_hangsOn ∈ WT := WT_in (k := 1316) (by decide +kernel) (by decide +kernel)
theorem ws_Mo_hangsOn : Cond.selects R_Mo y_Mo_hangsOn y_Mo_hangsOn ∈ WT := WT_se (k := 51) (by decide +kernel) (by decide +kernel)
theorem wc_Mo_offer : Cond.code y_Mo_offer b_Mo_offer 1 (some .int) ∈ WT := WT_in (k := 1321) (by decide +kernel) (by decide +kernel)
theorem wm_Mo_offer : Cond.instanceMethod y_Mo_offer ∈ WT := WT_in (k := 1320) (by decide +kernel) (by decide +kernel)
theorem ws_Mo_offer : Cond.selects R_Mo y_Mo_offer y_Mo_offer ∈ WT := WT_se (k := 52) (by decide +kernel) (by decide +kernel)
theorem wc_Mo_splits : Cond.code y_Mo_splits b_Mo_splits 3 (some .boolean) ∈ WT := WT_in (k := 1325) (by decide +kernel) (by decide +kernel)
theorem wm_Mo_splits : Cond.instanceMethod y_Mo_splits ∈ WT := WT_in (k := 1324) (by decide +kernel) (by decide +kernel)
theorem ws_Mo_splits : Cond.selects R_Mo y_Mo_splits y_Mo_splits ∈ WT := WT_se (k := 53) (by decide +kernel) (by decide +kernel)
theorem wc_Mo_outcome : Cond.code y_Mo_outcome b_Mo_outcome 1 (some .int) ∈ WT := WT_in (k := 1329) (by decide +kernel) (by decide +kernel)
theorem wm_Mo_outcome : Cond.instanceMethod y_Mo_outcome ∈ WT := WT_in (k := 1327) (by decide +kernel) (by decide +kernel)
theorem ws_Mo_outcome : Cond.selects R_Mo y_Mo_outcome y_Mo_outcome ∈ WT := WT_in (k := 1328) (by decide +kernel) (by decide +kernel)
theorem wc_Mo_edges : Cond.code y_Mo_edges b_Mo_edges 1 (some .int) ∈ WT := WT_in (k := 1333) (by decide +kernel) (by decide +kernel)
theorem wm_Mo_edges : Cond.instanceMethod y_Mo_edges ∈ WT := WT_in (k := 1331) (by decide +kernel) (by decide +kernel)
theorem ws_Mo_edges : Cond.selects R_Mo y_Mo_edges y_Mo_edges ∈ WT := WT_in (k := 1332) (by decide +kernel) (by decide +kernel)
theorem wc_Mo_predicates : Cond.code y_Mo_predicates b_Mo_predicates 1 (some .int) ∈ WT := WT_in (k := 1337) (by decide +kernel) (by decide +kernel)
theorem wm_Mo_predicates : Cond.instanceMethod y_Mo_predicates ∈ WT := WT_in (k := 1335) (by decide +kernel) (by decide +kernel)
theorem ws_Mo_predicates : Cond.selects R_Mo y_Mo_predicates y_Mo_predicates ∈ WT := WT_in (k := 1336) (by decide +kernel) (by decide +kernel)
theorem wc_Mo_holds : Cond.code y_Mo_holds b_Mo_holds 3 (some .boolean) ∈ WT := WT_in (k := 1341) (by decide +kernel) (by decide +kernel)
theorem wm_Mo_holds : Cond.instanceMethod y_Mo_holds ∈ WT := WT_in (k := 1339) (by decide +kernel) (by decide +kernel)
theorem ws_Mo_holds : Cond.selects R_Mo y_Mo_holds y_Mo_holds ∈ WT := WT_in (k := 1340) (by decide +kernel) (by decide +kernel)
theorem wc_Mo_isState : Cond.code y_Mo_isState b_Mo_isState 2 (some .boolean) ∈ WT := WT_in (k := 1345) (by decide +kernel) (by decide +kernel)
theorem wm_Mo_isState : Cond.instanceMethod y_Mo_isState ∈ WT := WT_in (k := 1344) (by decide +kernel) (by decide +kernel)
theorem ws_Mo_isState : Cond.selects R_Mo y_Mo_isState y_Mo_isState ∈ WT := WT_se (k := 54) (by decide +kernel) (by decide +kernel)
theorem wc_Mo_signature : Cond.code y_Mo_signature b_Mo_signature 2 (some .short) ∈ WT := WT_in (k := 1349) (by decide +kernel) (by decide +kernel)
theorem wm_Mo_signature : Cond.instanceMethod y_Mo_signature ∈ WT := WT_in (k := 1347) (by decide +kernel) (by decide +kernel)
theorem ws_Mo_signature : Cond.selects R_Mo y_Mo_signature y_Mo_signature ∈ WT := WT_in (k := 1348) (by decide +kernel) (by decide +kernel)
theorem wc_Mo_follow : Cond.code y_Mo_follow b_Mo_follow 4 (some .int) ∈ WT := WT_in (k := 1353) (by decide +kernel) (by decide +kernel)
theorem wm_Mo_follow : Cond.instanceMethod y_Mo_follow ∈ WT := WT_in (k := 1351) (by decide +kernel) (by decide +kernel)
theorem ws_Mo_follow : Cond.selects R_Mo y_Mo_follow y_Mo_follow ∈ WT := WT_in (k := 1352) (by decide +kernel) (by decide +kernel)
theorem wc_Mo_nodes : Cond.code y_Mo_nodes b_Mo_nodes 1 (some .int) ∈ WT := WT_in (k := 1357) (by decide +kernel) (by decide +kernel)
theorem wm_Mo_nodes : Cond.instanceMethod y_Mo_nodes ∈ WT := WT_in (k := 1355) (by decide +kernel) (by decide +kernel)
theorem ws_Mo_nodes : Cond.selects R_Mo y_Mo_nodes y_Mo_nodes ∈ WT := WT_in (k := 1356) (by decide +kernel) (by decide +kernel)
theorem wc_Mo_node : Cond.code y_Mo_node b_Mo_node 3 (some .int) ∈ WT := WT_in (k := 1361) (by decide +kernel) (by decide +kernel)
theorem wm_Mo_node : Cond.instanceMethod y_Mo_node ∈ WT := WT_in (k := 1359) (by decide +kernel) (by decide +kernel)
theorem ws_Mo_node : Cond.selects R_Mo y_Mo_node y_Mo_node ∈ WT := WT_in (k := 1360) (by decide +kernel) (by decide +kernel)
theorem wc_Mo_length : Cond.code y_Mo_length b_Mo_length 1 (some .int) ∈ WT := WT_in (k := 1365) (by decide +kernel) (by decide +kernel)
theorem wm_Mo_length : Cond.instanceMethod y_Mo_length ∈ WT := WT_in (k := 1363) (by decide +kernel) (by decide +kernel)
theorem ws_Mo_length : Cond.selects R_Mo y_Mo_length y_Mo_length ∈ WT := WT_in (k := 1364) (by decide +kernel) (by decide +kernel)
theorem wc_Mo_path : Cond.code y_Mo_path b_Mo_path 2 (some .int) ∈ WT := WT_in (k := 1369) (by decide +kernel) (by decide +kernel)
theorem wm_Mo_path : Cond.instanceMethod y_Mo_path ∈ WT := WT_in (k := 1367) (by decide +kernel) (by decide +kernel)
theorem ws_Mo_path : Cond.selects R_Mo y_Mo_path y_Mo_path ∈ WT := WT_in (k := 1368) (by decide +kernel) (by decide +kernel)
theorem wc_Mo_input : Cond.code y_Mo_input b_Mo_input 2 (some .int) ∈ WT := WT_in (k := 1373) (by decide +kernel) (by decide +kernel)
theorem wm_Mo_input : Cond.instanceMethod y_Mo_input ∈ WT := WT_in (k := 1371) (by decide +kernel) (by decide +kernel)
theorem ws_Mo_input : Cond.selects R_Mo y_Mo_input y_Mo_input ∈ WT := WT_in (k := 1372) (by decide +kernel) (by decide +kernel)
theorem lk_PP_1 : Cond.methodLink R_PP 1 ⟨"java/lang/Object", "<init>", "()V"⟩ ∈ WT := WT_in (k := 35) (by decide +kernel) (by decide +kernel)
theorem lk_PP_7 : Cond.classLink R_PP 7 "PredicateProver$Space" ∈ WT := WT_in (k := 38) (by decide +kernel) (by decide +kernel)
theorem lk_PP_9 : Cond.methodLink R_PP 9 y_Sp_init ∈ WT := WT_in (k := 40) (by decide +kernel) (by decide +kernel)
theorem lk_PP_12 : Cond.classLink R_PP 12 "PredicateProver$Line" ∈ WT := WT_in (k := 63) (by decide +kernel) (by decide +kernel)
theorem lk_PP_15 : Cond.classLink R_PP 15 "PredicateProver$Formula" ∈ WT := WT_in (k := 77) (by decide +kernel) (by decide +kernel)
theorem lk_PP_17 : Cond.methodLink R_PP 17 y_Fo_init ∈ WT := WT_in (k := 79) (by decide +kernel) (by decide +kernel)
theorem lk_PP_20 : Cond.classLink R_PP 20 "PredicateProver$Program" ∈ WT := WT_in (k := 97) (by decide +kernel) (by decide +kernel)
theorem lk_PP_22 : Cond.methodLink R_PP 22 y_Pr_init ∈ WT := WT_in (k := 99) (by decide +kernel) (by decide +kernel)
theorem lk_PP_23 : Cond.classLink R_PP 23 "PredicateProver$Groups" ∈ WT := WT_in (k := 134) (by decide +kernel) (by decide +kernel)
theorem lk_PP_25 : Cond.methodLink R_PP 25 y_Gr_init ∈ WT := WT_in (k := 136) (by decide +kernel) (by decide +kernel)
theorem lk_PP_26 : Cond.classLink R_PP 26 "PredicateProver$Search" ∈ WT := WT_in (k := 519) (by decide +kernel) (by decide +kernel)
theorem lk_PP_28 : Cond.methodLink R_PP 28 y_Se_init ∈ WT := WT_in (k := 521) (by decide +kernel) (by decide +kernel)
theorem lk_PP_31 : Cond.fieldLink R_PP 31 "PredicateProver" "space" "LPredicateProver$Space;" ∈ WT := WT_in (k := 658) (by decide +kernel) (by decide +kernel)
theorem lk_PP_37 : Cond.fieldLink R_PP 37 "PredicateProver" "line" "LPredicateProver$Line;" ∈ WT := WT_in (k := 659) (by decide +kernel) (by decide +kernel)
theorem lk_PP_41 : Cond.fieldLink R_PP 41 "PredicateProver" "formula" "LPredicateProver$Formula;" ∈ WT := WT_in (k := 660) (by decide +kernel) (by decide +kernel)
theorem lk_PP_45 : Cond.classLink R_PP 45 "PredicateProver$Parser" ∈ WT := WT_in (k := 583) (by decide +kernel) (by decide +kernel)
theorem lk_PP_47 : Cond.methodLink R_PP 47 y_Pa_init ∈ WT := WT_in (k := 585) (by decide +kernel) (by decide +kernel)
theorem lk_PP_50 : Cond.fieldLink R_PP 50 "PredicateProver" "parser" "LPredicateProver$Parser;" ∈ WT := WT_in (k := 661) (by decide +kernel) (by decide +kernel)
theorem lk_PP_54 : Cond.fieldLink R_PP 54 "PredicateProver" "program" "LPredicateProver$Program;" ∈ WT := WT_in (k := 662) (by decide +kernel) (by decide +kernel)
theorem lk_PP_58 : Cond.fieldLink R_PP 58 "PredicateProver" "groups" "LPredicateProver$Groups;" ∈ WT := WT_in (k := 663) (by decide +kernel) (by decide +kernel)
theorem lk_PP_62 : Cond.fieldLink R_PP 62 "PredicateProver" "search" "LPredicateProver$Search;" ∈ WT := WT_in (k := 664) (by decide +kernel) (by decide +kernel)
theorem lk_PP_66 : Cond.classLink R_PP 66 "PredicateProver$Replay" ∈ WT := WT_in (k := 599) (by decide +kernel) (by decide +kernel)
theorem lk_PP_68 : Cond.methodLink R_PP 68 y_Re_init ∈ WT := WT_in (k := 601) (by decide +kernel) (by decide +kernel)
theorem lk_PP_71 : Cond.fieldLink R_PP 71 "PredicateProver" "replay" "LPredicateProver$Replay;" ∈ WT := WT_in (k := 665) (by decide +kernel) (by decide +kernel)
theorem lk_PP_75 : Cond.classLink R_PP 75 "PredicateProver$Refiner" ∈ WT := WT_in (k := 629) (by decide +kernel) (by decide +kernel)
theorem lk_PP_77 : Cond.methodLink R_PP 77 y_Rf_init ∈ WT := WT_in (k := 631) (by decide +kernel) (by decide +kernel)
theorem lk_PP_80 : Cond.fieldLink R_PP 80 "PredicateProver" "refiner" "LPredicateProver$Refiner;" ∈ WT := WT_in (k := 666) (by decide +kernel) (by decide +kernel)
theorem lk_PP_84 : Cond.fieldLink R_PP 84 "PredicateProver" "lastOutcome" "I" ∈ WT := WT_in (k := 667) (by decide +kernel) (by decide +kernel)
theorem lk_Sp_3 : Cond.methodLink R_Sp 3 ⟨"java/lang/Object", "<init>", "()V"⟩ ∈ WT := WT_in (k := 43) (by decide +kernel) (by decide +kernel)
theorem lk_Sp_9 : Cond.fieldLink R_Sp 9 "PredicateProver$Space" "width" "I" ∈ WT := WT_in (k := 44) (by decide +kernel) (by decide +kernel)
theorem lk_Sp_15 : Cond.fieldLink R_Sp 15 "PredicateProver$Space" "mask" "I" ∈ WT := WT_in (k := 46) (by decide +kernel) (by decide +kernel)
theorem lk_Sp_18 : Cond.fieldLink R_Sp 18 "PredicateProver$Space" "states" "I" ∈ WT := WT_in (k := 52) (by decide +kernel) (by decide +kernel)
theorem lk_Li_3 : Cond.methodLink R_Li 3 ⟨"java/lang/Object", "<init>", "()V"⟩ ∈ WT := WT_in (k := 68) (by decide +kernel) (by decide +kernel)
theorem lk_Li_9 : Cond.fieldLink R_Li 9 "PredicateProver$Line" "characters" "[C" ∈ WT := WT_in (k := 69) (by decide +kernel) (by decide +kernel)
theorem lk_Li_15 : Cond.fieldLink R_Li 15 "PredicateProver$Line" "size" "I" ∈ WT := WT_in (k := 70) (by decide +kernel) (by decide +kernel)
theorem lk_Fo_3 : Cond.methodLink R_Fo 3 ⟨"java/lang/Object", "<init>", "()V"⟩ ∈ WT := WT_in (k := 82) (by decide +kernel) (by decide +kernel)
theorem lk_Fo_9 : Cond.fieldLink R_Fo 9 "PredicateProver$Formula" "code" "[C" ∈ WT := WT_in (k := 84) (by decide +kernel) (by decide +kernel)
theorem lk_Fo_15 : Cond.fieldLink R_Fo 15 "PredicateProver$Formula" "stack" "[I" ∈ WT := WT_in (k := 85) (by decide +kernel) (by decide +kernel)
theorem lk_Fo_19 : Cond.fieldLink R_Fo 19 "PredicateProver$Formula" "size" "I" ∈ WT := WT_in (k := 86) (by decide +kernel) (by decide +kernel)
theorem lk_Fo_23 : Cond.fieldLink R_Fo 23 "PredicateProver$Formula" "space" "LPredicateProver$Space;" ∈ WT := WT_in (k := 83) (by decide +kernel) (by decide +kernel)
theorem lk_Pr_3 : Cond.methodLink R_Pr 3 ⟨"java/lang/Object", "<init>", "()V"⟩ ∈ WT := WT_in (k := 102) (by decide +kernel) (by decide +kernel)
theorem lk_Pr_9 : Cond.fieldLink R_Pr 9 "PredicateProver$Program" "from" "[I" ∈ WT := WT_in (k := 106) (by decide +kernel) (by decide +kernel)
theorem lk_Pr_15 : Cond.fieldLink R_Pr 15 "PredicateProver$Program" "to" "[I" ∈ WT := WT_in (k := 108) (by decide +kernel) (by decide +kernel)
theorem lk_Pr_18 : Cond.fieldLink R_Pr 18 "PredicateProver$Program" "kind" "[I" ∈ WT := WT_in (k := 110) (by decide +kernel) (by decide +kernel)
theorem lk_Pr_21 : Cond.fieldLink R_Pr 21 "PredicateProver$Program" "variable" "[I" ∈ WT := WT_in (k := 113) (by decide +kernel) (by decide +kernel)
theorem lk_Pr_24 : Cond.fieldLink R_Pr 24 "PredicateProver$Program" "count" "I" ∈ WT := WT_in (k := 116) (by decide +kernel) (by decide +kernel)
theorem lk_Pr_28 : Cond.fieldLink R_Pr 28 "PredicateProver$Program" "space" "LPredicateProver$Space;" ∈ WT := WT_in (k := 105) (by decide +kernel) (by decide +kernel)
theorem lk_Pr_32 : Cond.fieldLink R_Pr 32 "PredicateProver$Space" "states" "I" ∈ WT := WT_in (k := 53) (by decide +kernel) (by decide +kernel)
theorem lk_Pr_37 : Cond.classLink R_Pr 37 "[[I" ∈ WT := WT_in (k := 103) (by decide +kernel) (by decide +kernel)
theorem lk_Pr_39 : Cond.fieldLink R_Pr 39 "PredicateProver$Program" "target" "[[I" ∈ WT := WT_in (k := 114) (by decide +kernel) (by decide +kernel)
theorem lk_Gr_3 : Cond.methodLink R_Gr 3 ⟨"java/lang/Object", "<init>", "()V"⟩ ∈ WT := WT_in (k := 139) (by decide +kernel) (by decide +kernel)
theorem lk_Gr_9 : Cond.fieldLink R_Gr 9 "PredicateProver$Groups" "count" "I" ∈ WT := WT_in (k := 488) (by decide +kernel) (by decide +kernel)
theorem lk_Gr_15 : Cond.fieldLink R_Gr 15 "PredicateProver$Groups" "groupCount" "I" ∈ WT := WT_in (k := 493) (by decide +kernel) (by decide +kernel)
theorem lk_Gr_18 : Cond.fieldLink R_Gr 18 "PredicateProver$Groups" "groupOfSignature" "[I" ∈ WT := WT_in (k := 501) (by decide +kernel) (by decide +kernel)
theorem lk_Gr_22 : Cond.fieldLink R_Gr 22 "PredicateProver$Groups" "space" "LPredicateProver$Space;" ∈ WT := WT_in (k := 487) (by decide +kernel) (by decide +kernel)
theorem lk_Gr_26 : Cond.fieldLink R_Gr 26 "PredicateProver$Space" "states" "I" ∈ WT := WT_in (k := 49) (by decide +kernel) (by decide +kernel)
theorem lk_Gr_31 : Cond.fieldLink R_Gr 31 "PredicateProver$Groups" "signature" "[I" ∈ WT := WT_in (k := 491) (by decide +kernel) (by decide +kernel)
theorem lk_Gr_34 : Cond.fieldLink R_Gr 34 "PredicateProver$Groups" "groupOf" "[I" ∈ WT := WT_in (k := 495) (by decide +kernel) (by decide +kernel)
theorem lk_Gr_37 : Cond.fieldLink R_Gr 37 "PredicateProver$Groups" "member" "[I" ∈ WT := WT_in (k := 497) (by decide +kernel) (by decide +kernel)
theorem lk_Gr_40 : Cond.fieldLink R_Gr 40 "PredicateProver$Groups" "start" "[I" ∈ WT := WT_in (k := 499) (by decide +kernel) (by decide +kernel)
theorem lk_Gr_43 : Cond.methodLink R_Gr 43 y_Gr_numberGroups ∈ WT := WT_in (k := 140) (by decide +kernel) (by decide +kernel)
theorem lk_Gr_46 : Cond.methodLink R_Gr 46 y_Gr_placeStates ∈ WT := WT_in (k := 480) (by decide +kernel) (by decide +kernel)
theorem lk_Gr_55 : Cond.methodLink R_Gr 55 y_Ar_fill_aIIII ∈ WT := WT_in (k := 144) (by decide +kernel) (by decide +kernel)
theorem lk_Ar_13 : Cond.methodLink R_Ar 13 y_Ar_rangeCheck ∈ WT := WT_in (k := 147) (by decide +kernel) (by decide +kernel)
theorem lk_Ar_43 : Cond.classLink R_Ar 43 "java/lang/IllegalArgumentException" ∈ WT := WT_in (k := 150) (by decide +kernel) (by decide +kernel)
theorem lk_Ar_45 : Cond.classLink R_Ar 45 "java/lang/StringBuilder" ∈ WT := WT_in (k := 192) (by decide +kernel) (by decide +kernel)
theorem lk_Ar_47 : Cond.methodLink R_Ar 47 ⟨"java/lang/StringBuilder", "<init>", "()V"⟩ ∈ WT := WT_in (k := 194) (by decide +kernel) (by decide +kernel)
theorem lk_Ar_50 : Cond.methodLink R_Ar 50 ⟨"java/lang/StringBuilder", "append", "(Ljava/lang/String;)Ljava/lang/StringBuilder;"⟩ ∈ WT := WT_in (k := 225) (by decide +kernel) (by decide +kernel)
theorem lk_Ar_54 : Cond.methodLink R_Ar 54 ⟨"java/lang/StringBuilder", "append", "(I)Ljava/lang/StringBuilder;"⟩ ∈ WT := WT_in (k := 345) (by decide +kernel) (by decide +kernel)
theorem lk_Ar_61 : Cond.methodLink R_Ar 61 ⟨"java/lang/StringBuilder", "toString", "()Ljava/lang/String;"⟩ ∈ WT := WT_in (k := 372) (by decide +kernel) (by decide +kernel)
theorem lk_Ar_65 : Cond.methodLink R_Ar 65 ⟨"java/lang/IllegalArgumentException", "<init>", "(Ljava/lang/String;)V"⟩ ∈ WT := WT_in (k := 409) (by decide +kernel) (by decide +kernel)
theorem lk_Ar_68 : Cond.classLink R_Ar 68 "java/lang/ArrayIndexOutOfBoundsException" ∈ WT := WT_in (k := 458) (by decide +kernel) (by decide +kernel)
theorem lk_Ar_70 : Cond.methodLink R_Ar 70 ⟨"java/lang/ArrayIndexOutOfBoundsException", "<init>", "(I)V"⟩ ∈ WT := WT_in (k := 460) (by decide +kernel) (by decide +kernel)
theorem lk_Gr_49 : Cond.methodLink R_Gr 49 y_Ar_fill_aII ∈ WT := WT_in (k := 484) (by decide +kernel) (by decide +kernel)
theorem lk_Se_3 : Cond.methodLink R_Se 3 ⟨"java/lang/Object", "<init>", "()V"⟩ ∈ WT := WT_in (k := 524) (by decide +kernel) (by decide +kernel)
theorem lk_Se_9 : Cond.fieldLink R_Se 9 "PredicateProver$Search" "count" "I" ∈ WT := WT_in (k := 528) (by decide +kernel) (by decide +kernel)
theorem lk_Se_15 : Cond.fieldLink R_Se 15 "PredicateProver$Search" "location" "[I" ∈ WT := WT_in (k := 530) (by decide +kernel) (by decide +kernel)
theorem lk_Se_19 : Cond.fieldLink R_Se 19 "PredicateProver$Search" "signature" "[I" ∈ WT := WT_in (k := 532) (by decide +kernel) (by decide +kernel)
theorem lk_Se_22 : Cond.fieldLink R_Se 22 "PredicateProver$Search" "parent" "[I" ∈ WT := WT_in (k := 534) (by decide +kernel) (by decide +kernel)
theorem lk_Se_25 : Cond.fieldLink R_Se 25 "PredicateProver$Search" "byEdge" "[I" ∈ WT := WT_in (k := 536) (by decide +kernel) (by decide +kernel)
theorem lk_Se_28 : Cond.fieldLink R_Se 28 "PredicateProver$Search" "group" "[I" ∈ WT := WT_in (k := 538) (by decide +kernel) (by decide +kernel)
theorem lk_Se_31 : Cond.fieldLink R_Se 31 "PredicateProver$Search" "depth" "[I" ∈ WT := WT_in (k := 539) (by decide +kernel) (by decide +kernel)
theorem lk_Se_34 : Cond.fieldLink R_Se 34 "PredicateProver$Search" "outOfRoom" "Z" ∈ WT := WT_in (k := 542) (by decide +kernel) (by decide +kernel)
theorem lk_Se_38 : Cond.fieldLink R_Se 38 "PredicateProver$Search" "pathLength" "I" ∈ WT := WT_in (k := 544) (by decide +kernel) (by decide +kernel)
theorem lk_Se_41 : Cond.fieldLink R_Se 41 "PredicateProver$Search" "pathEdge" "[I" ∈ WT := WT_in (k := 548) (by decide +kernel) (by decide +kernel)
theorem lk_Se_44 : Cond.fieldLink R_Se 44 "PredicateProver$Search" "space" "LPredicateProver$Space;" ∈ WT := WT_in (k := 525) (by decide +kernel) (by decide +kernel)
theorem lk_Se_48 : Cond.fieldLink R_Se 48 "PredicateProver$Search" "program" "LPredicateProver$Program;" ∈ WT := WT_in (k := 526) (by decide +kernel) (by decide +kernel)
theorem lk_Se_52 : Cond.fieldLink R_Se 52 "PredicateProver$Search" "groups" "LPredicateProver$Groups;" ∈ WT := WT_in (k := 527) (by decide +kernel) (by decide +kernel)
theorem lk_Se_56 : Cond.fieldLink R_Se 56 "PredicateProver$Space" "states" "I" ∈ WT := WT_in (k := 54) (by decide +kernel) (by decide +kernel)
theorem lk_Se_61 : Cond.fieldLink R_Se 61 "PredicateProver$Search" "known" "[B" ∈ WT := WT_in (k := 540) (by decide +kernel) (by decide +kernel)
theorem lk_Se_65 : Cond.fieldLink R_Se 65 "PredicateProver$Search" "reached" "[B" ∈ WT := WT_in (k := 541) (by decide +kernel) (by decide +kernel)
theorem lk_Pa_3 : Cond.methodLink R_Pa 3 ⟨"java/lang/Object", "<init>", "()V"⟩ ∈ WT := WT_in (k := 588) (by decide +kernel) (by decide +kernel)
theorem lk_Pa_9 : Cond.fieldLink R_Pa 9 "PredicateProver$Parser" "place" "I" ∈ WT := WT_in (k := 591) (by decide +kernel) (by decide +kernel)
theorem lk_Pa_15 : Cond.fieldLink R_Pa 15 "PredicateProver$Parser" "line" "LPredicateProver$Line;" ∈ WT := WT_in (k := 589) (by decide +kernel) (by decide +kernel)
theorem lk_Pa_19 : Cond.fieldLink R_Pa 19 "PredicateProver$Parser" "formula" "LPredicateProver$Formula;" ∈ WT := WT_in (k := 590) (by decide +kernel) (by decide +kernel)
theorem lk_Re_3 : Cond.methodLink R_Re 3 ⟨"java/lang/Object", "<init>", "()V"⟩ ∈ WT := WT_in (k := 604) (by decide +kernel) (by decide +kernel)
theorem lk_Re_9 : Cond.fieldLink R_Re 9 "PredicateProver$Replay" "inputs" "[I" ∈ WT := WT_in (k := 611) (by decide +kernel) (by decide +kernel)
theorem lk_Re_15 : Cond.fieldLink R_Re 15 "PredicateProver$Replay" "inputCount" "I" ∈ WT := WT_in (k := 613) (by decide +kernel) (by decide +kernel)
theorem lk_Re_19 : Cond.fieldLink R_Re 19 "PredicateProver$Replay" "space" "LPredicateProver$Space;" ∈ WT := WT_in (k := 607) (by decide +kernel) (by decide +kernel)
theorem lk_Re_23 : Cond.fieldLink R_Re 23 "PredicateProver$Replay" "program" "LPredicateProver$Program;" ∈ WT := WT_in (k := 608) (by decide +kernel) (by decide +kernel)
theorem lk_Re_27 : Cond.fieldLink R_Re 27 "PredicateProver$Replay" "search" "LPredicateProver$Search;" ∈ WT := WT_in (k := 609) (by decide +kernel) (by decide +kernel)
theorem lk_Re_31 : Cond.fieldLink R_Re 31 "PredicateProver$Space" "states" "I" ∈ WT := WT_in (k := 51) (by decide +kernel) (by decide +kernel)
theorem lk_Re_36 : Cond.classLink R_Re 36 "[[J" ∈ WT := WT_in (k := 605) (by decide +kernel) (by decide +kernel)
theorem lk_Re_38 : Cond.fieldLink R_Re 38 "PredicateProver$Replay" "open" "[[J" ∈ WT := WT_in (k := 610) (by decide +kernel) (by decide +kernel)
theorem lk_Rf_3 : Cond.methodLink R_Rf 3 ⟨"java/lang/Object", "<init>", "()V"⟩ ∈ WT := WT_in (k := 634) (by decide +kernel) (by decide +kernel)
theorem lk_Rf_9 : Cond.fieldLink R_Rf 9 "PredicateProver$Refiner" "takenCount" "I" ∈ WT := WT_in (k := 642) (by decide +kernel) (by decide +kernel)
theorem lk_Rf_15 : Cond.fieldLink R_Rf 15 "PredicateProver$Refiner" "space" "LPredicateProver$Space;" ∈ WT := WT_in (k := 636) (by decide +kernel) (by decide +kernel)
theorem lk_Rf_19 : Cond.fieldLink R_Rf 19 "PredicateProver$Refiner" "program" "LPredicateProver$Program;" ∈ WT := WT_in (k := 637) (by decide +kernel) (by decide +kernel)
theorem lk_Rf_23 : Cond.fieldLink R_Rf 23 "PredicateProver$Refiner" "groups" "LPredicateProver$Groups;" ∈ WT := WT_in (k := 638) (by decide +kernel) (by decide +kernel)
theorem lk_Rf_27 : Cond.fieldLink R_Rf 27 "PredicateProver$Refiner" "search" "LPredicateProver$Search;" ∈ WT := WT_in (k := 639) (by decide +kernel) (by decide +kernel)
theorem lk_Rf_31 : Cond.fieldLink R_Rf 31 "PredicateProver$Space" "states" "I" ∈ WT := WT_in (k := 50) (by decide +kernel) (by decide +kernel)
theorem lk_Rf_36 : Cond.classLink R_Rf 36 "[[J" ∈ WT := WT_in (k := 635) (by decide +kernel) (by decide +kernel)
theorem lk_Rf_38 : Cond.fieldLink R_Rf 38 "PredicateProver$Refiner" "taken" "[[J" ∈ WT := WT_in (k := 640) (by decide +kernel) (by decide +kernel)
theorem lk_Rf_41 : Cond.fieldLink R_Rf 41 "PredicateProver$Refiner" "spare" "[J" ∈ WT := WT_in (k := 641) (by decide +kernel) (by decide +kernel)
theorem lk_PP_88 : Cond.methodLink R_PP 88 y_Li_append ∈ WT := WT_in (k := 693) (by decide +kernel) (by decide +kernel)
theorem lk_PP_92 : Cond.methodLink R_PP 92 y_Li_makeEmpty ∈ WT := WT_in (k := 701) (by decide +kernel) (by decide +kernel)
theorem lk_PP_147 : Cond.fieldLink R_PP 147 "PredicateProver$Program" "count" "I" ∈ WT := WT_in (k := 118) (by decide +kernel) (by decide +kernel)
theorem lk_PP_148 : Cond.methodLink R_PP 148 y_Gr_dropPredicates ∈ WT := WT_in (k := 709) (by decide +kernel) (by decide +kernel)
theorem lk_PP_119 : Cond.methodLink R_PP 119 y_PP_forgetSearch ∈ WT := WT_in (k := 713) (by decide +kernel) (by decide +kernel)
theorem lk_PP_207 : Cond.methodLink R_PP 207 y_Se_forget ∈ WT := WT_in (k := 717) (by decide +kernel) (by decide +kernel)
theorem lk_PP_210 : Cond.methodLink R_PP 210 y_Re_forget ∈ WT := WT_in (k := 721) (by decide +kernel) (by decide +kernel)
theorem lk_PP_131 : Cond.fieldLink R_PP 131 "PredicateProver$Groups" "count" "I" ∈ WT := WT_in (k := 490) (by decide +kernel) (by decide +kernel)
theorem lk_PP_176 : Cond.fieldLink R_PP 176 "PredicateProver$Search" "count" "I" ∈ WT := WT_in (k := 529) (by decide +kernel) (by decide +kernel)
theorem lk_PP_191 : Cond.fieldLink R_PP 191 "PredicateProver$Search" "pathLength" "I" ∈ WT := WT_in (k := 547) (by decide +kernel) (by decide +kernel)
theorem lk_Lw_7 : Cond.methodLink R_Lw 7 y_PP_edge ∈ WT := WT_in (k := 753) (by decide +kernel) (by decide +kernel)
theorem lk_PP_95 : Cond.methodLink R_PP 95 y_Pa_readEdge ∈ WT := WT_in (k := 757) (by decide +kernel) (by decide +kernel)
theorem lk_PP_99 : Cond.classLink R_PP 99 "java/lang/IllegalArgumentException" ∈ WT := WT_in (k := 804) (by decide +kernel) (by decide +kernel)
theorem lk_PP_103 : Cond.methodLink R_PP 103 ⟨"java/lang/IllegalArgumentException", "<init>", "(Ljava/lang/String;)V"⟩ ∈ WT := WT_in (k := 806) (by decide +kernel) (by decide +kernel)
theorem lk_PP_106 : Cond.methodLink R_PP 106 y_Pr_isFull ∈ WT := WT_in (k := 807) (by decide +kernel) (by decide +kernel)
theorem lk_PP_110 : Cond.classLink R_PP 110 "java/lang/IllegalStateException" ∈ WT := WT_in (k := 811) (by decide +kernel) (by decide +kernel)
theorem lk_PP_114 : Cond.methodLink R_PP 114 ⟨"java/lang/IllegalStateException", "<init>", "(Ljava/lang/String;)V"⟩ ∈ WT := WT_in (k := 821) (by decide +kernel) (by decide +kernel)
theorem lk_PP_115 : Cond.methodLink R_PP 115 y_Pr_add ∈ WT := WT_in (k := 827) (by decide +kernel) (by decide +kernel)
theorem lk_Pa_23 : Cond.methodLink R_Pa 23 y_Li_at ∈ WT := WT_in (k := 761) (by decide +kernel) (by decide +kernel)
theorem lk_Pa_29 : Cond.methodLink R_Pa 29 y_Pa_isLocation ∈ WT := WT_in (k := 765) (by decide +kernel) (by decide +kernel)
theorem lk_Pa_33 : Cond.methodLink R_Pa 33 y_Fo_isVariable ∈ WT := WT_in (k := 768) (by decide +kernel) (by decide +kernel)
theorem lk_Pa_38 : Cond.methodLink R_Pa 38 y_Pa_readTerm ∈ WT := WT_in (k := 771) (by decide +kernel) (by decide +kernel)
theorem lk_Pa_42 : Cond.methodLink R_Pa 42 y_Pa_readAtom ∈ WT := WT_in (k := 797) (by decide +kernel) (by decide +kernel)
theorem lk_Pa_45 : Cond.methodLink R_Pa 45 y_Fo_begin ∈ WT := WT_in (k := 775) (by decide +kernel) (by decide +kernel)
theorem lk_Pa_48 : Cond.methodLink R_Pa 48 y_Pa_passTerm ∈ WT := WT_in (k := 779) (by decide +kernel) (by decide +kernel)
theorem lk_Pa_58 : Cond.methodLink R_Pa 58 y_Pa_passPart ∈ WT := WT_in (k := 783) (by decide +kernel) (by decide +kernel)
theorem lk_Pa_61 : Cond.methodLink R_Pa 61 y_Pa_isOperator ∈ WT := WT_in (k := 794) (by decide +kernel) (by decide +kernel)
theorem lk_Pa_54 : Cond.methodLink R_Pa 54 y_Fo_add ∈ WT := WT_in (k := 790) (by decide +kernel) (by decide +kernel)
theorem lk_Pa_64 : Cond.methodLink R_Pa 64 y_Fo_isDigit ∈ WT := WT_in (k := 787) (by decide +kernel) (by decide +kernel)
theorem lk_Pa_51 : Cond.methodLink R_Pa 51 y_Pa_isComparison ∈ WT := WT_in (k := 801) (by decide +kernel) (by decide +kernel)
theorem lk_Pr_42 : Cond.methodLink R_Pr 42 y_Li_at ∈ WT := WT_in (k := 831) (by decide +kernel) (by decide +kernel)
theorem lk_Pr_48 : Cond.methodLink R_Pr 48 y_Pr_targetOf ∈ WT := WT_in (k := 832) (by decide +kernel) (by decide +kernel)
theorem lk_Pr_52 : Cond.methodLink R_Pr 52 y_Sp_write ∈ WT := WT_in (k := 836) (by decide +kernel) (by decide +kernel)
theorem lk_Pr_56 : Cond.methodLink R_Pr 56 y_Fo_valueIn ∈ WT := WT_in (k := 840) (by decide +kernel) (by decide +kernel)
theorem lk_Fo_27 : Cond.methodLink R_Fo 27 y_Fo_isVariable ∈ WT := WT_in (k := 844) (by decide +kernel) (by decide +kernel)
theorem lk_Fo_31 : Cond.methodLink R_Fo 31 y_Sp_read ∈ WT := WT_in (k := 845) (by decide +kernel) (by decide +kernel)
theorem lk_Fo_37 : Cond.methodLink R_Fo 37 y_Fo_isDigit ∈ WT := WT_in (k := 849) (by decide +kernel) (by decide +kernel)
theorem lk_Fo_40 : Cond.fieldLink R_Fo 40 "PredicateProver$Space" "mask" "I" ∈ WT := WT_in (k := 48) (by decide +kernel) (by decide +kernel)
theorem lk_Fo_43 : Cond.methodLink R_Fo 43 y_Fo_combine ∈ WT := WT_in (k := 850) (by decide +kernel) (by decide +kernel)
theorem lk_Lw_17 : Cond.methodLink R_Lw 17 y_PP_predicate ∈ WT := WT_in (k := 856) (by decide +kernel) (by decide +kernel)
theorem lk_PP_122 : Cond.methodLink R_PP 122 y_Pa_readAtom ∈ WT := WT_in (k := 860) (by decide +kernel) (by decide +kernel)
theorem lk_PP_128 : Cond.methodLink R_PP 128 y_Gr_isFull ∈ WT := WT_in (k := 862) (by decide +kernel) (by decide +kernel)
theorem lk_PP_134 : Cond.fieldLink R_PP 134 "PredicateProver$Space" "states" "I" ∈ WT := WT_in (k := 55) (by decide +kernel) (by decide +kernel)
theorem lk_PP_137 : Cond.methodLink R_PP 137 y_Fo_valueIn ∈ WT := WT_in (k := 867) (by decide +kernel) (by decide +kernel)
theorem lk_PP_141 : Cond.methodLink R_PP 141 y_Gr_include ∈ WT := WT_in (k := 868) (by decide +kernel) (by decide +kernel)
theorem lk_PP_144 : Cond.methodLink R_PP 144 y_Gr_endPredicate ∈ WT := WT_in (k := 872) (by decide +kernel) (by decide +kernel)
theorem lk_Lw_20 : Cond.methodLink R_Lw 20 y_PP_prove ∈ WT := WT_in (k := 879) (by decide +kernel) (by decide +kernel)
theorem lk_PP_153 : Cond.methodLink R_PP 153 y_PP_makeRound ∈ WT := WT_in (k := 884) (by decide +kernel) (by decide +kernel)
theorem lk_PP_211 : Cond.methodLink R_PP 211 y_Se_run ∈ WT := WT_in (k := 888) (by decide +kernel) (by decide +kernel)
theorem lk_PP_214 : Cond.fieldLink R_PP 214 "PredicateProver$Search" "outOfRoom" "Z" ∈ WT := WT_in (k := 543) (by decide +kernel) (by decide +kernel)
theorem lk_PP_218 : Cond.methodLink R_PP 218 y_Re_succeeds ∈ WT := WT_in (k := 927) (by decide +kernel) (by decide +kernel)
theorem lk_PP_221 : Cond.methodLink R_PP 221 y_Rf_refine ∈ WT := WT_in (k := 953) (by decide +kernel) (by decide +kernel)
theorem lk_Se_68 : Cond.methodLink R_Se 68 y_Se_forget ∈ WT := WT_in (k := 892) (by decide +kernel) (by decide +kernel)
theorem lk_Se_71 : Cond.methodLink R_Se 71 y_Ar_fill_aBB ∈ WT := WT_in (k := 893) (by decide +kernel) (by decide +kernel)
theorem lk_Se_77 : Cond.fieldLink R_Se 77 "PredicateProver$Groups" "groupOf" "[I" ∈ WT := WT_in (k := 496) (by decide +kernel) (by decide +kernel)
theorem lk_Se_82 : Cond.methodLink R_Se 82 y_Se_addNode ∈ WT := WT_in (k := 896) (by decide +kernel) (by decide +kernel)
theorem lk_Se_86 : Cond.fieldLink R_Se 86 "PredicateProver$Program" "count" "I" ∈ WT := WT_in (k := 117) (by decide +kernel) (by decide +kernel)
theorem lk_Se_89 : Cond.fieldLink R_Se 89 "PredicateProver$Program" "from" "[I" ∈ WT := WT_in (k := 107) (by decide +kernel) (by decide +kernel)
theorem lk_Se_92 : Cond.methodLink R_Se 92 y_Se_take ∈ WT := WT_in (k := 904) (by decide +kernel) (by decide +kernel)
theorem lk_Se_127 : Cond.methodLink R_Se 127 y_Gr_signatureOf ∈ WT := WT_in (k := 900) (by decide +kernel) (by decide +kernel)
theorem lk_Se_96 : Cond.methodLink R_Se 96 y_Se_markReached ∈ WT := WT_in (k := 908) (by decide +kernel) (by decide +kernel)
theorem lk_Se_100 : Cond.fieldLink R_Se 100 "PredicateProver$Program" "to" "[I" ∈ WT := WT_in (k := 109) (by decide +kernel) (by decide +kernel)
theorem lk_Se_103 : Cond.fieldLink R_Se 103 "PredicateProver$Groups" "groupCount" "I" ∈ WT := WT_in (k := 494) (by decide +kernel) (by decide +kernel)
theorem lk_Se_106 : Cond.methodLink R_Se 106 y_Se_tracePath ∈ WT := WT_in (k := 923) (by decide +kernel) (by decide +kernel)
theorem lk_Se_110 : Cond.methodLink R_Se 110 y_Ar_fill_aBIIB ∈ WT := WT_in (k := 912) (by decide +kernel) (by decide +kernel)
theorem lk_Se_113 : Cond.methodLink R_Se 113 y_Pr_choices ∈ WT := WT_in (k := 915) (by decide +kernel) (by decide +kernel)
theorem lk_Se_117 : Cond.fieldLink R_Se 117 "PredicateProver$Groups" "start" "[I" ∈ WT := WT_in (k := 500) (by decide +kernel) (by decide +kernel)
theorem lk_Se_120 : Cond.fieldLink R_Se 120 "PredicateProver$Groups" "member" "[I" ∈ WT := WT_in (k := 498) (by decide +kernel) (by decide +kernel)
theorem lk_Se_123 : Cond.methodLink R_Se 123 y_Pr_step ∈ WT := WT_in (k := 919) (by decide +kernel) (by decide +kernel)
theorem lk_Pr_62 : Cond.fieldLink R_Pr 62 "PredicateProver$Space" "mask" "I" ∈ WT := WT_in (k := 47) (by decide +kernel) (by decide +kernel)
theorem lk_Re_41 : Cond.fieldLink R_Re 41 "PredicateProver$Search" "pathLength" "I" ∈ WT := WT_in (k := 546) (by decide +kernel) (by decide +kernel)
theorem lk_Re_48 : Cond.methodLink R_Re 48 y_Ar_fill_aJJ ∈ WT := WT_in (k := 932) (by decide +kernel) (by decide +kernel)
theorem lk_Re_54 : Cond.methodLink R_Re 54 y_Re_openBefore ∈ WT := WT_in (k := 935) (by decide +kernel) (by decide +kernel)
theorem lk_Re_58 : Cond.methodLink R_Re 58 y_Re_isOpen ∈ WT := WT_in (k := 945) (by decide +kernel) (by decide +kernel)
theorem lk_Re_62 : Cond.methodLink R_Re 62 y_Re_collectInputs ∈ WT := WT_in (k := 949) (by decide +kernel) (by decide +kernel)
theorem lk_Re_65 : Cond.methodLink R_Re 65 y_Re_leastInput ∈ WT := WT_in (k := 939) (by decide +kernel) (by decide +kernel)
theorem lk_Re_69 : Cond.fieldLink R_Re 69 "PredicateProver$Search" "pathEdge" "[I" ∈ WT := WT_in (k := 550) (by decide +kernel) (by decide +kernel)
theorem lk_Re_72 : Cond.methodLink R_Re 72 y_Pr_choices ∈ WT := WT_in (k := 943) (by decide +kernel) (by decide +kernel)
theorem lk_Re_78 : Cond.methodLink R_Re 78 y_Pr_step ∈ WT := WT_in (k := 944) (by decide +kernel) (by decide +kernel)
theorem lk_Re_82 : Cond.fieldLink R_Re 82 "PredicateProver$Program" "kind" "[I" ∈ WT := WT_in (k := 112) (by decide +kernel) (by decide +kernel)
theorem lk_Rf_45 : Cond.fieldLink R_Rf 45 "PredicateProver$Groups" "count" "I" ∈ WT := WT_in (k := 489) (by decide +kernel) (by decide +kernel)
theorem lk_Rf_50 : Cond.fieldLink R_Rf 50 "PredicateProver$Search" "pathLength" "I" ∈ WT := WT_in (k := 545) (by decide +kernel) (by decide +kernel)
theorem lk_Rf_55 : Cond.fieldLink R_Rf 55 "PredicateProver$Search" "pathEdge" "[I" ∈ WT := WT_in (k := 549) (by decide +kernel) (by decide +kernel)
theorem lk_Rf_59 : Cond.methodLink R_Rf 59 y_Rf_passEdge ∈ WT := WT_in (k := 957) (by decide +kernel) (by decide +kernel)
theorem lk_Rf_63 : Cond.methodLink R_Rf 63 y_Rf_adoptTaken ∈ WT := WT_in (k := 980) (by decide +kernel) (by decide +kernel)
theorem lk_Rf_67 : Cond.methodLink R_Rf 67 y_Rf_adoptVariableBit ∈ WT := WT_in (k := 995) (by decide +kernel) (by decide +kernel)
theorem lk_Rf_70 : Cond.fieldLink R_Rf 70 "PredicateProver$Program" "kind" "[I" ∈ WT := WT_in (k := 111) (by decide +kernel) (by decide +kernel)
theorem lk_Rf_75 : Cond.fieldLink R_Rf 75 "PredicateProver$Program" "target" "[[I" ∈ WT := WT_in (k := 115) (by decide +kernel) (by decide +kernel)
theorem lk_Rf_79 : Cond.methodLink R_Rf 79 y_Rf_takeAlong ∈ WT := WT_in (k := 961) (by decide +kernel) (by decide +kernel)
theorem lk_Rf_83 : Cond.methodLink R_Rf 83 y_Rf_rowsInUse ∈ WT := WT_in (k := 966) (by decide +kernel) (by decide +kernel)
theorem lk_Rf_87 : Cond.methodLink R_Rf 87 y_Rf_pullBack ∈ WT := WT_in (k := 970) (by decide +kernel) (by decide +kernel)
theorem lk_Rf_91 : Cond.methodLink R_Rf 91 y_Rf_leaveBehind ∈ WT := WT_in (k := 975) (by decide +kernel) (by decide +kernel)
theorem lk_Rf_94 : Cond.methodLink R_Rf 94 y_Ar_fill_aJJ ∈ WT := WT_in (k := 965) (by decide +kernel) (by decide +kernel)
theorem lk_Rf_100 : Cond.methodLink R_Rf 100 ⟨"java/lang/System", "arraycopy", "(Ljava/lang/Object;ILjava/lang/Object;II)V"⟩ ∈ WT := WT_in (k := 974) (by decide +kernel) (by decide +kernel)
theorem lk_Rf_108 : Cond.methodLink R_Rf 108 y_Gr_splitting ∈ WT := WT_in (k := 984) (by decide +kernel) (by decide +kernel)
theorem lk_Rf_112 : Cond.methodLink R_Rf 112 y_Gr_isFull ∈ WT := WT_in (k := 988) (by decide +kernel) (by decide +kernel)
theorem lk_Rf_115 : Cond.methodLink R_Rf 115 y_Rf_adopt ∈ WT := WT_in (k := 989) (by decide +kernel) (by decide +kernel)
theorem lk_Rf_119 : Cond.methodLink R_Rf 119 y_Gr_include ∈ WT := WT_in (k := 993) (by decide +kernel) (by decide +kernel)
theorem lk_Rf_122 : Cond.methodLink R_Rf 122 y_Gr_endPredicate ∈ WT := WT_in (k := 994) (by decide +kernel) (by decide +kernel)
theorem lk_Rf_125 : Cond.fieldLink R_Rf 125 "PredicateProver$Space" "width" "I" ∈ WT := WT_in (k := 45) (by decide +kernel) (by decide +kernel)
theorem lk_Lw_24 : Cond.methodLink R_Lw 24 y_PP_holds ∈ WT := WT_in (k := 1003) (by decide +kernel) (by decide +kernel)
theorem lk_PP_156 : Cond.methodLink R_PP 156 y_Sp_contains ∈ WT := WT_in (k := 1007) (by decide +kernel) (by decide +kernel)
theorem lk_PP_159 : Cond.classLink R_PP 159 "java/lang/IndexOutOfBoundsException" ∈ WT := WT_in (k := 1011) (by decide +kernel) (by decide +kernel)
theorem lk_PP_163 : Cond.methodLink R_PP 163 ⟨"java/lang/IndexOutOfBoundsException", "<init>", "(Ljava/lang/String;)V"⟩ ∈ WT := WT_in (k := 1021) (by decide +kernel) (by decide +kernel)
theorem lk_PP_164 : Cond.fieldLink R_PP 164 "PredicateProver$Groups" "signature" "[I" ∈ WT := WT_in (k := 492) (by decide +kernel) (by decide +kernel)
theorem lk_Lw_30 : Cond.methodLink R_Lw 30 y_PP_signature ∈ WT := WT_in (k := 1027) (by decide +kernel) (by decide +kernel)
theorem lk_Lw_34 : Cond.methodLink R_Lw 34 y_PP_follow ∈ WT := WT_in (k := 1035) (by decide +kernel) (by decide +kernel)
theorem lk_PP_172 : Cond.methodLink R_PP 172 y_Pr_step ∈ WT := WT_in (k := 1040) (by decide +kernel) (by decide +kernel)
theorem lk_Lw_38 : Cond.methodLink R_Lw 38 y_PP_node ∈ WT := WT_in (k := 1044) (by decide +kernel) (by decide +kernel)
theorem lk_PP_179 : Cond.fieldLink R_PP 179 "PredicateProver$Search" "location" "[I" ∈ WT := WT_in (k := 531) (by decide +kernel) (by decide +kernel)
theorem lk_PP_182 : Cond.fieldLink R_PP 182 "PredicateProver$Search" "signature" "[I" ∈ WT := WT_in (k := 533) (by decide +kernel) (by decide +kernel)
theorem lk_PP_183 : Cond.fieldLink R_PP 183 "PredicateProver$Search" "parent" "[I" ∈ WT := WT_in (k := 535) (by decide +kernel) (by decide +kernel)
theorem lk_PP_186 : Cond.fieldLink R_PP 186 "PredicateProver$Search" "byEdge" "[I" ∈ WT := WT_in (k := 537) (by decide +kernel) (by decide +kernel)
theorem lk_Lw_42 : Cond.methodLink R_Lw 42 y_PP_path ∈ WT := WT_in (k := 1053) (by decide +kernel) (by decide +kernel)
theorem lk_PP_196 : Cond.fieldLink R_PP 196 "PredicateProver$Search" "pathEdge" "[I" ∈ WT := WT_in (k := 551) (by decide +kernel) (by decide +kernel)
theorem lk_Lw_45 : Cond.methodLink R_Lw 45 y_PP_input ∈ WT := WT_in (k := 1061) (by decide +kernel) (by decide +kernel)
theorem lk_PP_199 : Cond.fieldLink R_PP 199 "PredicateProver$Replay" "inputCount" "I" ∈ WT := WT_in (k := 614) (by decide +kernel) (by decide +kernel)
theorem lk_PP_204 : Cond.fieldLink R_PP 204 "PredicateProver$Replay" "inputs" "[I" ∈ WT := WT_in (k := 612) (by decide +kernel) (by decide +kernel)
theorem lk_Mo_1 : Cond.methodLink R_Mo 1 ⟨"java/lang/Object", "<init>", "()V"⟩ ∈ WT := WT_in (k := 1071) (by decide +kernel) (by decide +kernel)
theorem lk_Mo_7 : Cond.fieldLink R_Mo 7 "PredicateProverModel" "line" "[I" ∈ WT := WT_in (k := 1076) (by decide +kernel) (by decide +kernel)
theorem lk_Mo_13 : Cond.fieldLink R_Mo 13 "PredicateProverModel" "from" "[I" ∈ WT := WT_in (k := 1079) (by decide +kernel) (by decide +kernel)
theorem lk_Mo_16 : Cond.fieldLink R_Mo 16 "PredicateProverModel" "to" "[I" ∈ WT := WT_in (k := 1080) (by decide +kernel) (by decide +kernel)
theorem lk_Mo_19 : Cond.fieldLink R_Mo 19 "PredicateProverModel" "kind" "[I" ∈ WT := WT_in (k := 1081) (by decide +kernel) (by decide +kernel)
theorem lk_Mo_22 : Cond.fieldLink R_Mo 22 "PredicateProverModel" "variable" "[I" ∈ WT := WT_in (k := 1082) (by decide +kernel) (by decide +kernel)
theorem lk_Mo_25 : Cond.fieldLink R_Mo 25 "PredicateProverModel" "effect" "[J" ∈ WT := WT_in (k := 1083) (by decide +kernel) (by decide +kernel)
theorem lk_Mo_29 : Cond.fieldLink R_Mo 29 "PredicateProverModel" "member" "[J" ∈ WT := WT_in (k := 1085) (by decide +kernel) (by decide +kernel)
theorem lk_Mo_32 : Cond.fieldLink R_Mo 32 "PredicateProverModel" "signature" "[I" ∈ WT := WT_in (k := 1086) (by decide +kernel) (by decide +kernel)
theorem lk_Mo_35 : Cond.fieldLink R_Mo 35 "PredicateProverModel" "outcome" "I" ∈ WT := WT_in (k := 1087) (by decide +kernel) (by decide +kernel)
theorem lk_Mo_39 : Cond.fieldLink R_Mo 39 "PredicateProverModel" "place" "[I" ∈ WT := WT_in (k := 1089) (by decide +kernel) (by decide +kernel)
theorem lk_Mo_42 : Cond.fieldLink R_Mo 42 "PredicateProverModel" "sign" "[I" ∈ WT := WT_in (k := 1090) (by decide +kernel) (by decide +kernel)
theorem lk_Mo_45 : Cond.fieldLink R_Mo 45 "PredicateProverModel" "source" "[I" ∈ WT := WT_in (k := 1091) (by decide +kernel) (by decide +kernel)
theorem lk_Mo_48 : Cond.fieldLink R_Mo 48 "PredicateProverModel" "by" "[I" ∈ WT := WT_in (k := 1092) (by decide +kernel) (by decide +kernel)
theorem lk_Mo_51 : Cond.fieldLink R_Mo 51 "PredicateProverModel" "length" "I" ∈ WT := WT_in (k := 1093) (by decide +kernel) (by decide +kernel)
theorem lk_Mo_54 : Cond.fieldLink R_Mo 54 "PredicateProverModel" "path" "[I" ∈ WT := WT_in (k := 1094) (by decide +kernel) (by decide +kernel)
theorem lk_Mo_57 : Cond.fieldLink R_Mo 57 "PredicateProverModel" "input" "[I" ∈ WT := WT_in (k := 1096) (by decide +kernel) (by decide +kernel)
theorem lk_Mo_60 : Cond.fieldLink R_Mo 60 "PredicateProverModel" "seen" "[I" ∈ WT := WT_in (k := 1097) (by decide +kernel) (by decide +kernel)
theorem lk_Mo_63 : Cond.fieldLink R_Mo 63 "PredicateProverModel" "set" "[J" ∈ WT := WT_in (k := 1099) (by decide +kernel) (by decide +kernel)
theorem lk_Mo_66 : Cond.fieldLink R_Mo 66 "PredicateProverModel" "work" "[Z" ∈ WT := WT_in (k := 1100) (by decide +kernel) (by decide +kernel)
theorem lk_Mo_70 : Cond.fieldLink R_Mo 70 "PredicateProverModel" "value" "[I" ∈ WT := WT_in (k := 1101) (by decide +kernel) (by decide +kernel)
theorem lk_Mo_73 : Cond.fieldLink R_Mo 73 "PredicateProverModel" "open" "[I" ∈ WT := WT_in (k := 1102) (by decide +kernel) (by decide +kernel)
theorem lk_Mo_76 : Cond.fieldLink R_Mo 76 "PredicateProverModel" "width" "I" ∈ WT := WT_in (k := 1072) (by decide +kernel) (by decide +kernel)
theorem lk_Mo_79 : Cond.fieldLink R_Mo 79 "PredicateProverModel" "limit" "I" ∈ WT := WT_in (k := 1073) (by decide +kernel) (by decide +kernel)
theorem lk_Mo_82 : Cond.fieldLink R_Mo 82 "PredicateProverModel" "states" "I" ∈ WT := WT_in (k := 1074) (by decide +kernel) (by decide +kernel)
theorem lk_Mo_85 : Cond.fieldLink R_Mo 85 "PredicateProverModel" "code" "I" ∈ WT := WT_in (k := 1075) (by decide +kernel) (by decide +kernel)
theorem lk_Mo_88 : Cond.fieldLink R_Mo 88 "PredicateProverModel" "typed" "I" ∈ WT := WT_in (k := 1077) (by decide +kernel) (by decide +kernel)
theorem lk_Mo_91 : Cond.methodLink R_Mo 91 y_Mo_at ∈ WT := WT_in (k := 1183) (by decide +kernel) (by decide +kernel)
theorem lk_Mo_129 : Cond.methodLink R_Mo 129 y_Mo_isLocation ∈ WT := WT_in (k := 1187) (by decide +kernel) (by decide +kernel)
theorem lk_Mo_132 : Cond.methodLink R_Mo 132 y_Mo_fail ∈ WT := WT_in (k := 1190) (by decide +kernel) (by decide +kernel)
theorem lk_Mo_95 : Cond.methodLink R_Mo 95 y_Mo_isVariable ∈ WT := WT_in (k := 1194) (by decide +kernel) (by decide +kernel)
theorem lk_Mo_135 : Cond.methodLink R_Mo 135 y_Mo_relationAt ∈ WT := WT_in (k := 1197) (by decide +kernel) (by decide +kernel)
theorem lk_Mo_102 : Cond.methodLink R_Mo 102 y_Mo_termEnd ∈ WT := WT_in (k := 1201) (by decide +kernel) (by decide +kernel)
theorem lk_Mo_138 : Cond.fieldLink R_Mo 138 "PredicateProverModel" "edges" "I" ∈ WT := WT_in (k := 1078) (by decide +kernel) (by decide +kernel)
theorem lk_Mo_119 : Cond.methodLink R_Mo 119 y_Mo_worked ∈ WT := WT_in (k := 1211) (by decide +kernel) (by decide +kernel)
theorem lk_Mo_141 : Cond.methodLink R_Mo 141 y_Mo_atom ∈ WT := WT_in (k := 1227) (by decide +kernel) (by decide +kernel)
theorem lk_Mo_145 : Cond.methodLink R_Mo 145 y_Mo_forget ∈ WT := WT_in (k := 1231) (by decide +kernel) (by decide +kernel)
theorem lk_Mo_105 : Cond.methodLink R_Mo 105 y_Mo_isRelation ∈ WT := WT_in (k := 1208) (by decide +kernel) (by decide +kernel)
theorem lk_Mo_99 : Cond.methodLink R_Mo 99 y_Mo_isSign ∈ WT := WT_in (k := 1205) (by decide +kernel) (by decide +kernel)
theorem lk_Mo_112 : Cond.methodLink R_Mo 112 y_Mo_join ∈ WT := WT_in (k := 1215) (by decide +kernel) (by decide +kernel)
theorem lk_Mo_116 : Cond.methodLink R_Mo 116 y_Mo_part ∈ WT := WT_in (k := 1219) (by decide +kernel) (by decide +kernel)
theorem lk_Mo_108 : Cond.methodLink R_Mo 108 y_Mo_valueOf ∈ WT := WT_in (k := 1223) (by decide +kernel) (by decide +kernel)
theorem lk_Mo_123 : Cond.fieldLink R_Mo 123 "PredicateProverModel" "nodes" "I" ∈ WT := WT_in (k := 1088) (by decide +kernel) (by decide +kernel)
theorem lk_Mo_126 : Cond.fieldLink R_Mo 126 "PredicateProverModel" "inputs" "I" ∈ WT := WT_in (k := 1095) (by decide +kernel) (by decide +kernel)
theorem lk_Mo_155 : Cond.fieldLink R_Mo 155 "PredicateProverModel" "predicates" "I" ∈ WT := WT_in (k := 1084) (by decide +kernel) (by decide +kernel)
theorem lk_Mo_158 : Cond.methodLink R_Mo 158 y_Mo_addWork ∈ WT := WT_in (k := 1239) (by decide +kernel) (by decide +kernel)
theorem lk_Mo_210 : Cond.methodLink R_Mo 210 y_Mo_search ∈ WT := WT_in (k := 1251) (by decide +kernel) (by decide +kernel)
theorem lk_Mo_213 : Cond.methodLink R_Mo 213 y_Mo_isTrue ∈ WT := WT_in (k := 1282) (by decide +kernel) (by decide +kernel)
theorem lk_Mo_216 : Cond.methodLink R_Mo 216 y_Mo_refine ∈ WT := WT_in (k := 1302) (by decide +kernel) (by decide +kernel)
theorem lk_Mo_174 : Cond.methodLink R_Mo 174 y_Mo_spread ∈ WT := WT_in (k := 1255) (by decide +kernel) (by decide +kernel)
theorem lk_Mo_168 : Cond.methodLink R_Mo 168 y_Mo_mark ∈ WT := WT_in (k := 1259) (by decide +kernel) (by decide +kernel)
theorem lk_Mo_171 : Cond.methodLink R_Mo 171 y_Mo_known ∈ WT := WT_in (k := 1278) (by decide +kernel) (by decide +kernel)
theorem lk_Mo_161 : Cond.methodLink R_Mo 161 y_Mo_led ∈ WT := WT_in (k := 1263) (by decide +kernel) (by decide +kernel)
theorem lk_Mo_164 : Cond.methodLink R_Mo 164 y_Mo_isOn ∈ WT := WT_in (k := 1274) (by decide +kernel) (by decide +kernel)
theorem lk_Mo_152 : Cond.methodLink R_Mo 152 y_Mo_with ∈ WT := WT_in (k := 1270) (by decide +kernel) (by decide +kernel)
theorem lk_Mo_148 : Cond.methodLink R_Mo 148 y_Mo_bit ∈ WT := WT_in (k := 1267) (by decide +kernel) (by decide +kernel)
theorem lk_Mo_183 : Cond.methodLink R_Mo 183 y_Mo_store ∈ WT := WT_in (k := 1286) (by decide +kernel) (by decide +kernel)
theorem lk_Mo_187 : Cond.methodLink R_Mo 187 y_Mo_before ∈ WT := WT_in (k := 1290) (by decide +kernel) (by decide +kernel)
theorem lk_Mo_180 : Cond.methodLink R_Mo 180 y_Mo_isIn ∈ WT := WT_in (k := 1298) (by decide +kernel) (by decide +kernel)
theorem lk_Mo_177 : Cond.methodLink R_Mo 177 y_Mo_leadsIn ∈ WT := WT_in (k := 1294) (by decide +kernel) (by decide +kernel)
theorem lk_Mo_190 : Cond.fieldLink R_Mo 190 "PredicateProverModel" "taken" "I" ∈ WT := WT_in (k := 1098) (by decide +kernel) (by decide +kernel)
theorem lk_Mo_203 : Cond.methodLink R_Mo 203 y_Mo_along ∈ WT := WT_in (k := 1306) (by decide +kernel) (by decide +kernel)
theorem lk_Mo_193 : Cond.methodLink R_Mo 193 y_Mo_fetch ∈ WT := WT_in (k := 1310) (by decide +kernel) (by decide +kernel)
theorem lk_Mo_206 : Cond.methodLink R_Mo 206 y_Mo_offer ∈ WT := WT_in (k := 1318) (by decide +kernel) (by decide +kernel)
theorem lk_Mo_196 : Cond.methodLink R_Mo 196 y_Mo_hangsOn ∈ WT := WT_in (k := 1314) (by decide +kernel) (by decide +kernel)
theorem lk_Mo_199 : Cond.methodLink R_Mo 199 y_Mo_splits ∈ WT := WT_in (k := 1322) (by decide +kernel) (by decide +kernel)
theorem lk_Mo_219 : Cond.methodLink R_Mo 219 y_Mo_isState ∈ WT := WT_in (k := 1342) (by decide +kernel) (by decide +kernel)
theorem lk_Lw_8 : Cond.classLink R_Lw 8 "PredicateProver" ∈ WT := WT_in (k := 30) (by decide +kernel) (by decide +kernel)
theorem lk_Lw_48 : Cond.methodLink R_Lw 48 y_Lw_cell ∈ WT := WT_in (k := 745) (by decide +kernel) (by decide +kernel)
theorem lk_Lw_54 : Cond.methodLink R_Lw 54 y_PP_init ∈ WT := WT_in (k := 32) (by decide +kernel) (by decide +kernel)
theorem lk_Lw_57 : Cond.classLink R_Lw 57 "PredicateProverModel" ∈ WT := WT_in (k := 1066) (by decide +kernel) (by decide +kernel)
theorem lk_Lw_59 : Cond.methodLink R_Lw 59 y_Mo_init ∈ WT := WT_in (k := 1068) (by decide +kernel) (by decide +kernel)
theorem lk_Lw_60 : Cond.methodLink R_Lw 60 y_PP_type ∈ WT := WT_in (k := 689) (by decide +kernel) (by decide +kernel)
theorem lk_Lw_64 : Cond.methodLink R_Lw 64 y_Mo_type ∈ WT := WT_in (k := 1171) (by decide +kernel) (by decide +kernel)
theorem lk_Lw_65 : Cond.methodLink R_Lw 65 y_PP_wipe ∈ WT := WT_in (k := 697) (by decide +kernel) (by decide +kernel)
theorem lk_Lw_68 : Cond.methodLink R_Lw 68 y_Mo_wipe ∈ WT := WT_in (k := 1175) (by decide +kernel) (by decide +kernel)
theorem lk_Lw_69 : Cond.methodLink R_Lw 69 y_Lw_edge ∈ WT := WT_in (k := 748) (by decide +kernel) (by decide +kernel)
theorem lk_Lw_72 : Cond.methodLink R_Lw 72 y_Mo_edge ∈ WT := WT_in (k := 1179) (by decide +kernel) (by decide +kernel)
theorem lk_Lw_73 : Cond.methodLink R_Lw 73 y_Mo_thrown ∈ WT := WT_in (k := 1167) (by decide +kernel) (by decide +kernel)
theorem lk_Lw_76 : Cond.methodLink R_Lw 76 y_Lw_predicate ∈ WT := WT_in (k := 853) (by decide +kernel) (by decide +kernel)
theorem lk_Lw_78 : Cond.methodLink R_Lw 78 y_Mo_predicate ∈ WT := WT_in (k := 1235) (by decide +kernel) (by decide +kernel)
theorem lk_Lw_79 : Cond.methodLink R_Lw 79 y_PP_clear ∈ WT := WT_in (k := 705) (by decide +kernel) (by decide +kernel)
theorem lk_Lw_82 : Cond.methodLink R_Lw 82 y_Mo_clear ∈ WT := WT_in (k := 1243) (by decide +kernel) (by decide +kernel)
theorem lk_Lw_83 : Cond.methodLink R_Lw 83 y_Lw_prove ∈ WT := WT_in (k := 876) (by decide +kernel) (by decide +kernel)
theorem lk_Lw_86 : Cond.methodLink R_Lw 86 y_Mo_prove ∈ WT := WT_in (k := 1247) (by decide +kernel) (by decide +kernel)
theorem lk_Lw_87 : Cond.methodLink R_Lw 87 y_PP_outcome ∈ WT := WT_in (k := 725) (by decide +kernel) (by decide +kernel)
theorem lk_Lw_90 : Cond.methodLink R_Lw 90 y_Mo_outcome ∈ WT := WT_in (k := 1326) (by decide +kernel) (by decide +kernel)
theorem lk_Lw_91 : Cond.methodLink R_Lw 91 y_PP_edges ∈ WT := WT_in (k := 729) (by decide +kernel) (by decide +kernel)
theorem lk_Lw_94 : Cond.methodLink R_Lw 94 y_Mo_edges ∈ WT := WT_in (k := 1330) (by decide +kernel) (by decide +kernel)
theorem lk_Lw_95 : Cond.methodLink R_Lw 95 y_PP_predicates ∈ WT := WT_in (k := 733) (by decide +kernel) (by decide +kernel)
theorem lk_Lw_98 : Cond.methodLink R_Lw 98 y_Mo_predicates ∈ WT := WT_in (k := 1334) (by decide +kernel) (by decide +kernel)
theorem lk_Lw_99 : Cond.methodLink R_Lw 99 y_Lw_holds ∈ WT := WT_in (k := 999) (by decide +kernel) (by decide +kernel)
theorem lk_Lw_102 : Cond.methodLink R_Lw 102 y_Mo_holds ∈ WT := WT_in (k := 1338) (by decide +kernel) (by decide +kernel)
theorem lk_Lw_103 : Cond.methodLink R_Lw 103 y_Lw_signature ∈ WT := WT_in (k := 1024) (by decide +kernel) (by decide +kernel)
theorem lk_Lw_105 : Cond.methodLink R_Lw 105 y_Mo_signature ∈ WT := WT_in (k := 1346) (by decide +kernel) (by decide +kernel)
theorem lk_Lw_106 : Cond.methodLink R_Lw 106 y_Lw_follow ∈ WT := WT_in (k := 1032) (by decide +kernel) (by decide +kernel)
theorem lk_Lw_109 : Cond.methodLink R_Lw 109 y_Mo_follow ∈ WT := WT_in (k := 1350) (by decide +kernel) (by decide +kernel)
theorem lk_Lw_110 : Cond.methodLink R_Lw 110 y_PP_nodes ∈ WT := WT_in (k := 737) (by decide +kernel) (by decide +kernel)
theorem lk_Lw_113 : Cond.methodLink R_Lw 113 y_Mo_nodes ∈ WT := WT_in (k := 1354) (by decide +kernel) (by decide +kernel)
theorem lk_Lw_114 : Cond.methodLink R_Lw 114 y_Lw_node ∈ WT := WT_in (k := 1041) (by decide +kernel) (by decide +kernel)
theorem lk_Lw_116 : Cond.methodLink R_Lw 116 y_Mo_node ∈ WT := WT_in (k := 1358) (by decide +kernel) (by decide +kernel)
theorem lk_Lw_117 : Cond.methodLink R_Lw 117 y_PP_length ∈ WT := WT_in (k := 741) (by decide +kernel) (by decide +kernel)
theorem lk_Lw_120 : Cond.methodLink R_Lw 120 y_Mo_length ∈ WT := WT_in (k := 1362) (by decide +kernel) (by decide +kernel)
theorem lk_Lw_121 : Cond.methodLink R_Lw 121 y_Lw_path ∈ WT := WT_in (k := 1050) (by decide +kernel) (by decide +kernel)
theorem lk_Lw_123 : Cond.methodLink R_Lw 123 y_Mo_path ∈ WT := WT_in (k := 1366) (by decide +kernel) (by decide +kernel)
theorem lk_Lw_124 : Cond.methodLink R_Lw 124 y_Lw_input ∈ WT := WT_in (k := 1058) (by decide +kernel) (by decide +kernel)
theorem lk_Lw_126 : Cond.methodLink R_Lw 126 y_Mo_input ∈ WT := WT_in (k := 1370) (by decide +kernel) (by decide +kernel)
end
section
/-! The frame of all walks of this claim (own text): values, locals, cells and worlds by numbers; one judgement GX over the kit's W. A world is a list ks of cell numbers, a layout (what each number is), the addresses ad, and the contents F (ints by cell and place), L (longs). -/
abbrev xV : Type := Int32 ⊕ Int64 ⊕ Nat
abbrev xI (x : Int32) : xV := Sum.inl x
abbrev xL (x : Int64) : xV := Sum.inr (Sum.inl x)
abbrev xR (k : Nat) : xV := Sum.inr (Sum.inr k)
def gxv (ad : Nat → Nat) (v : xV) : Value := match v with
  | Sum.inl x => .int x
  | Sum.inr (Sum.inl x) => .long x
  | Sum.inr (Sum.inr k) => .ref (ad k)
def gxis (v : xV) : Bool := match v with
  | Sum.inr (Sum.inl _) => true
  | _ => false
theorem gxv_cat (ad : Nat → Nat) (v : xV) : (gxv ad v).category = cond (gxis v) 2 1 := by
  rcases v with x | x | x <;> rfl
/-- the locals: the latest store first -/
def gxlk : List (Nat × xV) → Nat → Option xV
  | [], _ => none
  | q :: r, i => cond (Nat.beq q.1 i) (some q.2) (cond (Nat.beq (q.1 + 1) i && gxis q.2) none (match gxlk r i with
      | none => none
      | some v => cond (Nat.beq (i + 1) q.1 && gxis v) none (some v)))
def gxhas (la : Array Slot) (nL : Nat) (ls : List (Nat × xV)) (ad : Nat → Nat) : Prop := la.size = nL ∧ lv_wf la ∧ ∀ (i : Nat) (v : xV), gxlk ls i = some v → la[i]? = some (.val (gxv ad v))
def gxl (ls : List (Nat × xV)) (nL : Nat) (ad : Nat → Nat) : List (Nat × Value) := (List.range nL).filterMap (fun i => (gxlk ls i).map (fun v => (i, gxv ad v)))
theorem gxl_mem {la : Array Slot} {nL : Nat} {ls : List (Nat × xV)} {ad : Nat → Nat} (h : gxhas la nL ls ad) {i : Nat} {v : xV} (hi : gxlk ls i = some v) : (i, gxv ad v) ∈ gxl ls nL ad := by
  have h1 := h.2.2 i v hi
  have h2 : i < nL := by rw [← h.1]; exact lv_lt h1
  exact List.mem_filterMap.mpr ⟨i, List.mem_range.mpr h2, by rw [hi]; rfl⟩
theorem gxl_has {la : Array Slot} {nL : Nat} {ls : List (Nat × xV)} {ad : Nat → Nat} (h : gxhas la nL ls ad) : lv_has la nL (gxl ls nL ad) := by
  refine ⟨h.1, h.2.1, fun q hq => ?_⟩
  obtain ⟨i, -, hi⟩ := List.mem_filterMap.mp hq
  cases hk : gxlk ls i with
  | none => rw [hk] at hi; cases hi
  | some v => rw [hk] at hi; cases hi; exact h.2.2 i v hk
theorem gxlk_cons {ls : List (Nat × xV)} {i j : Nat} {v w : xV} (h : gxlk ((i, v) :: ls) j = some w) : (i = j ∧ v = w) ∨ (i ≠ j ∧ gxlk ls j = some w ∧ ¬ (i + 1 = j ∧ gxis v = true) ∧ ¬ (j + 1 = i ∧ gxis w = true)) := by
  unfold gxlk at h
  by_cases h1 : i = j
  · subst h1
    simp at h
    exact Or.inl ⟨rfl, h⟩
  · have h2 : Nat.beq i j = false := by
      cases hb : Nat.beq i j with
      | false => rfl
      | true => exact absurd (Nat.eq_of_beq_eq_true hb) h1
    rw [h2] at h
    simp only [cond_false] at h
    cases h3 : (Nat.beq (i + 1) j && gxis v) with
    | true => rw [h3] at h; simp at h
    | false =>
      rw [h3] at h
      simp only [cond_false] at h
      cases h4 : gxlk ls j with
      | none => rw [h4] at h; simp at h
      | some u =>
        rw [h4] at h
        simp only at h
        cases h5 : (Nat.beq (j + 1) i && gxis u) with
        | true => rw [h5] at h; simp at h
        | false =>
          rw [h5] at h
          simp only [cond_false, Option.some.injEq] at h
          subst h
          refine Or.inr ⟨h1, rfl, ?_, ?_⟩
          · rintro ⟨e1, e2⟩
            subst e1
            rw [e2] at h3
            simp at h3
          · rintro ⟨e1, e2⟩
            subst e1
            rw [e2] at h5
            simp at h5
theorem gx_st1 {la la' : Array Slot} {nL i : Nat} {ls : List (Nat × xV)} {ad : Nat → Nat} {v : xV} (h0 : gxhas la nL ls ad)
    (h : lv_has la' nL ((i, gxv ad v) :: (gxl ls nL ad).filter (fun q => !(q.1 == i) && !(q.1 + 1 == i && q.2.category == 2)))) : gxhas la' nL ((i, v) :: ls) ad := by
  refine ⟨h.1, h.2.1, fun j w hj => ?_⟩
  rcases gxlk_cons hj with ⟨rfl, rfl⟩ | ⟨h1, h2, -, h4⟩
  · exact h.2.2 _ List.mem_cons_self
  · refine h.2.2 (j, gxv ad w) (List.mem_cons_of_mem _ (List.mem_filter.mpr ⟨gxl_mem h0 h2, ?_⟩))
    have e1 : (j == i) = false := by simpa using Ne.symm h1
    by_cases e2 : j + 1 = i
    · have e3 : gxis w = false := by
        cases hw : gxis w with
        | false => rfl
        | true => exact absurd ⟨e2, hw⟩ h4
      simp [e1, gxv_cat, e3]
    · simp [e1, e2]
theorem gx_st2 {la la' : Array Slot} {nL i : Nat} {ls : List (Nat × xV)} {ad : Nat → Nat} {v : xV} (h0 : gxhas la nL ls ad) (hv : gxis v = true)
    (h : lv_has la' nL ((i, gxv ad v) :: (gxl ls nL ad).filter (fun q => !(q.1 == i) && (!(q.1 == i + 1) && !(q.1 + 1 == i && q.2.category == 2))))) : gxhas la' nL ((i, v) :: ls) ad := by
  refine ⟨h.1, h.2.1, fun j w hj => ?_⟩
  rcases gxlk_cons hj with ⟨rfl, rfl⟩ | ⟨h1, h2, h3, h4⟩
  · exact h.2.2 _ List.mem_cons_self
  · refine h.2.2 (j, gxv ad w) (List.mem_cons_of_mem _ (List.mem_filter.mpr ⟨gxl_mem h0 h2, ?_⟩))
    have e1 : (j == i) = false := by simpa using Ne.symm h1
    have e0 : (j == i + 1) = false := by
      have : ¬ j = i + 1 := fun q => h3 ⟨q.symm, hv⟩
      simpa using this
    by_cases e2 : j + 1 = i
    · have e3 : gxis w = false := by
        cases hw : gxis w with
        | false => rfl
        | true => exact absurd ⟨e2, hw⟩ h4
      simp [e1, e0, gxv_cat, e3]
    · simp [e1, e0, e2]
/-- fewer locals are known -/
def gxle : List (Nat × xV) → List (Nat × xV) → Prop
  | [], _ => True
  | q :: r, ls => gxlk ls q.1 = some q.2 ∧ gxle r ls
theorem gxle_lk {ls : List (Nat × xV)} : ∀ {l' : List (Nat × xV)}, gxle l' ls → ∀ {i : Nat} {v : xV}, gxlk l' i = some v → gxlk ls i = some v
  | [], _, i, v, h => by simp [gxlk] at h
  | (j, w) :: r, hl, i, v, h => by
    rcases gxlk_cons h with ⟨rfl, rfl⟩ | ⟨-, h2, -, -⟩
    · exact hl.1
    · exact gxle_lk hl.2 h2
theorem gxhas.le {la : Array Slot} {nL : Nat} {ls l' : List (Nat × xV)} {ad : Nat → Nat} (h : gxhas la nL ls ad) (hl : gxle l' ls) : gxhas la nL l' ad := ⟨h.1, h.2.1, fun i v hi => h.2.2 i v (gxle_lk hl hi)⟩
/-! cells -/
def gxT (ca : Nat → ClassId) : List (ClassId × FieldType) := [(ca 0, .int), (ca 1, .long), (ca 2, .char), (ca 3, .byte), (ca 4, .boolean), (ca 5, .array .int), (ca 6, .array .long)]
abbrev gxE : Type := (Nat × List (Option Nat)) ⊕ (Nat × Nat) ⊕ Nat ⊕ (Nat × Nat × (Nat → Nat))
def gxfl (ad : Nat → Nat) (f : Nat → Int32) : Nat → List (Option Nat) → List Value
  | _, [] => []
  | j, none :: r => .int (f j) :: gxfl ad f (j + 1) r
  | j, some k :: r => .ref (ad k) :: gxfl ad f (j + 1) r
def gxc (ca : Nat → ClassId) (ad : Nat → Nat) (F : Nat → Nat → Int32) (L : Nat → Nat → Int64) (k : Nat) (e : gxE) : va_E := match e with
  | Sum.inl o => .inr (o.1, gxfl ad (F k) 0 o.2)
  | Sum.inr (Sum.inl a) => .inl (ca a.1, a.2, .inl (F k))
  | Sum.inr (Sum.inr (Sum.inl n)) => .inl (ca 1, n, .inr (.inl (L k)))
  | Sum.inr (Sum.inr (Sum.inr g)) => .inl (ca g.1, g.2.1, .inr (.inr (.inr (.inr (fun j => some (ad (g.2.2 j)))))))
def gxw (ks : List Nat) (lay : Nat → gxE) (ca : Nat → ClassId) (ad : Nat → Nat) (F : Nat → Nat → Int32) (L : Nat → Nat → Int64) : va_W := ks.map (fun k => (ad k, gxc ca ad F L k (lay k)))
def gxD (A : Nat → Prop) (ks : List Nat) (ad : Nat → Nat) : Prop := (∀ (i j a b : Nat), ks[i]? = some a → ks[j]? = some b → ad a = ad b → i = j) ∧ ∀ k ∈ ks, A (ad k)
theorem gxw_at {ks : List Nat} {lay : Nat → gxE} {ca : Nat → ClassId} {ad : Nat → Nat} {F : Nat → Nat → Int32} {L : Nat → Nat → Int64} {q k : Nat} (h : ks[q]? = some k) : (gxw ks lay ca ad F L)[q]? = some (ad k, gxc ca ad F L k (lay k)) := by
  simp [gxw, h]
theorem gxw_of {ks : List Nat} {lay : Nat → gxE} {ca : Nat → ClassId} {ad : Nat → Nat} {F : Nat → Nat → Int32} {L : Nat → Nat → Int64} {q : Nat} {z : Nat × va_E} (h : (gxw ks lay ca ad F L)[q]? = some z) : ∃ k, ks[q]? = some k ∧ z = (ad k, gxc ca ad F L k (lay k)) := by
  simp only [gxw, List.getElem?_map] at h
  cases hk : ks[q]? with
  | none => rw [hk] at h; cases h
  | some k => rw [hk] at h; cases h; exact ⟨k, rfl, rfl⟩
theorem gxD.D {A : Nat → Prop} {ks : List Nat} {ad : Nat → Nat} (h : gxD A ks ad) {lay : Nat → gxE} {ca : Nat → ClassId} {F : Nat → Nat → Int32} {L : Nat → Nat → Int64} : va_D A (gxw ks lay ca ad F L) := by
  refine ⟨fun i j p q hi hj he => ?_, fun k q hk => ?_⟩
  · obtain ⟨a, ha, rfl⟩ := gxw_of hi
    obtain ⟨b, hb, rfl⟩ := gxw_of hj
    exact h.1 i j a b ha hb he
  · obtain ⟨a, ha, rfl⟩ := gxw_of hk
    exact h.2 a (List.mem_of_getElem? ha)
theorem gxD.inj {A : Nat → Prop} {ks : List Nat} {ad : Nat → Nat} (h : gxD A ks ad) {a b : Nat} (ha : a ∈ ks) (hb : b ∈ ks) (he : ad a = ad b) : a = b := by
  obtain ⟨i, hi⟩ := List.getElem?_of_mem ha
  obtain ⟨j, hj⟩ := List.getElem?_of_mem hb
  have := h.1 i j a b hi hj he
  subst this
  exact Option.some.inj (hi.symm.trans hj)
theorem gxw_set {A : Nat → Prop} {ks : List Nat} {lay : Nat → gxE} {ca : Nat → ClassId} {ad : Nat → Nat} {F F' : Nat → Nat → Int32} {L L' : Nat → Nat → Int64} {q k : Nat} (hd : gxD A ks ad) (hq : ks[q]? = some k)
    (hF : ∀ a, a ≠ k → F' a = F a) (hL : ∀ a, a ≠ k → L' a = L a) : (gxw ks lay ca ad F L).set q (ad k, gxc ca ad F' L' k (lay k)) = gxw ks lay ca ad F' L' := by
  apply List.ext_getElem?
  intro i
  by_cases hi : i = q
  · subst hi
    have h1 : i < ks.length := (List.getElem?_eq_some_iff.mp hq).1
    rw [gxw_at hq, List.getElem?_set_self (by simpa [gxw] using h1)]
  · rw [List.getElem?_set_ne (Ne.symm hi)]
    cases ha : ks[i]? with
    | none => simp [gxw, ha]
    | some a =>
      have hne : a ≠ k := fun z => hi (hd.1 i q a k ha hq (by rw [z]))
      rw [gxw_at ha, gxw_at ha]
      have e : gxc ca ad F L a (lay a) = gxc ca ad F' L' a (lay a) := by
        unfold gxc
        rw [hF a hne, hL a hne]
      rw [e]
/-- one int of a cell is set -/
def gxu (F : Nat → Nat → Int32) (k j : Nat) (v : Int32) : Nat → Nat → Int32 := fun a b => if a = k ∧ b = j then v else F a b
def gxU (L : Nat → Nat → Int64) (k j : Nat) (v : Int64) : Nat → Nat → Int64 := fun a b => if a = k ∧ b = j then v else L a b
theorem gxu_ne {F : Nat → Nat → Int32} {k j a b : Nat} {v : Int32} (h : ¬ (a = k ∧ b = j)) : gxu F k j v a b = F a b := by simp [gxu, h]
theorem gxu_cell {F : Nat → Nat → Int32} {k j a : Nat} {v : Int32} (h : a ≠ k) : gxu F k j v a = F a := by funext b; simp [gxu, h]
theorem gxu_at {F : Nat → Nat → Int32} {k j : Nat} {v : Int32} : gxu F k j v k j = v := by simp [gxu]
theorem gxu_in {F : Nat → Nat → Int32} {k j : Nat} {v : Int32} : gxu F k j v k = upd (F k) j v := by funext b; simp [gxu, upd]
theorem gxU_ne {L : Nat → Nat → Int64} {k j a b : Nat} {v : Int64} (h : ¬ (a = k ∧ b = j)) : gxU L k j v a b = L a b := by simp [gxU, h]
theorem gxU_cell {L : Nat → Nat → Int64} {k j a : Nat} {v : Int64} (h : a ≠ k) : gxU L k j v a = L a := by funext b; simp [gxU, h]
theorem gxU_at {L : Nat → Nat → Int64} {k j : Nat} {v : Int64} : gxU L k j v k j = v := by simp [gxU]
theorem gxU_in {L : Nat → Nat → Int64} {k j : Nat} {v : Int64} : gxU L k j v k = vp_updL (L k) j v := by funext b; simp [gxU, vp_updL]
theorem gxfl_len (ad : Nat → Nat) (f : Nat → Int32) : ∀ (fs : List (Option Nat)) (i : Nat), (gxfl ad f i fs).length = fs.length
  | [], _ => rfl
  | none :: r, i => by simp [gxfl, gxfl_len ad f r]
  | some _ :: r, i => by simp [gxfl, gxfl_len ad f r]
theorem gxfl_i (ad : Nat → Nat) (f : Nat → Int32) : ∀ (fs : List (Option Nat)) (i j : Nat), fs[j]? = some none → (gxfl ad f i fs)[j]? = some (.int (f (i + j)))
  | [], _, _, h => by simp at h
  | none :: r, i, 0, _ => by simp [gxfl]
  | some _ :: r, i, 0, h => by simp at h
  | none :: r, i, j + 1, h => by
    have := gxfl_i ad f r (i + 1) j (by simpa using h)
    simp [gxfl, this, Nat.add_assoc, Nat.add_comm 1 j]
  | some _ :: r, i, j + 1, h => by
    have := gxfl_i ad f r (i + 1) j (by simpa using h)
    simp [gxfl, this, Nat.add_assoc, Nat.add_comm 1 j]
theorem gxfl_r (ad : Nat → Nat) (f : Nat → Int32) : ∀ (fs : List (Option Nat)) (i j k : Nat), fs[j]? = some (some k) → (gxfl ad f i fs)[j]? = some (.ref (ad k))
  | [], _, _, _, h => by simp at h
  | none :: r, i, 0, _, h => by simp at h
  | some a :: r, i, 0, k, h => by
    have : a = k := by simpa using h
    subst this
    simp [gxfl]
  | none :: r, i, j + 1, k, h => by
    have := gxfl_r ad f r (i + 1) j k (by simpa using h)
    simp [gxfl, this]
  | some _ :: r, i, j + 1, k, h => by
    have := gxfl_r ad f r (i + 1) j k (by simpa using h)
    simp [gxfl, this]
theorem gxfl_set (ad : Nat → Nat) (f : Nat → Int32) (v : Int32) : ∀ (fs : List (Option Nat)) (i j : Nat), fs[j]? = some none → (gxfl ad f i fs).set j (.int v) = gxfl ad (upd f (i + j) v) i fs := by
  have far : ∀ (fs : List (Option Nat)) (i n : Nat), n < i → gxfl ad (upd f n v) i fs = gxfl ad f i fs := by
    intro fs
    induction fs with
    | nil => intro i n _; rfl
    | cons q r ih =>
      intro i n h
      cases q with
      | none => simp [gxfl, ih (i + 1) n (by omega), upd, show ¬ i = n by omega]
      | some k => simp [gxfl, ih (i + 1) n (by omega)]
  intro fs
  induction fs with
  | nil => intro i j h; simp at h
  | cons q r ih =>
    intro i j h
    cases j with
    | zero =>
      cases q with
      | some k => simp at h
      | none => simp [gxfl, far r (i + 1) i (by omega), upd]
    | succ j =>
      have h' : r[j]? = some none := by simpa using h
      have e := ih (i + 1) j h'
      have e2 : i + 1 + j = i + (j + 1) := by omega
      rw [e2] at e
      cases q with
      | none => simp [gxfl, e, upd, show ¬ i = i + (j + 1) by omega]
      | some k => simp [gxfl, e]
section GXS
variable {p : Program} {l : Launch} {e : Env} {R : Room} {s : State} {m : MethodId} {args : Array Value} {below : List Frame} {meth : Method} {c : Code} {Q : State → Prop} {nL cells slots pc : Nat} {A : Nat → Prop} {D : va_G} {cl : List vw_C} {ca : Nat → ClassId} {ks : List Nat} {lay : Nat → gxE} {ad : Nat → Nat}
variable {ls : List (Nat × xV)} {st : List xV} {F : Nat → Nat → Int32} {L : Nat → Nat → Int64} {cc : ByteArray} {own : String} {Ts : List Cond}
/-- what a walk of one method stands on: the code, the words, the classes, the cells' places -/
abbrev GC (p : Program) (s : State) (m : MethodId) (args : Array Value) (meth : Method) (c : Code) (cc : ByteArray) (nL : Nat) (own : String) (Ts : List Cond) (A : Nat → Prop) (D : va_G) (cl : List vw_C) (ca : Nat → ClassId) (ks : List Nat) (ad : Nat → Nat) : Prop :=
  (p.tables.exec = Jvm.exec ∧ c.code = cc ∧ c.maxLocals = nL ∧ s.vm.findClass own = some m.cls ∧ ∀ w ∈ Ts, w.before args s = true) ∧ va_K D cl (gxT ca) s ∧ gxD A ks ad ∧ (∀ q, s.heap.size ≤ q → A q) ∧ meth.locks = false
def GX (p : Program) (l : Launch) (e : Env) (R : Room) (s : State) (m : MethodId) (args : Array Value) (below : List Frame) (meth : Method) (c : Code) (Q : State → Prop) (nL : Nat) (A : Nat → Prop) (D : va_G) (cl : List vw_C) (ca : Nat → ClassId) (ks : List Nat) (lay : Nat → gxE) (ad : Nat → Nat) (cells slots : Nat) (pc : Nat) (ls : List (Nat × xV)) (st : List xV) (F : Nat → Nat → Int32) (L : Nat → Nat → Int64) : Prop :=
  ∀ (H : Heap) (locs : List Loc) (la : Array Slot), gxhas la nL ls ad → va_P D cl (gxw ks lay ca ad F L) H → va_S A s.heap H locs → W p l e R s m args below meth c H locs cells slots Q (F0 m pc la (st.map (gxv ad)))
theorem gx_le {l' : List (Nat × xV)} (h : gxle l' ls) (k : GX p l e R s m args below meth c Q nL A D cl ca ks lay ad cells slots pc l' st F L) : GX p l e R s m args below meth c Q nL A D cl ca ks lay ad cells slots pc ls st F L := fun H locs la hl hP hS => k H locs la (hl.le h) hP hS
theorem gx_iconst (X : GC p s m args meth c cc nL own Ts A D cl ca ks ad) {n : Int} {v : Int32} (d : decode cc pc = .ok (.iconst n, 1)) (hv : Int32.ofInt n = v) (k : GX p l e R s m args below meth c Q nL A D cl ca ks lay ad cells slots (pc + 1) ls (xI v :: st) F L) : GX p l e R s m args below meth c Q nL A D cl ca ks lay ad cells slots pc ls (st) F L := fun H locs la hl hP hS => lv_iconst X.1.1 X.1.2.1 d hv (k H locs la hl hP hS)
theorem gx_bipush (X : GC p s m args meth c cc nL own Ts A D cl ca ks ad) {n : Int} {v : Int32} (d : decode cc pc = .ok (.bipush n, 2)) (hv : (Int8.ofInt n).toInt32 = v) (k : GX p l e R s m args below meth c Q nL A D cl ca ks lay ad cells slots (pc + 2) ls (xI v :: st) F L) : GX p l e R s m args below meth c Q nL A D cl ca ks lay ad cells slots pc ls (st) F L := fun H locs la hl hP hS => lv_bipush X.1.1 X.1.2.1 d hv (k H locs la hl hP hS)
theorem gx_sipush (X : GC p s m args meth c cc nL own Ts A D cl ca ks ad) {n : Int} {v : Int32} (d : decode cc pc = .ok (.sipush n, 3)) (hv : (Int16.ofInt n).toInt32 = v) (k : GX p l e R s m args below meth c Q nL A D cl ca ks lay ad cells slots (pc + 3) ls (xI v :: st) F L) : GX p l e R s m args below meth c Q nL A D cl ca ks lay ad cells slots pc ls (st) F L := fun H locs la hl hP hS => lv_sipush X.1.1 X.1.2.1 d hv (k H locs la hl hP hS)
theorem gx_lconst (X : GC p s m args meth c cc nL own Ts A D cl ca ks ad) {n : Fin 2} {v : Int64} (d : decode cc pc = .ok (.lconst n, 1)) (hv : Int64.ofNat (n : Nat) = v) (k : GX p l e R s m args below meth c Q nL A D cl ca ks lay ad cells slots (pc + 1) ls (xL v :: st) F L) : GX p l e R s m args below meth c Q nL A D cl ca ks lay ad cells slots pc ls (st) F L := fun H locs la hl hP hS => lv_lconst X.1.1 X.1.2.1 d hv (k H locs la hl hP hS)
theorem gx_iload_n (X : GC p s m args meth c cc nL own Ts A D cl ca ks ad) {z : Fin 4} {i : Nat} {x : Int32} (d : decode cc pc = .ok (.iload_n z, 1)) (hi : (z : Nat) = i) (hx : gxlk ls i = some (xI x)) (k : GX p l e R s m args below meth c Q nL A D cl ca ks lay ad cells slots (pc + 1) ls (xI x :: st) F L) : GX p l e R s m args below meth c Q nL A D cl ca ks lay ad cells slots pc ls (st) F L := fun H locs la hl hP hS => lv_iload_n X.1.1 X.1.2.1 d hi (hl.2.2 i _ hx) (k H locs la hl hP hS)
theorem gx_iload (X : GC p s m args meth c cc nL own Ts A D cl ca ks ad) {i : Nat} {x : Int32} (d : decode cc pc = .ok (.iload i, 2)) (hx : gxlk ls i = some (xI x)) (k : GX p l e R s m args below meth c Q nL A D cl ca ks lay ad cells slots (pc + 2) ls (xI x :: st) F L) : GX p l e R s m args below meth c Q nL A D cl ca ks lay ad cells slots pc ls (st) F L := fun H locs la hl hP hS => lv_iload X.1.1 X.1.2.1 d (hl.2.2 i _ hx) (k H locs la hl hP hS)
theorem gx_lload_n (X : GC p s m args meth c cc nL own Ts A D cl ca ks ad) {z : Fin 4} {i : Nat} {x : Int64} (d : decode cc pc = .ok (.lload_n z, 1)) (hi : (z : Nat) = i) (hx : gxlk ls i = some (xL x)) (k : GX p l e R s m args below meth c Q nL A D cl ca ks lay ad cells slots (pc + 1) ls (xL x :: st) F L) : GX p l e R s m args below meth c Q nL A D cl ca ks lay ad cells slots pc ls (st) F L := fun H locs la hl hP hS => lv_lload_n X.1.1 X.1.2.1 d hi (hl.2.2 i _ hx) (k H locs la hl hP hS)
theorem gx_lload (X : GC p s m args meth c cc nL own Ts A D cl ca ks ad) {i : Nat} {x : Int64} (d : decode cc pc = .ok (.lload i, 2)) (hx : gxlk ls i = some (xL x)) (k : GX p l e R s m args below meth c Q nL A D cl ca ks lay ad cells slots (pc + 2) ls (xL x :: st) F L) : GX p l e R s m args below meth c Q nL A D cl ca ks lay ad cells slots pc ls (st) F L := fun H locs la hl hP hS => lv_lload X.1.1 X.1.2.1 d (hl.2.2 i _ hx) (k H locs la hl hP hS)
theorem gx_aload_n (X : GC p s m args meth c cc nL own Ts A D cl ca ks ad) {z : Fin 4} {i : Nat} {x : Nat} (d : decode cc pc = .ok (.aload_n z, 1)) (hi : (z : Nat) = i) (hx : gxlk ls i = some (xR x)) (k : GX p l e R s m args below meth c Q nL A D cl ca ks lay ad cells slots (pc + 1) ls (xR x :: st) F L) : GX p l e R s m args below meth c Q nL A D cl ca ks lay ad cells slots pc ls (st) F L := fun H locs la hl hP hS => lv_aload_n X.1.1 X.1.2.1 d hi (hl.2.2 i _ hx) (k H locs la hl hP hS)
theorem gx_aload (X : GC p s m args meth c cc nL own Ts A D cl ca ks ad) {i : Nat} {x : Nat} (d : decode cc pc = .ok (.aload i, 2)) (hx : gxlk ls i = some (xR x)) (k : GX p l e R s m args below meth c Q nL A D cl ca ks lay ad cells slots (pc + 2) ls (xR x :: st) F L) : GX p l e R s m args below meth c Q nL A D cl ca ks lay ad cells slots pc ls (st) F L := fun H locs la hl hP hS => lv_aload X.1.1 X.1.2.1 d (hl.2.2 i _ hx) (k H locs la hl hP hS)
theorem gx_istore_n (X : GC p s m args meth c cc nL own Ts A D cl ca ks ad) {z : Fin 4} {i : Nat} {x : Int32} (d : decode cc pc = .ok (.istore_n z, 1)) (hi : (z : Nat) = i) (hn : i < nL) (k : GX p l e R s m args below meth c Q nL A D cl ca ks lay ad cells slots (pc + 1) ((i, xI x) :: ls) st F L) : GX p l e R s m args below meth c Q nL A D cl ca ks lay ad cells slots pc ls (xI x :: st) F L := fun H locs la hl hP hS => lv_istore_n X.1.1 X.1.2.1 d hi (gxl_has hl) hn rfl (fun la2 h2 => k H locs la2 (gx_st1 hl h2) hP hS)
theorem gx_istore (X : GC p s m args meth c cc nL own Ts A D cl ca ks ad) {i : Nat} {x : Int32} (d : decode cc pc = .ok (.istore i, 2)) (hn : i < nL) (k : GX p l e R s m args below meth c Q nL A D cl ca ks lay ad cells slots (pc + 2) ((i, xI x) :: ls) st F L) : GX p l e R s m args below meth c Q nL A D cl ca ks lay ad cells slots pc ls (xI x :: st) F L := fun H locs la hl hP hS => lv_istore X.1.1 X.1.2.1 d (gxl_has hl) hn rfl (fun la2 h2 => k H locs la2 (gx_st1 hl h2) hP hS)
theorem gx_lstore_n (X : GC p s m args meth c cc nL own Ts A D cl ca ks ad) {z : Fin 4} {i : Nat} {x : Int64} (d : decode cc pc = .ok (.lstore_n z, 1)) (hi : (z : Nat) = i) (hn : i + 1 < nL) (k : GX p l e R s m args below meth c Q nL A D cl ca ks lay ad cells slots (pc + 1) ((i, xL x) :: ls) st F L) : GX p l e R s m args below meth c Q nL A D cl ca ks lay ad cells slots pc ls (xL x :: st) F L := fun H locs la hl hP hS => lv_lstore_n X.1.1 X.1.2.1 d hi (gxl_has hl) hn rfl (fun la2 h2 => k H locs la2 (gx_st2 hl rfl h2) hP hS)
theorem gx_lstore (X : GC p s m args meth c cc nL own Ts A D cl ca ks ad) {i : Nat} {x : Int64} (d : decode cc pc = .ok (.lstore i, 2)) (hn : i + 1 < nL) (k : GX p l e R s m args below meth c Q nL A D cl ca ks lay ad cells slots (pc + 2) ((i, xL x) :: ls) st F L) : GX p l e R s m args below meth c Q nL A D cl ca ks lay ad cells slots pc ls (xL x :: st) F L := fun H locs la hl hP hS => lv_lstore X.1.1 X.1.2.1 d (gxl_has hl) hn rfl (fun la2 h2 => k H locs la2 (gx_st2 hl rfl h2) hP hS)
theorem gx_astore_n (X : GC p s m args meth c cc nL own Ts A D cl ca ks ad) {z : Fin 4} {i : Nat} {x : Nat} (d : decode cc pc = .ok (.astore_n z, 1)) (hi : (z : Nat) = i) (hn : i < nL) (k : GX p l e R s m args below meth c Q nL A D cl ca ks lay ad cells slots (pc + 1) ((i, xR x) :: ls) st F L) : GX p l e R s m args below meth c Q nL A D cl ca ks lay ad cells slots pc ls (xR x :: st) F L := fun H locs la hl hP hS => lv_astore_n X.1.1 X.1.2.1 d hi (gxl_has hl) hn rfl (fun la2 h2 => k H locs la2 (gx_st1 hl h2) hP hS)
theorem gx_astore (X : GC p s m args meth c cc nL own Ts A D cl ca ks ad) {i : Nat} {x : Nat} (d : decode cc pc = .ok (.astore i, 2)) (hn : i < nL) (k : GX p l e R s m args below meth c Q nL A D cl ca ks lay ad cells slots (pc + 2) ((i, xR x) :: ls) st F L) : GX p l e R s m args below meth c Q nL A D cl ca ks lay ad cells slots pc ls (xR x :: st) F L := fun H locs la hl hP hS => lv_astore X.1.1 X.1.2.1 d (gxl_has hl) hn rfl (fun la2 h2 => k H locs la2 (gx_st1 hl h2) hP hS)
theorem gx_iinc (X : GC p s m args meth c cc nL own Ts A D cl ca ks ad) {i : Nat} {n : Int} {x v : Int32} (d : decode cc pc = .ok (.iinc i n, 3)) (hx : gxlk ls i = some (xI x)) (hv : x + Int32.ofInt n = v) (k : GX p l e R s m args below meth c Q nL A D cl ca ks lay ad cells slots (pc + 3) ((i, xI v) :: ls) st F L) : GX p l e R s m args below meth c Q nL A D cl ca ks lay ad cells slots pc ls st F L := by
  intro H locs la hl hP hS
  obtain ⟨q, hq⟩ := List.getElem?_of_mem (gxl_mem hl hx)
  have hn : i < nL := by rw [← hl.1]; exact lv_lt (hl.2.2 i _ hx)
  exact lv_iinc X.1.1 X.1.2.1 d (gxl_has hl) hq hv hn rfl (fun la2 h2 => k H locs la2 (gx_st1 hl h2) hP hS)
theorem gx_iadd (X : GC p s m args meth c cc nL own Ts A D cl ca ks ad) {x y : Int32} (d : decode cc pc = .ok (.iadd, 1))  (k : GX p l e R s m args below meth c Q nL A D cl ca ks lay ad cells slots (pc + 1) ls (xI (x + y) :: st) F L) : GX p l e R s m args below meth c Q nL A D cl ca ks lay ad cells slots pc ls (xI y :: xI x :: st) F L := fun H locs la hl hP hS => lv_iadd X.1.1 X.1.2.1 d (k H locs la hl hP hS)
theorem gx_isub (X : GC p s m args meth c cc nL own Ts A D cl ca ks ad) {x y : Int32} (d : decode cc pc = .ok (.isub, 1))  (k : GX p l e R s m args below meth c Q nL A D cl ca ks lay ad cells slots (pc + 1) ls (xI (x - y) :: st) F L) : GX p l e R s m args below meth c Q nL A D cl ca ks lay ad cells slots pc ls (xI y :: xI x :: st) F L := fun H locs la hl hP hS => lv_isub X.1.1 X.1.2.1 d (k H locs la hl hP hS)
theorem gx_imul (X : GC p s m args meth c cc nL own Ts A D cl ca ks ad) {x y : Int32} (d : decode cc pc = .ok (.imul, 1))  (k : GX p l e R s m args below meth c Q nL A D cl ca ks lay ad cells slots (pc + 1) ls (xI (x * y) :: st) F L) : GX p l e R s m args below meth c Q nL A D cl ca ks lay ad cells slots pc ls (xI y :: xI x :: st) F L := fun H locs la hl hP hS => lv_imul X.1.1 X.1.2.1 d (k H locs la hl hP hS)
theorem gx_iand (X : GC p s m args meth c cc nL own Ts A D cl ca ks ad) {x y : Int32} (d : decode cc pc = .ok (.iand, 1))  (k : GX p l e R s m args below meth c Q nL A D cl ca ks lay ad cells slots (pc + 1) ls (xI (x &&& y) :: st) F L) : GX p l e R s m args below meth c Q nL A D cl ca ks lay ad cells slots pc ls (xI y :: xI x :: st) F L := fun H locs la hl hP hS => lv_iand X.1.1 X.1.2.1 d (k H locs la hl hP hS)
theorem gx_ior (X : GC p s m args meth c cc nL own Ts A D cl ca ks ad) {x y : Int32} (d : decode cc pc = .ok (.ior, 1))  (k : GX p l e R s m args below meth c Q nL A D cl ca ks lay ad cells slots (pc + 1) ls (xI (x ||| y) :: st) F L) : GX p l e R s m args below meth c Q nL A D cl ca ks lay ad cells slots pc ls (xI y :: xI x :: st) F L := fun H locs la hl hP hS => lv_ior X.1.1 X.1.2.1 d (k H locs la hl hP hS)
theorem gx_ixor (X : GC p s m args meth c cc nL own Ts A D cl ca ks ad) {x y : Int32} (d : decode cc pc = .ok (.ixor, 1))  (k : GX p l e R s m args below meth c Q nL A D cl ca ks lay ad cells slots (pc + 1) ls (xI (x ^^^ y) :: st) F L) : GX p l e R s m args below meth c Q nL A D cl ca ks lay ad cells slots pc ls (xI y :: xI x :: st) F L := fun H locs la hl hP hS => lv_ixor X.1.1 X.1.2.1 d (k H locs la hl hP hS)
theorem gx_ishl (X : GC p s m args meth c cc nL own Ts A D cl ca ks ad) {x y : Int32} (d : decode cc pc = .ok (.ishl, 1))  (k : GX p l e R s m args below meth c Q nL A D cl ca ks lay ad cells slots (pc + 1) ls (xI (x <<< (y &&& 31)) :: st) F L) : GX p l e R s m args below meth c Q nL A D cl ca ks lay ad cells slots pc ls (xI y :: xI x :: st) F L := fun H locs la hl hP hS => lv_ishl X.1.1 X.1.2.1 d (k H locs la hl hP hS)
theorem gx_ishr (X : GC p s m args meth c cc nL own Ts A D cl ca ks ad) {x y : Int32} (d : decode cc pc = .ok (.ishr, 1))  (k : GX p l e R s m args below meth c Q nL A D cl ca ks lay ad cells slots (pc + 1) ls (xI (x >>> (y &&& 31)) :: st) F L) : GX p l e R s m args below meth c Q nL A D cl ca ks lay ad cells slots pc ls (xI y :: xI x :: st) F L := fun H locs la hl hP hS => lv_ishr X.1.1 X.1.2.1 d (k H locs la hl hP hS)
theorem gx_idiv (X : GC p s m args meth c cc nL own Ts A D cl ca ks ad) {x y : Int32} (d : decode cc pc = .ok (.idiv, 1)) (hne : ¬ y = 0) (k : GX p l e R s m args below meth c Q nL A D cl ca ks lay ad cells slots (pc + 1) ls (xI (x / y) :: st) F L) : GX p l e R s m args below meth c Q nL A D cl ca ks lay ad cells slots pc ls (xI y :: xI x :: st) F L := fun H locs la hl hP hS => lv_idiv X.1.1 X.1.2.1 d hne (k H locs la hl hP hS)
theorem gx_irem (X : GC p s m args meth c cc nL own Ts A D cl ca ks ad) {x y : Int32} (d : decode cc pc = .ok (.irem, 1)) (hne : ¬ y = 0) (k : GX p l e R s m args below meth c Q nL A D cl ca ks lay ad cells slots (pc + 1) ls (xI (x - x / y * y) :: st) F L) : GX p l e R s m args below meth c Q nL A D cl ca ks lay ad cells slots pc ls (xI y :: xI x :: st) F L := fun H locs la hl hP hS => lv_irem X.1.1 X.1.2.1 d hne (k H locs la hl hP hS)
theorem gx_ineg (X : GC p s m args meth c cc nL own Ts A D cl ca ks ad) {x : Int32} (d : decode cc pc = .ok (.ineg, 1))  (k : GX p l e R s m args below meth c Q nL A D cl ca ks lay ad cells slots (pc + 1) ls (xI (-x) :: st) F L) : GX p l e R s m args below meth c Q nL A D cl ca ks lay ad cells slots pc ls (xI x :: st) F L := fun H locs la hl hP hS => lv_ineg X.1.1 X.1.2.1 d (k H locs la hl hP hS)
theorem gx_ladd (X : GC p s m args meth c cc nL own Ts A D cl ca ks ad) {x y : Int64} (d : decode cc pc = .ok (.ladd, 1))  (k : GX p l e R s m args below meth c Q nL A D cl ca ks lay ad cells slots (pc + 1) ls (xL (x + y) :: st) F L) : GX p l e R s m args below meth c Q nL A D cl ca ks lay ad cells slots pc ls (xL y :: xL x :: st) F L := fun H locs la hl hP hS => lv_ladd X.1.1 X.1.2.1 d (k H locs la hl hP hS)
theorem gx_lsub (X : GC p s m args meth c cc nL own Ts A D cl ca ks ad) {x y : Int64} (d : decode cc pc = .ok (.lsub, 1))  (k : GX p l e R s m args below meth c Q nL A D cl ca ks lay ad cells slots (pc + 1) ls (xL (x - y) :: st) F L) : GX p l e R s m args below meth c Q nL A D cl ca ks lay ad cells slots pc ls (xL y :: xL x :: st) F L := fun H locs la hl hP hS => lv_lsub X.1.1 X.1.2.1 d (k H locs la hl hP hS)
theorem gx_land (X : GC p s m args meth c cc nL own Ts A D cl ca ks ad) {x y : Int64} (d : decode cc pc = .ok (.land, 1))  (k : GX p l e R s m args below meth c Q nL A D cl ca ks lay ad cells slots (pc + 1) ls (xL (x &&& y) :: st) F L) : GX p l e R s m args below meth c Q nL A D cl ca ks lay ad cells slots pc ls (xL y :: xL x :: st) F L := fun H locs la hl hP hS => lv_land X.1.1 X.1.2.1 d (k H locs la hl hP hS)
theorem gx_lor (X : GC p s m args meth c cc nL own Ts A D cl ca ks ad) {x y : Int64} (d : decode cc pc = .ok (.lor, 1))  (k : GX p l e R s m args below meth c Q nL A D cl ca ks lay ad cells slots (pc + 1) ls (xL (x ||| y) :: st) F L) : GX p l e R s m args below meth c Q nL A D cl ca ks lay ad cells slots pc ls (xL y :: xL x :: st) F L := fun H locs la hl hP hS => lv_lor X.1.1 X.1.2.1 d (k H locs la hl hP hS)
theorem gx_lxor (X : GC p s m args meth c cc nL own Ts A D cl ca ks ad) {x y : Int64} (d : decode cc pc = .ok (.lxor, 1))  (k : GX p l e R s m args below meth c Q nL A D cl ca ks lay ad cells slots (pc + 1) ls (xL (x ^^^ y) :: st) F L) : GX p l e R s m args below meth c Q nL A D cl ca ks lay ad cells slots pc ls (xL y :: xL x :: st) F L := fun H locs la hl hP hS => lv_lxor X.1.1 X.1.2.1 d (k H locs la hl hP hS)
theorem gx_i2l (X : GC p s m args meth c cc nL own Ts A D cl ca ks ad) {x : Int32} {v : Int64} (d : decode cc pc = .ok (.i2l, 1)) (hv : x.toInt64 = v) (k : GX p l e R s m args below meth c Q nL A D cl ca ks lay ad cells slots (pc + 1) ls (xL v :: st) F L) : GX p l e R s m args below meth c Q nL A D cl ca ks lay ad cells slots pc ls (xI x :: st) F L := fun H locs la hl hP hS => lv_i2l X.1.1 X.1.2.1 d hv (k H locs la hl hP hS)
theorem gx_l2i (X : GC p s m args meth c cc nL own Ts A D cl ca ks ad) {x : Int64} {v : Int32} (d : decode cc pc = .ok (.l2i, 1)) (hv : x.toInt32 = v) (k : GX p l e R s m args below meth c Q nL A D cl ca ks lay ad cells slots (pc + 1) ls (xI v :: st) F L) : GX p l e R s m args below meth c Q nL A D cl ca ks lay ad cells slots pc ls (xL x :: st) F L := fun H locs la hl hP hS => lv_l2i X.1.1 X.1.2.1 d hv (k H locs la hl hP hS)
theorem gx_i2b (X : GC p s m args meth c cc nL own Ts A D cl ca ks ad) {x v : Int32} (d : decode cc pc = .ok (.i2b, 1)) (hv : x.toInt8.toInt32 = v) (k : GX p l e R s m args below meth c Q nL A D cl ca ks lay ad cells slots (pc + 1) ls (xI v :: st) F L) : GX p l e R s m args below meth c Q nL A D cl ca ks lay ad cells slots pc ls (xI x :: st) F L := fun H locs la hl hP hS => lv_i2b X.1.1 X.1.2.1 d hv (k H locs la hl hP hS)
theorem gx_i2s (X : GC p s m args meth c cc nL own Ts A D cl ca ks ad) {x v : Int32} (d : decode cc pc = .ok (.i2s, 1)) (hv : x.toInt16.toInt32 = v) (k : GX p l e R s m args below meth c Q nL A D cl ca ks lay ad cells slots (pc + 1) ls (xI v :: st) F L) : GX p l e R s m args below meth c Q nL A D cl ca ks lay ad cells slots pc ls (xI x :: st) F L := fun H locs la hl hP hS => lv_i2s X.1.1 X.1.2.1 d hv (k H locs la hl hP hS)
theorem gx_i2c (X : GC p s m args meth c cc nL own Ts A D cl ca ks ad) {x v : Int32} (d : decode cc pc = .ok (.i2c, 1)) (hv : (x.toUInt32 % 65536).toInt32 = v) (k : GX p l e R s m args below meth c Q nL A D cl ca ks lay ad cells slots (pc + 1) ls (xI v :: st) F L) : GX p l e R s m args below meth c Q nL A D cl ca ks lay ad cells slots pc ls (xI x :: st) F L := fun H locs la hl hP hS => lv_i2c X.1.1 X.1.2.1 d hv (k H locs la hl hP hS)
theorem gx_iushr (X : GC p s m args meth c cc nL own Ts A D cl ca ks ad) {x y v : Int32} (d : decode cc pc = .ok (.iushr, 1)) (hv : (x.toUInt32 >>> (y.toUInt32 &&& Int32.toUInt32 31)).toInt32 = v) (k : GX p l e R s m args below meth c Q nL A D cl ca ks lay ad cells slots (pc + 1) ls (xI v :: st) F L) : GX p l e R s m args below meth c Q nL A D cl ca ks lay ad cells slots pc ls (xI y :: xI x :: st) F L := fun H locs la hl hP hS => lv_iushr X.1.1 X.1.2.1 d hv (k H locs la hl hP hS)
theorem gx_lushr (X : GC p s m args meth c cc nL own Ts A D cl ca ks ad) {x v : Int64} {y : Int32} (d : decode cc pc = .ok (.lushr, 1)) (hv : (x.toUInt64 >>> (y.toInt64.toUInt64 &&& Int64.toUInt64 63)).toInt64 = v) (k : GX p l e R s m args below meth c Q nL A D cl ca ks lay ad cells slots (pc + 1) ls (xL v :: st) F L) : GX p l e R s m args below meth c Q nL A D cl ca ks lay ad cells slots pc ls (xI y :: xL x :: st) F L := fun H locs la hl hP hS => lv_lushr X.1.1 X.1.2.1 d hv (k H locs la hl hP hS)
theorem gx_lshl (X : GC p s m args meth c cc nL own Ts A D cl ca ks ad) {x v : Int64} {y : Int32} (d : decode cc pc = .ok (.lshl, 1)) (hv : x <<< (y.toInt64 &&& 63) = v) (k : GX p l e R s m args below meth c Q nL A D cl ca ks lay ad cells slots (pc + 1) ls (xL v :: st) F L) : GX p l e R s m args below meth c Q nL A D cl ca ks lay ad cells slots pc ls (xI y :: xL x :: st) F L := fun H locs la hl hP hS => lv_lshl X.1.1 X.1.2.1 d hv (k H locs la hl hP hS)
theorem gx_lshr (X : GC p s m args meth c cc nL own Ts A D cl ca ks ad) {x v : Int64} {y : Int32} (d : decode cc pc = .ok (.lshr, 1)) (hv : x >>> (y.toInt64 &&& 63) = v) (k : GX p l e R s m args below meth c Q nL A D cl ca ks lay ad cells slots (pc + 1) ls (xL v :: st) F L) : GX p l e R s m args below meth c Q nL A D cl ca ks lay ad cells slots pc ls (xI y :: xL x :: st) F L := fun H locs la hl hP hS => lv_lshr X.1.1 X.1.2.1 d hv (k H locs la hl hP hS)
theorem gx_lcmp (X : GC p s m args meth c cc nL own Ts A D cl ca ks ad) {x y : Int64} (d : decode cc pc = .ok (.lcmp, 1))  (k : GX p l e R s m args below meth c Q nL A D cl ca ks lay ad cells slots (pc + 1) ls (xI (lg_cmp x y) :: st) F L) : GX p l e R s m args below meth c Q nL A D cl ca ks lay ad cells slots pc ls (xL y :: xL x :: st) F L := fun H locs la hl hP hS => W.lcmp X.1.1 X.1.2.1 d (k H locs la hl hP hS)
theorem gx_dup (X : GC p s m args meth c cc nL own Ts A D cl ca ks ad) {a : xV} (d : decode cc pc = .ok (.dup, 1)) (ha : gxis a = false) (k : GX p l e R s m args below meth c Q nL A D cl ca ks lay ad cells slots (pc + 1) ls (a :: a :: st) F L) : GX p l e R s m args below meth c Q nL A D cl ca ks lay ad cells slots pc ls (a :: st) F L := fun H locs la hl hP hS => lv_dup X.1.1 X.1.2.1 d (by rw [gxv_cat, ha]; rfl) (k H locs la hl hP hS)
theorem gx_pop (X : GC p s m args meth c cc nL own Ts A D cl ca ks ad) {a : xV} (d : decode cc pc = .ok (.pop, 1)) (ha : gxis a = false) (k : GX p l e R s m args below meth c Q nL A D cl ca ks lay ad cells slots (pc + 1) ls (st) F L) : GX p l e R s m args below meth c Q nL A D cl ca ks lay ad cells slots pc ls (a :: st) F L := fun H locs la hl hP hS => lv_pop X.1.1 X.1.2.1 d (by rw [gxv_cat, ha]; rfl) (k H locs la hl hP hS)
theorem gx_dup_x1 (X : GC p s m args meth c cc nL own Ts A D cl ca ks ad) {a b : xV} (d : decode cc pc = .ok (.dup_x1, 1)) (ha : gxis a = false) (hb : gxis b = false) (k : GX p l e R s m args below meth c Q nL A D cl ca ks lay ad cells slots (pc + 1) ls (a :: b :: a :: st) F L) : GX p l e R s m args below meth c Q nL A D cl ca ks lay ad cells slots pc ls (a :: b :: st) F L := fun H locs la hl hP hS => lv_dup_x1 X.1.1 X.1.2.1 d (by rw [gxv_cat, ha]; rfl) (by rw [gxv_cat, hb]; rfl) (k H locs la hl hP hS)
theorem gx_dup_x2 (X : GC p s m args meth c cc nL own Ts A D cl ca ks ad) {a b z : xV} (d : decode cc pc = .ok (.dup_x2, 1)) (ha : gxis a = false) (hb : gxis b = false) (hz : gxis z = false) (k : GX p l e R s m args below meth c Q nL A D cl ca ks lay ad cells slots (pc + 1) ls (a :: b :: z :: a :: st) F L) : GX p l e R s m args below meth c Q nL A D cl ca ks lay ad cells slots pc ls (a :: b :: z :: st) F L := fun H locs la hl hP hS => lv_dup_x2 X.1.1 X.1.2.1 d (by rw [gxv_cat, ha]; rfl) (by rw [gxv_cat, hb]; rfl) (by rw [gxv_cat, hz]; rfl) (k H locs la hl hP hS)
theorem gx_dup2_11 (X : GC p s m args meth c cc nL own Ts A D cl ca ks ad) {a b : xV} (d : decode cc pc = .ok (.dup2, 1)) (ha : gxis a = false) (hb : gxis b = false) (k : GX p l e R s m args below meth c Q nL A D cl ca ks lay ad cells slots (pc + 1) ls (a :: b :: a :: b :: st) F L) : GX p l e R s m args below meth c Q nL A D cl ca ks lay ad cells slots pc ls (a :: b :: st) F L := fun H locs la hl hP hS => lv_dup2_11 X.1.1 X.1.2.1 d (by rw [gxv_cat, ha]; rfl) (by rw [gxv_cat, hb]; rfl) (k H locs la hl hP hS)
theorem gx_dup2_2 (X : GC p s m args meth c cc nL own Ts A D cl ca ks ad) {a : xV} (d : decode cc pc = .ok (.dup2, 1)) (ha : gxis a = true) (k : GX p l e R s m args below meth c Q nL A D cl ca ks lay ad cells slots (pc + 1) ls (a :: a :: st) F L) : GX p l e R s m args below meth c Q nL A D cl ca ks lay ad cells slots pc ls (a :: st) F L := fun H locs la hl hP hS => lv_dup2_2 X.1.1 X.1.2.1 d (by rw [gxv_cat, ha]; rfl) (k H locs la hl hP hS)
theorem gx_if_eq (X : GC p s m args meth c cc nL own Ts A D cl ca ks ad) {x : Int32} {off : Int} {tgt : Nat} (d : decode cc pc = .ok (.ifCond .eq off, 3)) (ht : (pc : Int) + off = (tgt : Int)) (kt : x = 0 → GX p l e R s m args below meth c Q nL A D cl ca ks lay ad cells slots tgt ls st F L) (kf : ¬ x = 0 → GX p l e R s m args below meth c Q nL A D cl ca ks lay ad cells slots (pc + 3) ls st F L) : GX p l e R s m args below meth c Q nL A D cl ca ks lay ad cells slots pc ls (xI x :: st) F L := fun H locs la hl hP hS => lv_if_eq X.1.1 X.1.2.1 d ht (fun h => kt h H locs la hl hP hS) (fun h => kf h H locs la hl hP hS)
theorem gx_icmp_eq (X : GC p s m args meth c cc nL own Ts A D cl ca ks ad) {x y : Int32} {off : Int} {tgt : Nat} (d : decode cc pc = .ok (.if_icmp .eq off, 3)) (ht : (pc : Int) + off = (tgt : Int)) (kt : x = y → GX p l e R s m args below meth c Q nL A D cl ca ks lay ad cells slots tgt ls st F L) (kf : ¬ x = y → GX p l e R s m args below meth c Q nL A D cl ca ks lay ad cells slots (pc + 3) ls st F L) : GX p l e R s m args below meth c Q nL A D cl ca ks lay ad cells slots pc ls (xI y :: xI x :: st) F L := fun H locs la hl hP hS => lv_icmp_eq X.1.1 X.1.2.1 d ht (fun h => kt h H locs la hl hP hS) (fun h => kf h H locs la hl hP hS)
theorem gx_if_lt (X : GC p s m args meth c cc nL own Ts A D cl ca ks ad) {x : Int32} {off : Int} {tgt : Nat} (d : decode cc pc = .ok (.ifCond .lt off, 3)) (ht : (pc : Int) + off = (tgt : Int)) (kt : x < 0 → GX p l e R s m args below meth c Q nL A D cl ca ks lay ad cells slots tgt ls st F L) (kf : ¬ x < 0 → GX p l e R s m args below meth c Q nL A D cl ca ks lay ad cells slots (pc + 3) ls st F L) : GX p l e R s m args below meth c Q nL A D cl ca ks lay ad cells slots pc ls (xI x :: st) F L := fun H locs la hl hP hS => lv_if_lt X.1.1 X.1.2.1 d ht (fun h => kt h H locs la hl hP hS) (fun h => kf h H locs la hl hP hS)
theorem gx_icmp_lt (X : GC p s m args meth c cc nL own Ts A D cl ca ks ad) {x y : Int32} {off : Int} {tgt : Nat} (d : decode cc pc = .ok (.if_icmp .lt off, 3)) (ht : (pc : Int) + off = (tgt : Int)) (kt : x < y → GX p l e R s m args below meth c Q nL A D cl ca ks lay ad cells slots tgt ls st F L) (kf : ¬ x < y → GX p l e R s m args below meth c Q nL A D cl ca ks lay ad cells slots (pc + 3) ls st F L) : GX p l e R s m args below meth c Q nL A D cl ca ks lay ad cells slots pc ls (xI y :: xI x :: st) F L := fun H locs la hl hP hS => lv_icmp_lt X.1.1 X.1.2.1 d ht (fun h => kt h H locs la hl hP hS) (fun h => kf h H locs la hl hP hS)
theorem gx_if_ge (X : GC p s m args meth c cc nL own Ts A D cl ca ks ad) {x : Int32} {off : Int} {tgt : Nat} (d : decode cc pc = .ok (.ifCond .ge off, 3)) (ht : (pc : Int) + off = (tgt : Int)) (kt : 0 ≤ x → GX p l e R s m args below meth c Q nL A D cl ca ks lay ad cells slots tgt ls st F L) (kf : ¬ 0 ≤ x → GX p l e R s m args below meth c Q nL A D cl ca ks lay ad cells slots (pc + 3) ls st F L) : GX p l e R s m args below meth c Q nL A D cl ca ks lay ad cells slots pc ls (xI x :: st) F L := fun H locs la hl hP hS => lv_if_ge X.1.1 X.1.2.1 d ht (fun h => kt h H locs la hl hP hS) (fun h => kf h H locs la hl hP hS)
theorem gx_icmp_ge (X : GC p s m args meth c cc nL own Ts A D cl ca ks ad) {x y : Int32} {off : Int} {tgt : Nat} (d : decode cc pc = .ok (.if_icmp .ge off, 3)) (ht : (pc : Int) + off = (tgt : Int)) (kt : y ≤ x → GX p l e R s m args below meth c Q nL A D cl ca ks lay ad cells slots tgt ls st F L) (kf : ¬ y ≤ x → GX p l e R s m args below meth c Q nL A D cl ca ks lay ad cells slots (pc + 3) ls st F L) : GX p l e R s m args below meth c Q nL A D cl ca ks lay ad cells slots pc ls (xI y :: xI x :: st) F L := fun H locs la hl hP hS => lv_icmp_ge X.1.1 X.1.2.1 d ht (fun h => kt h H locs la hl hP hS) (fun h => kf h H locs la hl hP hS)
theorem gx_if_gt (X : GC p s m args meth c cc nL own Ts A D cl ca ks ad) {x : Int32} {off : Int} {tgt : Nat} (d : decode cc pc = .ok (.ifCond .gt off, 3)) (ht : (pc : Int) + off = (tgt : Int)) (kt : 0 < x → GX p l e R s m args below meth c Q nL A D cl ca ks lay ad cells slots tgt ls st F L) (kf : ¬ 0 < x → GX p l e R s m args below meth c Q nL A D cl ca ks lay ad cells slots (pc + 3) ls st F L) : GX p l e R s m args below meth c Q nL A D cl ca ks lay ad cells slots pc ls (xI x :: st) F L := fun H locs la hl hP hS => lv_if_gt X.1.1 X.1.2.1 d ht (fun h => kt h H locs la hl hP hS) (fun h => kf h H locs la hl hP hS)
theorem gx_icmp_gt (X : GC p s m args meth c cc nL own Ts A D cl ca ks ad) {x y : Int32} {off : Int} {tgt : Nat} (d : decode cc pc = .ok (.if_icmp .gt off, 3)) (ht : (pc : Int) + off = (tgt : Int)) (kt : y < x → GX p l e R s m args below meth c Q nL A D cl ca ks lay ad cells slots tgt ls st F L) (kf : ¬ y < x → GX p l e R s m args below meth c Q nL A D cl ca ks lay ad cells slots (pc + 3) ls st F L) : GX p l e R s m args below meth c Q nL A D cl ca ks lay ad cells slots pc ls (xI y :: xI x :: st) F L := fun H locs la hl hP hS => lv_icmp_gt X.1.1 X.1.2.1 d ht (fun h => kt h H locs la hl hP hS) (fun h => kf h H locs la hl hP hS)
theorem gx_if_le (X : GC p s m args meth c cc nL own Ts A D cl ca ks ad) {x : Int32} {off : Int} {tgt : Nat} (d : decode cc pc = .ok (.ifCond .le off, 3)) (ht : (pc : Int) + off = (tgt : Int)) (kt : x ≤ 0 → GX p l e R s m args below meth c Q nL A D cl ca ks lay ad cells slots tgt ls st F L) (kf : ¬ x ≤ 0 → GX p l e R s m args below meth c Q nL A D cl ca ks lay ad cells slots (pc + 3) ls st F L) : GX p l e R s m args below meth c Q nL A D cl ca ks lay ad cells slots pc ls (xI x :: st) F L := fun H locs la hl hP hS => lv_if_le X.1.1 X.1.2.1 d ht (fun h => kt h H locs la hl hP hS) (fun h => kf h H locs la hl hP hS)
theorem gx_icmp_le (X : GC p s m args meth c cc nL own Ts A D cl ca ks ad) {x y : Int32} {off : Int} {tgt : Nat} (d : decode cc pc = .ok (.if_icmp .le off, 3)) (ht : (pc : Int) + off = (tgt : Int)) (kt : x ≤ y → GX p l e R s m args below meth c Q nL A D cl ca ks lay ad cells slots tgt ls st F L) (kf : ¬ x ≤ y → GX p l e R s m args below meth c Q nL A D cl ca ks lay ad cells slots (pc + 3) ls st F L) : GX p l e R s m args below meth c Q nL A D cl ca ks lay ad cells slots pc ls (xI y :: xI x :: st) F L := fun H locs la hl hP hS => lv_icmp_le X.1.1 X.1.2.1 d ht (fun h => kt h H locs la hl hP hS) (fun h => kf h H locs la hl hP hS)
theorem gx_if_ne (X : GC p s m args meth c cc nL own Ts A D cl ca ks ad) {x : Int32} {off : Int} {tgt : Nat} (d : decode cc pc = .ok (.ifCond .ne off, 3)) (ht : (pc : Int) + off = (tgt : Int)) (kt : ¬ x = 0 → GX p l e R s m args below meth c Q nL A D cl ca ks lay ad cells slots tgt ls st F L) (kf : x = 0 → GX p l e R s m args below meth c Q nL A D cl ca ks lay ad cells slots (pc + 3) ls st F L) : GX p l e R s m args below meth c Q nL A D cl ca ks lay ad cells slots pc ls (xI x :: st) F L := fun H locs la hl hP hS => lv_if_ne X.1.1 X.1.2.1 d ht (fun h => kt h H locs la hl hP hS) (fun h => kf h H locs la hl hP hS)
theorem gx_icmp_ne (X : GC p s m args meth c cc nL own Ts A D cl ca ks ad) {x y : Int32} {off : Int} {tgt : Nat} (d : decode cc pc = .ok (.if_icmp .ne off, 3)) (ht : (pc : Int) + off = (tgt : Int)) (kt : ¬ x = y → GX p l e R s m args below meth c Q nL A D cl ca ks lay ad cells slots tgt ls st F L) (kf : x = y → GX p l e R s m args below meth c Q nL A D cl ca ks lay ad cells slots (pc + 3) ls st F L) : GX p l e R s m args below meth c Q nL A D cl ca ks lay ad cells slots pc ls (xI y :: xI x :: st) F L := fun H locs la hl hP hS => lv_icmp_ne X.1.1 X.1.2.1 d ht (fun h => kt h H locs la hl hP hS) (fun h => kf h H locs la hl hP hS)
theorem gx_goto (X : GC p s m args meth c cc nL own Ts A D cl ca ks ad) {off : Int} {tgt : Nat} (d : decode cc pc = .ok (.goto off, 3)) (ht : (pc : Int) + off = (tgt : Int)) (k : GX p l e R s m args below meth c Q nL A D cl ca ks lay ad cells slots tgt ls st F L) : GX p l e R s m args below meth c Q nL A D cl ca ks lay ad cells slots pc ls st F L := fun H locs la hl hP hS => lv_goto X.1.1 X.1.2.1 d ht (k H locs la hl hP hS)
theorem gx_lookup (X : GC p s m args meth c cc nL own Ts A D cl ca ks ad) {dflt : Int} {ps : Array (Int × Int)} {len : Nat} {x : Int32} {off : Int} {tgt : Nat} (d : decode cc pc = .ok (.lookupswitch dflt ps, len)) (hp : (ps.toList.zip (ps.toList.drop 1)).all (fun (a, next) => a.1 < next.1) = true) (ho : Op.lookupswitch.offset ps.toList dflt x.toInt = off) (ht : (pc : Int) + off = (tgt : Int)) (k : GX p l e R s m args below meth c Q nL A D cl ca ks lay ad cells slots tgt ls st F L) : GX p l e R s m args below meth c Q nL A D cl ca ks lay ad cells slots pc ls (xI x :: st) F L := fun H locs la hl hP hS => lv_lookup X.1.1 X.1.2.1 d hp ho ht (k H locs la hl hP hS)
theorem gx_tableOut (X : GC p s m args meth c cc nL own Ts A D cl ca ks ad) {dflt lo hi : Int} {offs : Array Int} {len : Nat} {x : Int32} {tgt : Nat} (d : decode cc pc = .ok (.tableswitch dflt lo hi offs, len)) (h : x.toInt < lo ∨ hi < x.toInt) (ht : (pc : Int) + dflt = (tgt : Int)) (k : GX p l e R s m args below meth c Q nL A D cl ca ks lay ad cells slots tgt ls st F L) : GX p l e R s m args below meth c Q nL A D cl ca ks lay ad cells slots pc ls (xI x :: st) F L := fun H locs la hl hP hS => lv_tableOut X.1.1 X.1.2.1 d h ht (k H locs la hl hP hS)
theorem gx_tableIn (X : GC p s m args meth c cc nL own Ts A D cl ca ks ad) {dflt lo hi : Int} {offs : Array Int} {len : Nat} {x : Int32} {off : Int} {tgt : Nat} (d : decode cc pc = .ok (.tableswitch dflt lo hi offs, len)) (h1 : ¬ x.toInt < lo) (h2 : ¬ hi < x.toInt) (ho : offs[(x.toInt - lo).toNat]? = some off) (ht : (pc : Int) + off = (tgt : Int)) (k : GX p l e R s m args below meth c Q nL A D cl ca ks lay ad cells slots tgt ls st F L) : GX p l e R s m args below meth c Q nL A D cl ca ks lay ad cells slots pc ls (xI x :: st) F L := fun H locs la hl hP hS => lv_tableIn X.1.1 X.1.2.1 d h1 h2 ho ht (k H locs la hl hP hS)
theorem gx_top {x y : Int32} (h : x = y) (k : GX p l e R s m args below meth c Q nL A D cl ca ks lay ad cells slots pc ls (xI y :: st) F L) : GX p l e R s m args below meth c Q nL A D cl ca ks lay ad cells slots pc ls (xI x :: st) F L := by rw [h]; exact k
theorem gx_topl {x y : Int64} (h : x = y) (k : GX p l e R s m args below meth c Q nL A D cl ca ks lay ad cells slots pc ls (xL y :: st) F L) : GX p l e R s m args below meth c Q nL A D cl ca ks lay ad cells slots pc ls (xL x :: st) F L := by rw [h]; exact k
theorem gx_F {F2 : Nat → Nat → Int32} (h : F = F2) (k : GX p l e R s m args below meth c Q nL A D cl ca ks lay ad cells slots pc ls st F2 L) : GX p l e R s m args below meth c Q nL A D cl ca ks lay ad cells slots pc ls st F L := by rw [h]; exact k
theorem gx_iald (X : GC p s m args meth c cc nL own Ts A D cl ca ks ad) {k n j : Nat} {i : Int32} (d : decode cc pc = .ok (.iaload, 1)) (hk : k ∈ ks) (hlay : lay k = Sum.inr (Sum.inl (0, n))) (hi : i = nI j) (hj : j < n) (hn : n < 2 ^ 31) (kk : GX p l e R s m args below meth c Q nL A D cl ca ks lay ad cells slots (pc + 1) ls (xI (F k j) :: st) F L) : GX p l e R s m args below meth c Q nL A D cl ca ks lay ad cells slots pc ls (xI i :: xR k :: st) F L := by
  subst hi
  intro H locs la hl hP hS
  obtain ⟨q, hq⟩ := List.getElem?_of_mem hk
  have ha := gxw_at (lay := lay) (ca := ca) (ad := ad) (F := F) (L := L) hq
  rw [hlay] at ha
  have ha : (gxw ks lay ca ad F L)[q]? = some (ad k, .inl (ca 0, n, .inl (F k))) := ha
  refine va_iald X.1.1 X.1.2.1 X.2.1 hP q 0 ha rfl (vp_in_nI hj hn) d ?_
  rw [nI_clamp (Nat.lt_trans hj hn)]
  exact kk H locs la hl hP hS
theorem gx_cald (X : GC p s m args meth c cc nL own Ts A D cl ca ks ad) {k n j : Nat} {i : Int32} (d : decode cc pc = .ok (.caload, 1)) (hk : k ∈ ks) (hlay : lay k = Sum.inr (Sum.inl (2, n))) (hi : i = nI j) (hj : j < n) (hn : n < 2 ^ 31) (kk : GX p l e R s m args below meth c Q nL A D cl ca ks lay ad cells slots (pc + 1) ls (xI (F k j) :: st) F L) : GX p l e R s m args below meth c Q nL A D cl ca ks lay ad cells slots pc ls (xI i :: xR k :: st) F L := by
  subst hi
  intro H locs la hl hP hS
  obtain ⟨q, hq⟩ := List.getElem?_of_mem hk
  have ha := gxw_at (lay := lay) (ca := ca) (ad := ad) (F := F) (L := L) hq
  rw [hlay] at ha
  have ha : (gxw ks lay ca ad F L)[q]? = some (ad k, .inl (ca 2, n, .inl (F k))) := ha
  refine va_cald X.1.1 X.1.2.1 X.2.1 hP q 2 ha rfl (vp_in_nI hj hn) d ?_
  rw [nI_clamp (Nat.lt_trans hj hn)]
  exact kk H locs la hl hP hS
theorem gx_bald (X : GC p s m args meth c cc nL own Ts A D cl ca ks ad) {k n j : Nat} {i : Int32} (d : decode cc pc = .ok (.baload, 1)) (hk : k ∈ ks) (hlay : lay k = Sum.inr (Sum.inl (3, n))) (hi : i = nI j) (hj : j < n) (hn : n < 2 ^ 31) (kk : GX p l e R s m args below meth c Q nL A D cl ca ks lay ad cells slots (pc + 1) ls (xI (F k j) :: st) F L) : GX p l e R s m args below meth c Q nL A D cl ca ks lay ad cells slots pc ls (xI i :: xR k :: st) F L := by
  subst hi
  intro H locs la hl hP hS
  obtain ⟨q, hq⟩ := List.getElem?_of_mem hk
  have ha := gxw_at (lay := lay) (ca := ca) (ad := ad) (F := F) (L := L) hq
  rw [hlay] at ha
  have ha : (gxw ks lay ca ad F L)[q]? = some (ad k, .inl (ca 3, n, .inl (F k))) := ha
  refine va_bald X.1.1 X.1.2.1 X.2.1 hP q 3 ha rfl (vp_in_nI hj hn) d ?_
  rw [nI_clamp (Nat.lt_trans hj hn)]
  exact kk H locs la hl hP hS
theorem gx_zald (X : GC p s m args meth c cc nL own Ts A D cl ca ks ad) {k n j : Nat} {i : Int32} (d : decode cc pc = .ok (.baload, 1)) (hk : k ∈ ks) (hlay : lay k = Sum.inr (Sum.inl (4, n))) (hi : i = nI j) (hj : j < n) (hn : n < 2 ^ 31) (kk : GX p l e R s m args below meth c Q nL A D cl ca ks lay ad cells slots (pc + 1) ls (xI (F k j) :: st) F L) : GX p l e R s m args below meth c Q nL A D cl ca ks lay ad cells slots pc ls (xI i :: xR k :: st) F L := by
  subst hi
  intro H locs la hl hP hS
  obtain ⟨q, hq⟩ := List.getElem?_of_mem hk
  have ha := gxw_at (lay := lay) (ca := ca) (ad := ad) (F := F) (L := L) hq
  rw [hlay] at ha
  have ha : (gxw ks lay ca ad F L)[q]? = some (ad k, .inl (ca 4, n, .inl (F k))) := ha
  refine va_zald X.1.1 X.1.2.1 X.2.1 hP q 4 ha rfl (vp_in_nI hj hn) d ?_
  rw [nI_clamp (Nat.lt_trans hj hn)]
  exact kk H locs la hl hP hS
theorem gx_lald (X : GC p s m args meth c cc nL own Ts A D cl ca ks ad) {k n j : Nat} {i : Int32} (d : decode cc pc = .ok (.laload, 1)) (hk : k ∈ ks) (hlay : lay k = Sum.inr (Sum.inr (Sum.inl n))) (hi : i = nI j) (hj : j < n) (hn : n < 2 ^ 31) (kk : GX p l e R s m args below meth c Q nL A D cl ca ks lay ad cells slots (pc + 1) ls (xL (L k j) :: st) F L) : GX p l e R s m args below meth c Q nL A D cl ca ks lay ad cells slots pc ls (xI i :: xR k :: st) F L := by
  subst hi
  intro H locs la hl hP hS
  obtain ⟨q, hq⟩ := List.getElem?_of_mem hk
  have ha := gxw_at (lay := lay) (ca := ca) (ad := ad) (F := F) (L := L) hq
  rw [hlay] at ha
  have ha : (gxw ks lay ca ad F L)[q]? = some (ad k, .inl (ca 1, n, .inr (.inl (L k)))) := ha
  refine va_lald X.1.1 X.1.2.1 X.2.1 hP q 1 ha rfl (vp_in_nI hj hn) d ?_
  rw [nI_clamp (Nat.lt_trans hj hn)]
  exact kk H locs la hl hP hS
theorem gx_aald (X : GC p s m args meth c cc nL own Ts A D cl ca ks ad) {k n j : Nat} {τ : Nat} {ty : FieldType} {g : Nat → Nat} {i : Int32} (d : decode cc pc = .ok (.aaload, 1)) (hk : k ∈ ks) (hlay : lay k = Sum.inr (Sum.inr (Sum.inr (τ, n, g)))) (hτ : (gxT ca)[τ]? = some (ca τ, ty)) (hty : ty.isReference = true) (hi : i = nI j) (hj : j < n) (hn : n < 2 ^ 31) (kk : GX p l e R s m args below meth c Q nL A D cl ca ks lay ad cells slots (pc + 1) ls (xR (g j) :: st) F L) : GX p l e R s m args below meth c Q nL A D cl ca ks lay ad cells slots pc ls (xI i :: xR k :: st) F L := by
  subst hi
  intro H locs la hl hP hS
  obtain ⟨q, hq⟩ := List.getElem?_of_mem hk
  have ha := gxw_at (lay := lay) (ca := ca) (ad := ad) (F := F) (L := L) hq
  rw [hlay] at ha
  have ha : (gxw ks lay ca ad F L)[q]? = some (ad k, .inl (ca τ, n, .inr (.inr (.inr (.inr (fun j => some (ad (g j)))))))) := ha
  have hin := vp_in_nI hj hn
  have hc := nI_clamp (Nat.lt_trans hj hn)
  have hcell := hP q _ ha
  refine W.aald (v := .ref (ad (g j))) (ty := ty) X.1.1 X.1.2.1 hcell ((X.2.1.2 τ _ hτ).1 n (fun j => va_rf (some (ad (g j))))) hty (fun q => by cases q) (by show ¬ (nI j < 0 ∨ (arrV _ _ _).slots.size ≤ _); rw [arrV_size]; exact hin) (by show (arrV _ _ _).slots[_]? = _; rw [hc, arrV_read _ _ hj]; rfl) rfl rfl d ?_
  exact kk H locs la hl hP hS
theorem gx_iast (X : GC p s m args meth c cc nL own Ts A D cl ca ks ad) {k n j : Nat} {i : Int32} {x : Int32} (d : decode cc pc = .ok (.iastore, 1)) (hk : k ∈ ks) (hlay : lay k = Sum.inr (Sum.inl (0, n))) (hi : i = nI j) (hj : j < n) (hn : n < 2 ^ 31) (kk : GX p l e R s m args below meth c Q nL A D cl ca ks lay ad cells slots (pc + 1) ls st (gxu F k j x) L) : GX p l e R s m args below meth c Q nL A D cl ca ks lay ad cells slots pc ls (xI x :: xI i :: xR k :: st) F L := by
  subst hi
  intro H locs la hl hP hS
  obtain ⟨q, hq⟩ := List.getElem?_of_mem hk
  have ha := gxw_at (lay := lay) (ca := ca) (ad := ad) (F := F) (L := L) hq
  rw [hlay] at ha
  have ha : (gxw ks lay ca ad F L)[q]? = some (ad k, .inl (ca 0, n, .inl (F k))) := ha
  refine va_iast X.1.1 X.1.2.1 X.2.1 hP (X.2.2.1.D) hS q 0 ha rfl (vp_in_nI hj hn) d (fun H1 locs1 hP1 _ hS1 => ?_)
  rw [nI_clamp (Nat.lt_trans hj hn)] at hP1
  have e := gxw_set (lay := lay) (ca := ca) (F := F) (F' := gxu F k j x) (L := L) (L' := L) X.2.2.1 hq (fun a h => gxu_cell h) (fun _ _ => rfl)
  rw [hlay] at e
  have e2 : gxc ca ad (gxu F k j x) L k (Sum.inr (Sum.inl (0, n))) = .inl (ca 0, n, .inl (upd (F k) j x)) := by
    show (Sum.inl (ca 0, n, Sum.inl (gxu F k j x k)) : va_E) = _
    rw [gxu_in]
  rw [e2] at e
  rw [e] at hP1
  exact kk H1 locs1 la hl hP1 hS1
theorem gx_cast (X : GC p s m args meth c cc nL own Ts A D cl ca ks ad) {k n j : Nat} {i : Int32} {x v : Int32} (d : decode cc pc = .ok (.castore, 1)) (hk : k ∈ ks) (hlay : lay k = Sum.inr (Sum.inl (2, n))) (hi : i = nI j) (hj : j < n) (hn : n < 2 ^ 31) (hv : vp_nar .char x = v) (kk : GX p l e R s m args below meth c Q nL A D cl ca ks lay ad cells slots (pc + 1) ls st (gxu F k j v) L) : GX p l e R s m args below meth c Q nL A D cl ca ks lay ad cells slots pc ls (xI x :: xI i :: xR k :: st) F L := by
  subst hi
  intro H locs la hl hP hS
  obtain ⟨q, hq⟩ := List.getElem?_of_mem hk
  have ha := gxw_at (lay := lay) (ca := ca) (ad := ad) (F := F) (L := L) hq
  rw [hlay] at ha
  have ha : (gxw ks lay ca ad F L)[q]? = some (ad k, .inl (ca 2, n, .inl (F k))) := ha
  refine va_cast X.1.1 X.1.2.1 X.2.1 hP (X.2.2.1.D) hS q 2 ha rfl (vp_in_nI hj hn) d (fun H1 locs1 hP1 _ hS1 => ?_)
  rw [nI_clamp (Nat.lt_trans hj hn), hv] at hP1
  have e := gxw_set (lay := lay) (ca := ca) (F := F) (F' := gxu F k j v) (L := L) (L' := L) X.2.2.1 hq (fun a h => gxu_cell h) (fun _ _ => rfl)
  rw [hlay] at e
  have e2 : gxc ca ad (gxu F k j v) L k (Sum.inr (Sum.inl (2, n))) = .inl (ca 2, n, .inl (upd (F k) j v)) := by
    show (Sum.inl (ca 2, n, Sum.inl (gxu F k j v k)) : va_E) = _
    rw [gxu_in]
  rw [e2] at e
  rw [e] at hP1
  exact kk H1 locs1 la hl hP1 hS1
theorem gx_bast (X : GC p s m args meth c cc nL own Ts A D cl ca ks ad) {k n j : Nat} {i : Int32} {x v : Int32} (d : decode cc pc = .ok (.bastore, 1)) (hk : k ∈ ks) (hlay : lay k = Sum.inr (Sum.inl (3, n))) (hi : i = nI j) (hj : j < n) (hn : n < 2 ^ 31) (hv : vp_nar .byte x = v) (kk : GX p l e R s m args below meth c Q nL A D cl ca ks lay ad cells slots (pc + 1) ls st (gxu F k j v) L) : GX p l e R s m args below meth c Q nL A D cl ca ks lay ad cells slots pc ls (xI x :: xI i :: xR k :: st) F L := by
  subst hi
  intro H locs la hl hP hS
  obtain ⟨q, hq⟩ := List.getElem?_of_mem hk
  have ha := gxw_at (lay := lay) (ca := ca) (ad := ad) (F := F) (L := L) hq
  rw [hlay] at ha
  have ha : (gxw ks lay ca ad F L)[q]? = some (ad k, .inl (ca 3, n, .inl (F k))) := ha
  refine va_bast X.1.1 X.1.2.1 X.2.1 hP (X.2.2.1.D) hS q 3 ha rfl (vp_in_nI hj hn) d (fun H1 locs1 hP1 _ hS1 => ?_)
  rw [nI_clamp (Nat.lt_trans hj hn), hv] at hP1
  have e := gxw_set (lay := lay) (ca := ca) (F := F) (F' := gxu F k j v) (L := L) (L' := L) X.2.2.1 hq (fun a h => gxu_cell h) (fun _ _ => rfl)
  rw [hlay] at e
  have e2 : gxc ca ad (gxu F k j v) L k (Sum.inr (Sum.inl (3, n))) = .inl (ca 3, n, .inl (upd (F k) j v)) := by
    show (Sum.inl (ca 3, n, Sum.inl (gxu F k j v k)) : va_E) = _
    rw [gxu_in]
  rw [e2] at e
  rw [e] at hP1
  exact kk H1 locs1 la hl hP1 hS1
theorem gx_zast (X : GC p s m args meth c cc nL own Ts A D cl ca ks ad) {k n j : Nat} {i : Int32} {x v : Int32} (d : decode cc pc = .ok (.bastore, 1)) (hk : k ∈ ks) (hlay : lay k = Sum.inr (Sum.inl (4, n))) (hi : i = nI j) (hj : j < n) (hn : n < 2 ^ 31) (hv : vp_nar .boolean x = v) (kk : GX p l e R s m args below meth c Q nL A D cl ca ks lay ad cells slots (pc + 1) ls st (gxu F k j v) L) : GX p l e R s m args below meth c Q nL A D cl ca ks lay ad cells slots pc ls (xI x :: xI i :: xR k :: st) F L := by
  subst hi
  intro H locs la hl hP hS
  obtain ⟨q, hq⟩ := List.getElem?_of_mem hk
  have ha := gxw_at (lay := lay) (ca := ca) (ad := ad) (F := F) (L := L) hq
  rw [hlay] at ha
  have ha : (gxw ks lay ca ad F L)[q]? = some (ad k, .inl (ca 4, n, .inl (F k))) := ha
  refine va_zast X.1.1 X.1.2.1 X.2.1 hP (X.2.2.1.D) hS q 4 ha rfl (vp_in_nI hj hn) d (fun H1 locs1 hP1 _ hS1 => ?_)
  rw [nI_clamp (Nat.lt_trans hj hn), hv] at hP1
  have e := gxw_set (lay := lay) (ca := ca) (F := F) (F' := gxu F k j v) (L := L) (L' := L) X.2.2.1 hq (fun a h => gxu_cell h) (fun _ _ => rfl)
  rw [hlay] at e
  have e2 : gxc ca ad (gxu F k j v) L k (Sum.inr (Sum.inl (4, n))) = .inl (ca 4, n, .inl (upd (F k) j v)) := by
    show (Sum.inl (ca 4, n, Sum.inl (gxu F k j v k)) : va_E) = _
    rw [gxu_in]
  rw [e2] at e
  rw [e] at hP1
  exact kk H1 locs1 la hl hP1 hS1
theorem gx_last (X : GC p s m args meth c cc nL own Ts A D cl ca ks ad) {k n j : Nat} {i : Int32} {x : Int64} (d : decode cc pc = .ok (.lastore, 1)) (hk : k ∈ ks) (hlay : lay k = Sum.inr (Sum.inr (Sum.inl n))) (hi : i = nI j) (hj : j < n) (hn : n < 2 ^ 31) (kk : GX p l e R s m args below meth c Q nL A D cl ca ks lay ad cells slots (pc + 1) ls st F (gxU L k j x)) : GX p l e R s m args below meth c Q nL A D cl ca ks lay ad cells slots pc ls (xL x :: xI i :: xR k :: st) F L := by
  subst hi
  intro H locs la hl hP hS
  obtain ⟨q, hq⟩ := List.getElem?_of_mem hk
  have ha := gxw_at (lay := lay) (ca := ca) (ad := ad) (F := F) (L := L) hq
  rw [hlay] at ha
  have ha : (gxw ks lay ca ad F L)[q]? = some (ad k, .inl (ca 1, n, .inr (.inl (L k)))) := ha
  refine va_last X.1.1 X.1.2.1 X.2.1 hP (X.2.2.1.D) hS q 1 ha rfl (vp_in_nI hj hn) d (fun H1 locs1 hP1 _ hS1 => ?_)
  rw [nI_clamp (Nat.lt_trans hj hn)] at hP1
  have e := gxw_set (lay := lay) (ca := ca) (F := F) (F' := F) (L := L) (L' := gxU L k j x) X.2.2.1 hq (fun _ _ => rfl) (fun a h => gxU_cell h)
  rw [hlay] at e
  have e2 : gxc ca ad F (gxU L k j x) k (Sum.inr (Sum.inr (Sum.inl n))) = .inl (ca 1, n, .inr (.inl (vp_updL (L k) j x))) := by
    show (Sum.inl (ca 1, n, Sum.inr (Sum.inl (gxU L k j x k))) : va_E) = _
    rw [gxU_in]
  rw [e2] at e
  rw [e] at hP1
  exact kk H1 locs1 la hl hP1 hS1
theorem gx_alen (X : GC p s m args meth c cc nL own Ts A D cl ca ks ad) {k : Nat} {τ n : Nat} {ty : FieldType} {x : vp_A} {v : Int32} (d : decode cc pc = .ok (.arraylength, 1)) (hk : k ∈ ks) (hlay : gxc ca ad F L k (lay k) = .inl (ca τ, x)) (hx : x.1 = n) (hτ : (gxT ca)[τ]? = some (ca τ, ty)) (hv : Int32.ofNat n = v) (kk : GX p l e R s m args below meth c Q nL A D cl ca ks lay ad cells slots (pc + 1) ls (xI v :: st) F L) : GX p l e R s m args below meth c Q nL A D cl ca ks lay ad cells slots pc ls (xR k :: st) F L := by
  subst hx
  intro H locs la hl hP hS
  obtain ⟨q, hq⟩ := List.getElem?_of_mem hk
  have ha := gxw_at (lay := lay) (ca := ca) (ad := ad) (F := F) (L := L) hq
  rw [hlay] at ha
  exact va_alen X.1.1 X.1.2.1 X.2.1 hP q τ ha hτ hv d (kk H locs la hl hP hS)
theorem gx_geti (X : GC p s m args meth c cc nL own Ts A D cl ca ks ad) {C ref : String} {T : u_T} {N ci index : Nat} {fs : List (Option Nat)} {k : Nat} (d : decode cc pc = .ok (.getfield index, 3)) (hin : ∀ w ∈ u_ws C T N, w ∈ Ts) (hk : k ∈ ks) (hlay : lay k = Sum.inl (ci, fs)) (hc : cl[ci]? = some (C, T, N)) (j : Nat) (hj : j < N) (hlink : (Cond.fieldLink own index ref (T j).2.1 (T j).2.2.1).before args s = true) (hsame : ∀ x, s.fieldFound? (T j).1 (T j).2.1 (T j).2.2.1 = some x → s.fieldFound? ref (T j).2.1 (T j).2.2.1 = some x) (hf : fs[j]? = some none) (kk : GX p l e R s m args below meth c Q nL A D cl ca ks lay ad cells slots (pc + 3) ls (xI (F k j) :: st) F L) : GX p l e R s m args below meth c Q nL A D cl ca ks lay ad cells slots pc ls (xR k :: st) F L := by
  intro H locs la hl hP hS
  obtain ⟨q, hq⟩ := List.getElem?_of_mem hk
  have ha := gxw_at (lay := lay) (ca := ca) (ad := ad) (F := F) (L := L) hq
  rw [hlay] at ha
  have ha : (gxw ks lay ca ad F L)[q]? = some (ad k, .inr (ci, gxfl ad (F k) 0 fs)) := ha
  have hv := gxfl_i ad (F k) fs 0 j hf
  rw [Nat.zero_add] at hv
  exact va_get X.1.1 X.1.2.1 X.1.2.2.2.2 hin X.1.2.2.2.1 X.2.1 hP q ha hc j hj hlink hsame hv d (kk H locs la hl hP hS)
theorem gx_getr (X : GC p s m args meth c cc nL own Ts A D cl ca ks ad) {C ref : String} {T : u_T} {N ci index : Nat} {fs : List (Option Nat)} {k : Nat} {k2 : Nat} (d : decode cc pc = .ok (.getfield index, 3)) (hin : ∀ w ∈ u_ws C T N, w ∈ Ts) (hk : k ∈ ks) (hlay : lay k = Sum.inl (ci, fs)) (hc : cl[ci]? = some (C, T, N)) (j : Nat) (hj : j < N) (hlink : (Cond.fieldLink own index ref (T j).2.1 (T j).2.2.1).before args s = true) (hsame : ∀ x, s.fieldFound? (T j).1 (T j).2.1 (T j).2.2.1 = some x → s.fieldFound? ref (T j).2.1 (T j).2.2.1 = some x) (hf : fs[j]? = some (some k2)) (kk : GX p l e R s m args below meth c Q nL A D cl ca ks lay ad cells slots (pc + 3) ls (xR k2 :: st) F L) : GX p l e R s m args below meth c Q nL A D cl ca ks lay ad cells slots pc ls (xR k :: st) F L := by
  intro H locs la hl hP hS
  obtain ⟨q, hq⟩ := List.getElem?_of_mem hk
  have ha := gxw_at (lay := lay) (ca := ca) (ad := ad) (F := F) (L := L) hq
  rw [hlay] at ha
  have ha : (gxw ks lay ca ad F L)[q]? = some (ad k, .inr (ci, gxfl ad (F k) 0 fs)) := ha
  exact va_get X.1.1 X.1.2.1 X.1.2.2.2.2 hin X.1.2.2.2.1 X.2.1 hP q ha hc j hj hlink hsame (gxfl_r ad (F k) fs 0 j k2 hf) d (kk H locs la hl hP hS)
theorem gx_puti (X : GC p s m args meth c cc nL own Ts A D cl ca ks ad) {C ref : String} {T : u_T} {N ci index : Nat} {fs : List (Option Nat)} {k : Nat} {ty : FieldType} {v : Int32} (d : decode cc pc = .ok (.putfield index, 3)) (hin : ∀ w ∈ u_ws C T N, w ∈ Ts) (hk : k ∈ ks) (hlay : lay k = Sum.inl (ci, fs)) (hc : cl[ci]? = some (C, T, N)) (j : Nat) (hj : j < N) (hlink : (Cond.fieldLink own index ref (T j).2.1 (T j).2.2.1).before args s = true) (hsame : ∀ x, s.fieldFound? (T j).1 (T j).2.1 (T j).2.2.1 = some x → s.fieldFound? ref (T j).2.1 (T j).2.2.1 = some x) (ty0 : Nat → FieldType) (hty : ∀ k, k < N → parseFieldDescriptor (T k).2.2.1 = some (ty0 k)) (hnm : ∀ a, a < N → ∀ b, b < N → a ≠ b → (T a).2.1 ≠ (T b).2.1) (hfin : (T j).2.2.2 = false) (hd : parseFieldDescriptor (T j).2.2.1 = some ty) (hn : narrow ty (.int v) = .int v) (hfit : fits ty (.int v) = true) (hf : fs[j]? = some none) (kk : GX p l e R s m args below meth c Q nL A D cl ca ks lay ad cells slots (pc + 3) ls st (gxu F k j v) L) : GX p l e R s m args below meth c Q nL A D cl ca ks lay ad cells slots pc ls (xI v :: xR k :: st) F L := by
  intro H locs la hl hP hS
  obtain ⟨q, hq⟩ := List.getElem?_of_mem hk
  have ha := gxw_at (lay := lay) (ca := ca) (ad := ad) (F := F) (L := L) hq
  rw [hlay] at ha
  have ha : (gxw ks lay ca ad F L)[q]? = some (ad k, .inr (ci, gxfl ad (F k) 0 fs)) := ha
  have hlt : j < (gxfl ad (F k) 0 fs).length := by rw [gxfl_len]; exact (List.getElem?_eq_some_iff.mp hf).1
  refine va_put (v := .int v) X.1.1 X.1.2.1 X.1.2.2.2.2 hin ty0 hty hnm X.1.2.2.2.1 X.2.1 hP (X.2.2.1.D) hS q ha hc j hj hlink hsame hfin hd hn hfit hlt d (fun H1 locs1 hP1 _ hS1 => ?_)
  have e := gxw_set (lay := lay) (ca := ca) (F := F) (F' := gxu F k j v) (L := L) (L' := L) X.2.2.1 hq (fun a h => gxu_cell h) (fun _ _ => rfl)
  rw [hlay] at e
  have e2 : gxc ca ad (gxu F k j v) L k (Sum.inl (ci, fs)) = .inr (ci, (gxfl ad (F k) 0 fs).set j (.int v)) := by
    show (Sum.inr (ci, gxfl ad (gxu F k j v k) 0 fs) : va_E) = _
    rw [gxu_in, gxfl_set ad (F k) v fs 0 j hf, Nat.zero_add]
  rw [e2] at e
  rw [e] at hP1
  exact kk H1 locs1 la hl hP1 hS1
end GXS
/-! contracts over worlds: any caller, the whole world goes in and comes back -/
def gxA (ks : List Nat) (ad : Nat → Nat) (sz : Nat) : Nat → Prop := fun q => (∃ k, k ∈ ks ∧ q = ad k) ∨ sz ≤ q
def gxP (D : va_G) (cl : List vw_C) (ca : Nat → ClassId) (ks : List Nat) (lay : Nat → gxE) (ad : Nat → Nat) (sz : Nat) (F : Nat → Nat → Int32) (L : Nat → Nat → Int64) (U : State) : Prop :=
  U.heap.size = sz ∧ va_P D cl (gxw ks lay ca ad F L) U.heap ∧ va_K D cl (gxT ca) U ∧ gxD (fun _ => True) ks ad
def gxQ (D : va_G) (cl : List vw_C) (ca : Nat → ClassId) (ks : List Nat) (lay : Nat → gxE) (ad : Nat → Nat) (sz : Nat) (post : Option xV → (Nat → Nat → Int32) → (Nat → Nat → Int64) → Prop) : Array Value → State → Outcome → State → Prop := fun _ st oc t =>
  (∃ (r : Option xV) (F' : Nat → Nat → Int32) (L' : Nat → Nat → Int64), oc = .returned (r.map (gxv ad)) ∧ post r F' L' ∧ va_P D cl (gxw ks lay ca ad F' L') t.heap) ∧ va_F (gxA ks ad sz) st t
def Con (l : Launch) (y : MethodName) (ws : List Cond) (rm : Room) (D : va_G) (cl : List vw_C) (ca : Nat → ClassId) (ks : List Nat) (lay : Nat → gxE) (ad : Nat → Nat) (av : List xV) (F : Nat → Nat → Int32) (L : Nat → Nat → Int64) (post : Option xV → (Nat → Nat → Int32) → (Nat → Nat → Int64) → Prop) : Prop :=
  ∀ sz : Nat, Met l y ws rm (va_Pc (av.map (gxv ad)) (gxP D cl ca ks lay ad sz F L)) (gxQ D cl ca ks lay ad sz post) 0 0 (gxA ks ad sz)
def gxargs : Nat → List xV → List (Nat × xV)
  | _, [] => []
  | i, v :: r => (i, v) :: gxargs (cond (gxis v) (i + 2) (i + 1)) r
theorem gxlk_mem : ∀ {ls : List (Nat × xV)} {i : Nat} {v : xV}, gxlk ls i = some v → (i, v) ∈ ls
  | [], _, _, h => by simp [gxlk] at h
  | (j, w) :: r, i, v, h => by
    rcases gxlk_cons h with ⟨rfl, rfl⟩ | ⟨-, h2, -, -⟩
    · exact List.mem_cons_self
    · exact List.mem_cons_of_mem _ (gxlk_mem h2)
theorem gxargs_mem (ad : Nat → Nat) : ∀ (av : List xV) (i j : Nat) (v : xV), (j, v) ∈ gxargs i av → (j, gxv ad v) ∈ lv_args i (av.map (gxv ad))
  | [], _, _, _, h => by simp [gxargs] at h
  | w :: r, i, j, v, h => by
    simp only [gxargs, List.mem_cons] at h
    rcases h with h | h
    · cases h
      simp [lv_args]
    · have := gxargs_mem ad r _ j v h
      have e : (if (gxv ad w).category = 2 then i + 2 else i + 1) = cond (gxis w) (i + 2) (i + 1) := by
        rw [gxv_cat]
        cases gxis w <;> rfl
      simp only [List.map_cons, lv_args, List.mem_cons, e]
      exact Or.inr this
theorem gxhas_entry {la : Array Slot} {n : Nat} {ad : Nat → Nat} {av : List xV} (h : lv_has la n (lv_args 0 (av.map (gxv ad)))) : gxhas la n (gxargs 0 av) ad :=
  ⟨h.1, h.2.1, fun i v hi => h.2.2 _ (gxargs_mem ad av 0 i v (gxlk_mem hi))⟩
theorem gxD.self {A : Nat → Prop} {ks : List Nat} {ad : Nat → Nat} {sz : Nat} (h : gxD A ks ad) : gxD (gxA ks ad sz) ks ad := ⟨h.1, fun k hk => Or.inl ⟨k, hk, rfl⟩⟩
theorem Con.of {l : Launch} {y : MethodName} {ws ws' : List Cond} {rm : Room} {D : va_G} {cl : List vw_C} {ca : Nat → ClassId} {ks : List Nat} {lay : Nat → gxE} {ad : Nat → Nat} {av : List xV} {F : Nat → Nat → Int32} {L : Nat → Nat → Int64} {post : Option xV → (Nat → Nat → Int32) → (Nat → Nat → Int64) → Prop} {cc : ByteArray} {nL : Nat} {ret : Option FieldType} {ls : List (Nat × xV)}
    (hy : plainName y.cls = true) (hw : ws = Cond.code y cc nL ret :: ws') (hls : gxargs 0 av = ls) (hlen : (lg_sl (av.map (gxv (fun _ => 0)))).length ≤ nL)
    (body : ∀ (p : Program) (e : Env) (s : State) (m : MethodId) (args : Array Value) (below : List Frame) (meth : Method) (c : Code) (A : Nat → Prop), GC p s m args meth c cc nL y.cls ws A D cl ca ks ad → meth.sig.returnType = ret → (∀ q, A q → gxA ks ad s.heap.size q) →
      GX p l e rm s m args below meth c (MQ below (gxQ D cl ca ks lay ad s.heap.size post) args s 0 0 (gxA ks ad s.heap.size)) nL A D cl ca ks lay ad 0 0 0 ls [] F L) : Con l y ws rm D cl ca ks lay ad av F L post := by
  intro sz
  refine Met.ofW (cc := cc) (maxL := nL) (ret := ret) hy hw ?_
  intro p e s m args below meth c s₁ B hml hv
  obtain ⟨rfl, hsz, hP, hK, hD0⟩ := hv
  have hts := atoms_spec (ws := ws) B.pre
  have hown : s.vm.findClass y.cls = some m.cls := findClass_of_methodNamed B.named
  subst hsz
  have hX : GC p s m (av.map (gxv ad)).toArray meth c cc nL y.cls ws (gxA ks ad s.heap.size) D cl ca ks ad := ⟨⟨B.exec, B.bytes, hml, hown, hts⟩, hK, hD0.self, fun q h => Or.inr h, B.notSynchronized⟩
  have hlen2 : (lg_sl (av.map (gxv ad))).length ≤ nL := by
    have e : ∀ l : List xV, (lg_sl (l.map (gxv ad))).length = (lg_sl (l.map (gxv (fun _ => 0)))).length := by
      intro l
      induction l with
      | nil => rfl
      | cons v r ih =>
        simp only [lg_sl, List.map_cons, List.flatMap_cons, List.length_append] at ih ⊢
        rw [ih, gxv_cat, gxv_cat]
        cases gxis v <;> rfl
    rw [e]
    exact hlen
  have hl := gxhas_entry (lv_entry (av.map (gxv ad)) (n := nL) hlen2)
  rw [lg_entry_eq]
  rw [hls] at hl
  exact body p e s m _ below meth c (gxA ks ad s.heap.size) hX B.returns (fun _ h => h) s.heap [] _ hl hP va_S.rf
section GXR
variable {p : Program} {l : Launch} {e : Env} {R : Room} {s : State} {m : MethodId} {args : Array Value} {below : List Frame} {meth : Method} {c : Code} {Q : State → Prop} {nL cells slots pc : Nat} {A : Nat → Prop} {D : va_G} {cl : List vw_C} {ca : Nat → ClassId} {ks : List Nat} {lay : Nat → gxE} {ad : Nat → Nat}
variable {ls : List (Nat × xV)} {st : List xV} {F : Nat → Nat → Int32} {L : Nat → Nat → Int64} {cc : ByteArray} {own : String} {Ts : List Cond} {post : Option xV → (Nat → Nat → Int32) → (Nat → Nat → Int64) → Prop}
theorem gx_vret (X : GC p s m args meth c cc nL own Ts A D cl ca ks ad) (hr : meth.sig.returnType = none) (hA : ∀ q, A q → gxA ks ad s.heap.size q) (d : decode cc pc = .ok (.return_, 1)) (hp : post none F L) : GX p l e R s m args below meth c (MQ below (gxQ D cl ca ks lay ad s.heap.size post) args s 0 0 (gxA ks ad s.heap.size)) nL A D cl ca ks lay ad 0 0 pc ls [] F L := fun H locs la hl hP hS =>
  W.vret X.1.1 X.1.2.1 hr (fun t ht hW => ⟨⟨none, F, L, rfl, hp, by rw [ht]; exact hP⟩, by rw [ht]; exact hS.1, fun q h1 h2 => by rw [ht]; exact hS.2.1 q h1 (fun z => h2 (hA q z))⟩) (fun q hq => hA _ (hS.2.2 q hq)) d X.2.2.2.2
theorem gx_iret (X : GC p s m args meth c cc nL own Ts A D cl ca ks ad) {v : Int32} (hr : meth.sig.returnType = some .int) (hA : ∀ q, A q → gxA ks ad s.heap.size q) (d : decode cc pc = .ok (.ireturn, 1)) (hp : post (some (xI v)) F L) : GX p l e R s m args below meth c (MQ below (gxQ D cl ca ks lay ad s.heap.size post) args s 0 0 (gxA ks ad s.heap.size)) nL A D cl ca ks lay ad 0 0 pc ls [xI v] F L := fun H locs la hl hP hS =>
  W.iret X.1.1 X.1.2.1 hr (fun t ht hW => ⟨⟨(some (xI v)), F, L, rfl, hp, by rw [ht]; exact hP⟩, by rw [ht]; exact hS.1, fun q h1 h2 => by rw [ht]; exact hS.2.1 q h1 (fun z => h2 (hA q z))⟩) (fun q hq => hA _ (hS.2.2 q hq)) d X.2.2.2.2
theorem gx_lret (X : GC p s m args meth c cc nL own Ts A D cl ca ks ad) {v : Int64} (hr : meth.sig.returnType = some .long) (hA : ∀ q, A q → gxA ks ad s.heap.size q) (d : decode cc pc = .ok (.lreturn, 1)) (hp : post (some (xL v)) F L) : GX p l e R s m args below meth c (MQ below (gxQ D cl ca ks lay ad s.heap.size post) args s 0 0 (gxA ks ad s.heap.size)) nL A D cl ca ks lay ad 0 0 pc ls [xL v] F L := fun H locs la hl hP hS =>
  W.lret X.1.1 X.1.2.1 hr (fun t ht hW => ⟨⟨(some (xL v)), F, L, rfl, hp, by rw [ht]; exact hP⟩, by rw [ht]; exact hS.1, fun q h1 h2 => by rw [ht]; exact hS.2.1 q h1 (fun z => h2 (hA q z))⟩) (fun q hq => hA _ (hS.2.2 q hq)) d X.2.2.2.2
theorem gx_zret (X : GC p s m args meth c cc nL own Ts A D cl ca ks ad) {v : Int32} {ty : FieldType} (hr : meth.sig.returnType = some ty) (hn : narrow ty (.int v) = .int v) (hA : ∀ q, A q → gxA ks ad s.heap.size q) (d : decode cc pc = .ok (.ireturn, 1)) (hp : post (some (xI v)) F L) : GX p l e R s m args below meth c (MQ below (gxQ D cl ca ks lay ad s.heap.size post) args s 0 0 (gxA ks ad s.heap.size)) nL A D cl ca ks lay ad 0 0 pc ls [xI v] F L := fun H locs la hl hP hS =>
  W.zret X.1.1 X.1.2.1 hr hn (fun t ht hW => ⟨⟨some (xI v), F, L, rfl, hp, by rw [ht]; exact hP⟩, by rw [ht]; exact hS.1, fun q h1 h2 => by rw [ht]; exact hS.2.1 q h1 (fun z => h2 (hA q z))⟩) (fun q hq => hA _ (hS.2.2 q hq)) d X.2.2.2.2
/-- a call that has come back: the world with its new contents, the answer on the stack -/
theorem gx_go (X : GC p s m args meth c cc nL own Ts A D cl ca ks ad) {a : Array Value} {st0 rest : List xV} (hr : ∀ (H : Heap) (locs : List Loc) (la : Array Slot), la.size = nL → va_P D cl (gxw ks lay ca ad F L) H → va_Run p l e R s m args below meth c H locs cells slots 0 0 (F0 m pc la (st0.map (gxv ad))) (rest.map (gxv ad)) (gxQ D cl ca ks lay ad H.size post a) (gxA ks ad H.size))
    (kk : ∀ (r : Option xV) (F' : Nat → Nat → Int32) (L' : Nat → Nat → Int64), post r F' L' → GX p l e R s m args below meth c Q nL A D cl ca ks lay ad cells slots (pc + 3) ls (r.toList ++ rest) F' L') : GX p l e R s m args below meth c Q nL A D cl ca ks lay ad cells slots pc ls st0 F L := by
  intro H locs la hl hP hS T hT Z
  obtain ⟨v, st₀, t, T', L2, h0, Z', hL, e1, e2, ⟨⟨r, F', L', hv, hp, hP'⟩, hz, hk⟩, stp⟩ := hr H locs la hl.1 hP T hT Z
  rw [h0] at hz hk
  have hA1 : ∀ q, gxA ks ad H.size q → A q := by
    intro q hq
    rcases hq with ⟨k, h1, rfl⟩ | h1
    · exact X.2.2.1.2 k h1
    · exact X.2.2.2.1 q (Nat.le_trans hS.1 h1)
  have hv2 : v = r.map (gxv ad) := by cases hv; rfl
  subst hv2
  obtain ⟨t2, a1, b1⟩ := kk r F' L' hp T'.heap (locs ++ L2) la hl (by rw [e1]; exact hP')
    ⟨Nat.le_trans hS.1 (by rw [e1]; exact hz), fun q h1 h2 => by rw [e1, hk q (Nat.lt_of_lt_of_le h1 hS.1) (fun z => h2 (hA1 q z))]; exact hS.2.1 q h1 h2, fun q hq => by
      rcases List.mem_append.mp hq with h | h
      · exact hS.2.2 q h
      · exact hA1 _ (hL q h)⟩ T' rfl Z'
  refine ⟨t2, stp t2 ?_, b1⟩
  have e3 : (r.toList ++ rest).map (gxv ad) = (r.map (gxv ad)).toList ++ rest.map (gxv ad) := by cases r <;> simp
  rw [e3] at a1
  exact a1
theorem gxP_blind {av : List xV} {sz : Nat} : FrameBlind (va_Pc (av.map (gxv ad)) (gxP D cl ca ks lay ad sz F L)) := by
  intro a U g mk ⟨q0, q1, qP, qK, qD⟩
  exact ⟨q0, q1, qP, va_K.moved (u := U) (U := U.calling g mk a) (Vm.Alike.refl U.vm) qK, qD⟩
theorem gxP_at (X : GC p s m args meth c cc nL own Ts A D cl ca ks ad) {av : List xV} {H : Heap} (hP : va_P D cl (gxw ks lay ca ad F L) H) (U : State) (hU : U.heap = H) (hW : s.WarmedH U.vm) : va_Pc (av.map (gxv ad)) (gxP D cl ca ks lay ad H.size F L) (av.map (gxv ad)).toArray U :=
  ⟨rfl, by rw [hU], by rw [hU]; exact hP, va_K.moved hW.alike X.2.1, ⟨X.2.2.1.1, fun _ _ => trivial⟩⟩
theorem gx_cat8 {rest : List xV} {la : Array Slot} {st0 : List Value} (h : (rest.map (fun v => cond (gxis v) 2 1)).sum ≤ 8) : 2 * (F0 m pc la st0).monitorRoom + ((rest.map (gxv ad)).map fun v => v.category).sum ≤ 8 := by
  have e : ((rest.map (gxv ad)).map fun v => v.category) = rest.map (fun v => cond (gxis v) 2 1) := by
    rw [List.map_map]
    apply List.map_congr_left
    intro v _
    exact gxv_cat ad v
  exact lv_room (by rw [e]; exact h)
end GXR
end
section
/-! rooms, by the graph of calls; what a call needs to know of its callee -/
abbrev rm_PP_init : Room := { frames := 17, cells := 0, slots := 0, locals := 10518 }
abbrev rm_Sp_init : Room := { frames := 1, cells := 0, slots := 0, locals := 20 }
abbrev rm_Li_init : Room := { frames := 1, cells := 0, slots := 0, locals := 20 }
abbrev rm_Fo_init : Room := { frames := 1, cells := 0, slots := 0, locals := 20 }
abbrev rm_Pr_init : Room := { frames := 1, cells := 0, slots := 0, locals := 20 }
abbrev rm_Gr_init : Room := { frames := 16, cells := 0, slots := 0, locals := 10497 }
abbrev rm_Gr_numberGroups : Room := { frames := 15, cells := 0, slots := 0, locals := 10475 }
abbrev rm_Ar_fill_aIIII : Room := { frames := 14, cells := 0, slots := 0, locals := 10451 }
abbrev rm_Ar_rangeCheck : Room := { frames := 13, cells := 0, slots := 0, locals := 10429 }
abbrev rm_Gr_placeStates : Room := { frames := 1, cells := 0, slots := 0, locals := 23 }
abbrev rm_Ar_fill_aII : Room := { frames := 0, cells := 0, slots := 0, locals := 0 }
abbrev rm_Se_init : Room := { frames := 1, cells := 0, slots := 0, locals := 20 }
abbrev rm_Pa_init : Room := { frames := 1, cells := 0, slots := 0, locals := 20 }
abbrev rm_Re_init : Room := { frames := 1, cells := 0, slots := 0, locals := 20 }
abbrev rm_Rf_init : Room := { frames := 1, cells := 0, slots := 0, locals := 20 }
abbrev rm_PP_type : Room := { frames := 1, cells := 0, slots := 0, locals := 21 }
abbrev rm_Li_append : Room := { frames := 0, cells := 0, slots := 0, locals := 0 }
abbrev rm_PP_wipe : Room := { frames := 1, cells := 0, slots := 0, locals := 20 }
abbrev rm_Li_makeEmpty : Room := { frames := 0, cells := 0, slots := 0, locals := 0 }
abbrev rm_PP_clear : Room := { frames := 17, cells := 0, slots := 0, locals := 10517 }
abbrev rm_Gr_dropPredicates : Room := { frames := 16, cells := 0, slots := 0, locals := 10497 }
abbrev rm_PP_forgetSearch : Room := { frames := 1, cells := 0, slots := 0, locals := 20 }
abbrev rm_Se_forget : Room := { frames := 0, cells := 0, slots := 0, locals := 0 }
abbrev rm_Re_forget : Room := { frames := 0, cells := 0, slots := 0, locals := 0 }
abbrev rm_PP_outcome : Room := { frames := 0, cells := 0, slots := 0, locals := 0 }
abbrev rm_PP_edges : Room := { frames := 0, cells := 0, slots := 0, locals := 0 }
abbrev rm_PP_predicates : Room := { frames := 0, cells := 0, slots := 0, locals := 0 }
abbrev rm_PP_nodes : Room := { frames := 0, cells := 0, slots := 0, locals := 0 }
abbrev rm_PP_length : Room := { frames := 0, cells := 0, slots := 0, locals := 0 }
abbrev rm_Lw_cell : Room := { frames := 0, cells := 0, slots := 0, locals := 0 }
abbrev rm_Lw_edge : Room := { frames := 29, cells := 0, slots := 0, locals := 10451 }
abbrev rm_PP_edge : Room := { frames := 28, cells := 0, slots := 0, locals := 10429 }
abbrev rm_Pa_readEdge : Room := { frames := 27, cells := 0, slots := 0, locals := 1026 }
abbrev rm_Li_at : Room := { frames := 0, cells := 0, slots := 0, locals := 0 }
abbrev rm_Pa_isLocation : Room := { frames := 0, cells := 0, slots := 0, locals := 0 }
abbrev rm_Fo_isVariable : Room := { frames := 0, cells := 0, slots := 0, locals := 0 }
abbrev rm_Pa_readTerm : Room := { frames := 26, cells := 0, slots := 0, locals := 1004 }
abbrev rm_Fo_begin : Room := { frames := 0, cells := 0, slots := 0, locals := 0 }
abbrev rm_Pa_passTerm : Room := { frames := 25, cells := 0, slots := 0, locals := 981 }
abbrev rm_Pa_passPart : Room := { frames := 25, cells := 0, slots := 0, locals := 981 }
abbrev rm_Fo_isDigit : Room := { frames := 0, cells := 0, slots := 0, locals := 0 }
abbrev rm_Fo_add : Room := { frames := 0, cells := 0, slots := 0, locals := 0 }
abbrev rm_Pa_isOperator : Room := { frames := 0, cells := 0, slots := 0, locals := 0 }
abbrev rm_Pa_readAtom : Room := { frames := 26, cells := 0, slots := 0, locals := 1004 }
abbrev rm_Pa_isComparison : Room := { frames := 0, cells := 0, slots := 0, locals := 0 }
abbrev rm_Pr_isFull : Room := { frames := 0, cells := 0, slots := 0, locals := 0 }
abbrev rm_Pr_add : Room := { frames := 3, cells := 0, slots := 0, locals := 70 }
abbrev rm_Pr_targetOf : Room := { frames := 2, cells := 0, slots := 0, locals := 46 }
abbrev rm_Sp_write : Room := { frames := 0, cells := 0, slots := 0, locals := 0 }
abbrev rm_Fo_valueIn : Room := { frames := 1, cells := 0, slots := 0, locals := 22 }
abbrev rm_Sp_read : Room := { frames := 0, cells := 0, slots := 0, locals := 0 }
abbrev rm_Fo_combine : Room := { frames := 0, cells := 0, slots := 0, locals := 0 }
abbrev rm_Lw_predicate : Room := { frames := 28, cells := 0, slots := 0, locals := 10539 }
abbrev rm_PP_predicate : Room := { frames := 27, cells := 0, slots := 0, locals := 10517 }
abbrev rm_Gr_isFull : Room := { frames := 0, cells := 0, slots := 0, locals := 0 }
abbrev rm_Gr_include : Room := { frames := 0, cells := 0, slots := 0, locals := 0 }
abbrev rm_Gr_endPredicate : Room := { frames := 16, cells := 0, slots := 0, locals := 10497 }
abbrev rm_Lw_prove : Room := { frames := 22, cells := 0, slots := 0, locals := 10628 }
abbrev rm_PP_prove : Room := { frames := 21, cells := 0, slots := 0, locals := 10606 }
abbrev rm_PP_makeRound : Room := { frames := 20, cells := 0, slots := 0, locals := 10586 }
abbrev rm_Se_run : Room := { frames := 17, cells := 0, slots := 0, locals := 10525 }
abbrev rm_Ar_fill_aBB : Room := { frames := 0, cells := 0, slots := 0, locals := 0 }
abbrev rm_Se_addNode : Room := { frames := 1, cells := 0, slots := 0, locals := 21 }
abbrev rm_Gr_signatureOf : Room := { frames := 0, cells := 0, slots := 0, locals := 0 }
abbrev rm_Se_take : Room := { frames := 16, cells := 0, slots := 0, locals := 10501 }
abbrev rm_Se_markReached : Room := { frames := 15, cells := 0, slots := 0, locals := 10475 }
abbrev rm_Ar_fill_aBIIB : Room := { frames := 14, cells := 0, slots := 0, locals := 10451 }
abbrev rm_Pr_choices : Room := { frames := 0, cells := 0, slots := 0, locals := 0 }
abbrev rm_Pr_step : Room := { frames := 1, cells := 0, slots := 0, locals := 24 }
abbrev rm_Se_tracePath : Room := { frames := 0, cells := 0, slots := 0, locals := 0 }
abbrev rm_Re_succeeds : Room := { frames := 4, cells := 0, slots := 0, locals := 98 }
abbrev rm_Ar_fill_aJJ : Room := { frames := 0, cells := 0, slots := 0, locals := 0 }
abbrev rm_Re_openBefore : Room := { frames := 3, cells := 0, slots := 0, locals := 74 }
abbrev rm_Re_leastInput : Room := { frames := 2, cells := 0, slots := 0, locals := 48 }
abbrev rm_Re_isOpen : Room := { frames := 0, cells := 0, slots := 0, locals := 0 }
abbrev rm_Re_collectInputs : Room := { frames := 3, cells := 0, slots := 0, locals := 74 }
abbrev rm_Rf_refine : Room := { frames := 19, cells := 0, slots := 0, locals := 10564 }
abbrev rm_Rf_passEdge : Room := { frames := 2, cells := 0, slots := 0, locals := 62 }
abbrev rm_Rf_takeAlong : Room := { frames := 1, cells := 0, slots := 0, locals := 24 }
abbrev rm_Rf_rowsInUse : Room := { frames := 0, cells := 0, slots := 0, locals := 0 }
abbrev rm_Rf_pullBack : Room := { frames := 1, cells := 0, slots := 0, locals := 39 }
abbrev rm_Rf_leaveBehind : Room := { frames := 0, cells := 0, slots := 0, locals := 0 }
abbrev rm_Rf_adoptTaken : Room := { frames := 18, cells := 0, slots := 0, locals := 10540 }
abbrev rm_Gr_splitting : Room := { frames := 0, cells := 0, slots := 0, locals := 0 }
abbrev rm_Rf_adopt : Room := { frames := 17, cells := 0, slots := 0, locals := 10517 }
abbrev rm_Rf_adoptVariableBit : Room := { frames := 18, cells := 0, slots := 0, locals := 10540 }
abbrev rm_Lw_holds : Room := { frames := 14, cells := 0, slots := 0, locals := 10451 }
abbrev rm_PP_holds : Room := { frames := 13, cells := 0, slots := 0, locals := 10429 }
abbrev rm_Sp_contains : Room := { frames := 0, cells := 0, slots := 0, locals := 0 }
abbrev rm_Lw_signature : Room := { frames := 14, cells := 0, slots := 0, locals := 10450 }
abbrev rm_PP_signature : Room := { frames := 13, cells := 0, slots := 0, locals := 10429 }
abbrev rm_Lw_follow : Room := { frames := 14, cells := 0, slots := 0, locals := 10452 }
abbrev rm_PP_follow : Room := { frames := 13, cells := 0, slots := 0, locals := 10429 }
abbrev rm_Lw_node : Room := { frames := 14, cells := 0, slots := 0, locals := 10451 }
abbrev rm_PP_node : Room := { frames := 13, cells := 0, slots := 0, locals := 10429 }
abbrev rm_Lw_path : Room := { frames := 14, cells := 0, slots := 0, locals := 10450 }
abbrev rm_PP_path : Room := { frames := 13, cells := 0, slots := 0, locals := 10429 }
abbrev rm_Lw_input : Room := { frames := 14, cells := 0, slots := 0, locals := 10450 }
abbrev rm_PP_input : Room := { frames := 13, cells := 0, slots := 0, locals := 10429 }
abbrev rm_Mo_init : Room := { frames := 1, cells := 0, slots := 0, locals := 20 }
abbrev rm_Mo_thrown : Room := { frames := 0, cells := 0, slots := 0, locals := 0 }
abbrev rm_Mo_type : Room := { frames := 0, cells := 0, slots := 0, locals := 0 }
abbrev rm_Mo_wipe : Room := { frames := 0, cells := 0, slots := 0, locals := 0 }
abbrev rm_Mo_edge : Room := { frames := 4, cells := 0, slots := 0, locals := 96 }
abbrev rm_Mo_at : Room := { frames := 0, cells := 0, slots := 0, locals := 0 }
abbrev rm_Mo_isLocation : Room := { frames := 0, cells := 0, slots := 0, locals := 0 }
abbrev rm_Mo_fail : Room := { frames := 0, cells := 0, slots := 0, locals := 0 }
abbrev rm_Mo_isVariable : Room := { frames := 0, cells := 0, slots := 0, locals := 0 }
abbrev rm_Mo_relationAt : Room := { frames := 2, cells := 0, slots := 0, locals := 47 }
abbrev rm_Mo_termEnd : Room := { frames := 1, cells := 0, slots := 0, locals := 21 }
abbrev rm_Mo_isSign : Room := { frames := 0, cells := 0, slots := 0, locals := 0 }
abbrev rm_Mo_isRelation : Room := { frames := 0, cells := 0, slots := 0, locals := 0 }
abbrev rm_Mo_worked : Room := { frames := 2, cells := 0, slots := 0, locals := 44 }
abbrev rm_Mo_join : Room := { frames := 0, cells := 0, slots := 0, locals := 0 }
abbrev rm_Mo_part : Room := { frames := 1, cells := 0, slots := 0, locals := 22 }
abbrev rm_Mo_valueOf : Room := { frames := 0, cells := 0, slots := 0, locals := 0 }
abbrev rm_Mo_atom : Room := { frames := 3, cells := 0, slots := 0, locals := 71 }
abbrev rm_Mo_forget : Room := { frames := 0, cells := 0, slots := 0, locals := 0 }
abbrev rm_Mo_predicate : Room := { frames := 4, cells := 0, slots := 0, locals := 96 }
abbrev rm_Mo_addWork : Room := { frames := 0, cells := 0, slots := 0, locals := 0 }
abbrev rm_Mo_clear : Room := { frames := 1, cells := 0, slots := 0, locals := 20 }
abbrev rm_Mo_prove : Room := { frames := 6, cells := 0, slots := 0, locals := 138 }
abbrev rm_Mo_search : Room := { frames := 4, cells := 0, slots := 0, locals := 91 }
abbrev rm_Mo_spread : Room := { frames := 3, cells := 0, slots := 0, locals := 68 }
abbrev rm_Mo_mark : Room := { frames := 2, cells := 0, slots := 0, locals := 45 }
abbrev rm_Mo_led : Room := { frames := 1, cells := 0, slots := 0, locals := 23 }
abbrev rm_Mo_bit : Room := { frames := 0, cells := 0, slots := 0, locals := 0 }
abbrev rm_Mo_with : Room := { frames := 0, cells := 0, slots := 0, locals := 0 }
abbrev rm_Mo_isOn : Room := { frames := 1, cells := 0, slots := 0, locals := 22 }
abbrev rm_Mo_known : Room := { frames := 0, cells := 0, slots := 0, locals := 0 }
abbrev rm_Mo_isTrue : Room := { frames := 4, cells := 0, slots := 0, locals := 91 }
abbrev rm_Mo_store : Room := { frames := 0, cells := 0, slots := 0, locals := 0 }
abbrev rm_Mo_before : Room := { frames := 3, cells := 0, slots := 0, locals := 69 }
abbrev rm_Mo_leadsIn : Room := { frames := 2, cells := 0, slots := 0, locals := 45 }
abbrev rm_Mo_isIn : Room := { frames := 1, cells := 0, slots := 0, locals := 22 }
abbrev rm_Mo_refine : Room := { frames := 5, cells := 0, slots := 0, locals := 114 }
abbrev rm_Mo_along : Room := { frames := 4, cells := 0, slots := 0, locals := 91 }
abbrev rm_Mo_fetch : Room := { frames := 2, cells := 0, slots := 0, locals := 44 }
abbrev rm_Mo_hangsOn : Room := { frames := 1, cells := 0, slots := 0, locals := 23 }
abbrev rm_Mo_offer : Room := { frames := 1, cells := 0, slots := 0, locals := 22 }
abbrev rm_Mo_splits : Room := { frames := 0, cells := 0, slots := 0, locals := 0 }
abbrev rm_Mo_outcome : Room := { frames := 0, cells := 0, slots := 0, locals := 0 }
abbrev rm_Mo_edges : Room := { frames := 0, cells := 0, slots := 0, locals := 0 }
abbrev rm_Mo_predicates : Room := { frames := 0, cells := 0, slots := 0, locals := 0 }
abbrev rm_Mo_holds : Room := { frames := 1, cells := 0, slots := 0, locals := 22 }
abbrev rm_Mo_isState : Room := { frames := 0, cells := 0, slots := 0, locals := 0 }
abbrev rm_Mo_signature : Room := { frames := 1, cells := 0, slots := 0, locals := 21 }
abbrev rm_Mo_follow : Room := { frames := 2, cells := 0, slots := 0, locals := 45 }
abbrev rm_Mo_nodes : Room := { frames := 0, cells := 0, slots := 0, locals := 0 }
abbrev rm_Mo_node : Room := { frames := 1, cells := 0, slots := 0, locals := 21 }
abbrev rm_Mo_length : Room := { frames := 0, cells := 0, slots := 0, locals := 0 }
abbrev rm_Mo_path : Room := { frames := 1, cells := 0, slots := 0, locals := 21 }
abbrev rm_Mo_input : Room := { frames := 1, cells := 0, slots := 0, locals := 21 }
theorem gG {c0 : Cond} {y : MethodName} {bytes : ByteArray} {maxL : Nat} {ret : Option FieldType} (h : Cond.code y bytes maxL ret ∈ WT) : GoodIn (c0 :: WT) (Cond.code y bytes maxL ret :: WT) := fun w hw => by
  rcases List.mem_cons.mp hw with h1 | h2
  · rw [h1]; exact ⟨List.mem_cons_of_mem _ h, WT_good _ h⟩
  · exact ⟨List.mem_cons_of_mem _ h2, WT_good _ h2⟩
def gMV (y : MethodName) (bytes : ByteArray) (maxL : Nat) (ret : Option FieldType) (n : Nat) : Prop := Cond.code y bytes maxL ret ∈ WT ∧ Cond.instanceMethod y ∈ WT ∧ Cond.selects y.cls y y ∈ WT ∧ Cond.initialized y.cls ∈ WT ∧ y.cls ≠ "java/lang/invoke/MethodHandle" ∧ y.cls ≠ "java/lang/invoke/VarHandle" ∧ (parseMethodDescriptor y.desc).map (fun d => d.parameters.length) = some n
def gMS (y : MethodName) (bytes : ByteArray) (maxL : Nat) (ret : Option FieldType) (n : Nat) : Prop := Cond.code y bytes maxL ret ∈ WT ∧ Cond.static y ∈ WT ∧ Cond.initialized y.cls ∈ WT ∧ y.cls ≠ "java/lang/invoke/MethodHandle" ∧ y.cls ≠ "java/lang/invoke/VarHandle" ∧ (parseMethodDescriptor y.desc).map (fun d => d.parameters.length) = some n
section GXC
variable {p : Program} {l : Launch} {e : Env} {R : Room} {s : State} {m : MethodId} {args : Array Value} {below : List Frame} {meth : Method} {c : Code} {Q : State → Prop} {nL cells slots pc : Nat} {A : Nat → Prop} {D : va_G} {cl : List vw_C} {ca : Nat → ClassId} {ks : List Nat} {lay : Nat → gxE} {ad : Nat → Nat}
variable {ls : List (Nat × xV)} {st : List xV} {F : Nat → Nat → Int32} {L : Nat → Nat → Int64} {cc : ByteArray} {own : String} {c0 : Cond} {post : Option xV → (Nat → Nat → Int32) → (Nat → Nat → Int64) → Prop}
/-- a call of an instance method of ours, private or not -/
theorem gx_callV (X : GC p s m args meth c cc nL own (c0 :: WT) A D cl ca ks ad) {index n maxL k N ci : Nat} {y : MethodName} {bytes : ByteArray} {ret : Option FieldType} {rm : Room} {av rest st0 : List xV} {T : u_T} {fs : List (Option Nat)}
    (d : decode cc pc = .ok (.invokevirtual index, 3)) (hm : gMV y bytes maxL ret n) (hlink : Cond.methodLink own index y ∈ WT) (hcon : Con l y (Cond.code y bytes maxL ret :: WT) rm D cl ca ks lay ad (xR k :: av) F L post)
    (hk : k ∈ ks) (hlay : lay k = Sum.inl (ci, fs)) (hc : cl[ci]? = some (y.cls, T, N)) (hn : av.length = n) (hst : st0 = av.reverse ++ xR k :: rest) (h8 : (rest.map (fun v => cond (gxis v) 2 1)).sum ≤ 8) (hR : rm.frames + 1 ≤ R.frames ∧ 8 + (maxL + 11) + rm.locals ≤ R.locals) (hrc : rm.cells = 0 ∧ rm.slots = 0) (hcs : cells ≤ R.cells ∧ slots ≤ R.slots)
    (kk : ∀ (r : Option xV) (F' : Nat → Nat → Int32) (L' : Nat → Nat → Int64), post r F' L' → GX p l e R s m args below meth c Q nL A D cl ca ks lay ad cells slots (pc + 3) ls (r.toList ++ rest) F' L') : GX p l e R s m args below meth c Q nL A D cl ca ks lay ad cells slots pc ls st0 F L := by
  subst hst
  obtain ⟨hcode, him, hsel, hini, hd1, hd2, hd3⟩ := hm
  have hts := X.1.2.2.2.2
  have ok : ∀ w, w ∈ WT → w.before args s = true := fun w h => hts w (List.mem_cons_of_mem _ h)
  refine gx_go X (post := post) (a := (Value.ref (ad k) :: av.map (gxv ad)).toArray) (rest := rest) (fun H locs la hsz hP => ?_) kk
  obtain ⟨q, hq⟩ := List.getElem?_of_mem hk
  have ha := gxw_at (lay := lay) (ca := ca) (ad := ad) (F := F) (L := L) hq
  rw [hlay] at ha
  have ha : (gxw ks lay ca ad F L)[q]? = some (ad k, .inr (ci, gxfl ad (F k) 0 fs)) := ha
  have hrecv := va_recv X.2.1 hP hc ha
  have cw : CallW R s args own y.cls index y bytes maxL ret (Cond.code y bytes maxL ret :: WT) rm 0 0 n := ⟨callB_of n hts (gG hcode) rfl hrc.1 hrc.2 (ok _ hini) (ok _ hlink) ⟨hd1, hd2, hd3⟩ hR, ok _ him, ok _ hsel⟩
  exact va_runV (g := F0 m pc la ((av.reverse ++ xR k :: rest).map (gxv ad))) X.1 (hcon H.size) cw ⟨gxP_blind (av := xR k :: av), hrecv, fun U hU hW => gxP_at X (av := xR k :: av) hP U hU hW⟩ rfl (by rw [List.length_map]; exact hn) hsz (by simp [gxv]) (gx_cat8 h8) d (by simpa using hcs)
/-- a call of a static method -/
theorem gx_callS (X : GC p s m args meth c cc nL own (c0 :: WT) A D cl ca ks ad) {index n maxL : Nat} {y : MethodName} {bytes : ByteArray} {ret : Option FieldType} {rm : Room} {av rest st0 : List xV}
    (d : decode cc pc = .ok (.invokestatic index, 3)) (hm : gMS y bytes maxL ret n) (hlink : Cond.methodLink own index y ∈ WT) (hcon : Con l y (Cond.code y bytes maxL ret :: WT) rm D cl ca ks lay ad av F L post)
    (hn : av.length = n) (hst : st0 = av.reverse ++ rest) (h8 : (rest.map (fun v => cond (gxis v) 2 1)).sum ≤ 8) (hR : rm.frames + 1 ≤ R.frames ∧ 8 + (maxL + 11) + rm.locals ≤ R.locals) (hrc : rm.cells = 0 ∧ rm.slots = 0) (hcs : cells ≤ R.cells ∧ slots ≤ R.slots)
    (kk : ∀ (r : Option xV) (F' : Nat → Nat → Int32) (L' : Nat → Nat → Int64), post r F' L' → GX p l e R s m args below meth c Q nL A D cl ca ks lay ad cells slots (pc + 3) ls (r.toList ++ rest) F' L') : GX p l e R s m args below meth c Q nL A D cl ca ks lay ad cells slots pc ls st0 F L := by
  subst hst
  obtain ⟨hcode, hstt, hini, hd1, hd2, hd3⟩ := hm
  have hts := X.1.2.2.2.2
  have ok : ∀ w, w ∈ WT → w.before args s = true := fun w h => hts w (List.mem_cons_of_mem _ h)
  refine gx_go X (post := post) (a := (av.map (gxv ad)).toArray) (rest := rest) (fun H locs la hsz hP => ?_) kk
  have cw : CallB R s args own index y bytes maxL ret (Cond.code y bytes maxL ret :: WT) rm 0 0 n ∧ (Cond.static y).before args s = true := ⟨callB_of n hts (gG hcode) rfl hrc.1 hrc.2 (ok _ hini) (ok _ hlink) ⟨hd1, hd2, hd3⟩ hR, ok _ hstt⟩
  exact va_runS (g := F0 m pc la ((av.reverse ++ rest).map (gxv ad))) X.1 (hcon H.size) cw ⟨gxP_blind (av := av), fun U hU hW => gxP_at X (av := av) hP U hU hW⟩ rfl (by rw [List.length_map]; exact hn) hsz (by simp) (gx_cat8 h8) d (by simpa using hcs)
end GXC
theorem mf_Gr_numberGroups : gMV y_Gr_numberGroups b_Gr_numberGroups 3 none 0 := ⟨wc_Gr_numberGroups, wm_Gr_numberGroups, ws_Gr_numberGroups, wi_Gr, by decide, by decide, by decide +kernel⟩
theorem mf_Ar_fill_aIIII : gMS y_Ar_fill_aIIII b_Ar_fill_aIIII 5 none 4 := ⟨wc_Ar_fill_aIIII, wt_Ar_fill_aIIII, wi_Ar, by decide, by decide, by decide +kernel⟩
theorem mf_Ar_rangeCheck : gMS y_Ar_rangeCheck b_Ar_rangeCheck 3 none 3 := ⟨wc_Ar_rangeCheck, wt_Ar_rangeCheck, wi_Ar, by decide, by decide, by decide +kernel⟩
theorem mf_Gr_placeStates : gMV y_Gr_placeStates b_Gr_placeStates 3 none 0 := ⟨wc_Gr_placeStates, wm_Gr_placeStates, ws_Gr_placeStates, wi_Gr, by decide, by decide, by decide +kernel⟩
theorem mf_Ar_fill_aII : gMS y_Ar_fill_aII b_Ar_fill_aII 4 none 2 := ⟨wc_Ar_fill_aII, wt_Ar_fill_aII, wi_Ar, by decide, by decide, by decide +kernel⟩
theorem mf_PP_type : gMV y_PP_type b_PP_type 2 (some .int) 1 := ⟨wc_PP_type, wm_PP_type, ws_PP_type, wi_PP, by decide, by decide, by decide +kernel⟩
theorem mf_Li_append : gMV y_Li_append b_Li_append 2 (some .int) 1 := ⟨wc_Li_append, wm_Li_append, ws_Li_append, wi_Li, by decide, by decide, by decide +kernel⟩
theorem mf_PP_wipe : gMV y_PP_wipe b_PP_wipe 1 none 0 := ⟨wc_PP_wipe, wm_PP_wipe, ws_PP_wipe, wi_PP, by decide, by decide, by decide +kernel⟩
theorem mf_Li_makeEmpty : gMV y_Li_makeEmpty b_Li_makeEmpty 1 none 0 := ⟨wc_Li_makeEmpty, wm_Li_makeEmpty, ws_Li_makeEmpty, wi_Li, by decide, by decide, by decide +kernel⟩
theorem mf_PP_clear : gMV y_PP_clear b_PP_clear 1 none 0 := ⟨wc_PP_clear, wm_PP_clear, ws_PP_clear, wi_PP, by decide, by decide, by decide +kernel⟩
theorem mf_Gr_dropPredicates : gMV y_Gr_dropPredicates b_Gr_dropPredicates 1 none 0 := ⟨wc_Gr_dropPredicates, wm_Gr_dropPredicates, ws_Gr_dropPredicates, wi_Gr, by decide, by decide, by decide +kernel⟩
theorem mf_PP_forgetSearch : gMV y_PP_forgetSearch b_PP_forgetSearch 1 none 0 := ⟨wc_PP_forgetSearch, wm_PP_forgetSearch, ws_PP_forgetSearch, wi_PP, by decide, by decide, by decide +kernel⟩
theorem mf_Se_forget : gMV y_Se_forget b_Se_forget 1 none 0 := ⟨wc_Se_forget, wm_Se_forget, ws_Se_forget, wi_Se, by decide, by decide, by decide +kernel⟩
theorem mf_Re_forget : gMV y_Re_forget b_Re_forget 1 none 0 := ⟨wc_Re_forget, wm_Re_forget, ws_Re_forget, wi_Re, by decide, by decide, by decide +kernel⟩
theorem mf_PP_outcome : gMV y_PP_outcome b_PP_outcome 1 (some .int) 0 := ⟨wc_PP_outcome, wm_PP_outcome, ws_PP_outcome, wi_PP, by decide, by decide, by decide +kernel⟩
theorem mf_PP_edges : gMV y_PP_edges b_PP_edges 1 (some .int) 0 := ⟨wc_PP_edges, wm_PP_edges, ws_PP_edges, wi_PP, by decide, by decide, by decide +kernel⟩
theorem mf_PP_predicates : gMV y_PP_predicates b_PP_predicates 1 (some .int) 0 := ⟨wc_PP_predicates, wm_PP_predicates, ws_PP_predicates, wi_PP, by decide, by decide, by decide +kernel⟩
theorem mf_PP_nodes : gMV y_PP_nodes b_PP_nodes 1 (some .int) 0 := ⟨wc_PP_nodes, wm_PP_nodes, ws_PP_nodes, wi_PP, by decide, by decide, by decide +kernel⟩
theorem mf_PP_length : gMV y_PP_length b_PP_length 1 (some .int) 0 := ⟨wc_PP_length, wm_PP_length, ws_PP_length, wi_PP, by decide, by decide, by decide +kernel⟩
theorem mf_Lw_cell : gMS y_Lw_cell b_Lw_cell 2 (some .int) 2 := ⟨wc_Lw_cell, wt_Lw_cell, wi_Lw, by decide, by decide, by decide +kernel⟩
theorem mf_PP_edge : gMV y_PP_edge b_PP_edge 3 (some .int) 0 := ⟨wc_PP_edge, wm_PP_edge, ws_PP_edge, wi_PP, by decide, by decide, by decide +kernel⟩
theorem mf_Pa_readEdge : gMV y_Pa_readEdge b_Pa_readEdge 1 (some .int) 0 := ⟨wc_Pa_readEdge, wm_Pa_readEdge, ws_Pa_readEdge, wi_Pa, by decide, by decide, by decide +kernel⟩
theorem mf_Li_at : gMV y_Li_at b_Li_at 2 (some .char) 1 := ⟨wc_Li_at, wm_Li_at, ws_Li_at, wi_Li, by decide, by decide, by decide +kernel⟩
theorem mf_Pa_isLocation : gMS y_Pa_isLocation b_Pa_isLocation 1 (some .boolean) 1 := ⟨wc_Pa_isLocation, wt_Pa_isLocation, wi_Pa, by decide, by decide, by decide +kernel⟩
theorem mf_Fo_isVariable : gMS y_Fo_isVariable b_Fo_isVariable 1 (some .boolean) 1 := ⟨wc_Fo_isVariable, wt_Fo_isVariable, wi_Fo, by decide, by decide, by decide +kernel⟩
theorem mf_Pa_readTerm : gMV y_Pa_readTerm b_Pa_readTerm 2 (some .boolean) 1 := ⟨wc_Pa_readTerm, wm_Pa_readTerm, ws_Pa_readTerm, wi_Pa, by decide, by decide, by decide +kernel⟩
theorem mf_Fo_begin : gMV y_Fo_begin b_Fo_begin 1 none 0 := ⟨wc_Fo_begin, wm_Fo_begin, ws_Fo_begin, wi_Fo, by decide, by decide, by decide +kernel⟩
theorem mf_Pa_passTerm : gMV y_Pa_passTerm b_Pa_passTerm 4 (some .boolean) 1 := ⟨wc_Pa_passTerm, wm_Pa_passTerm, ws_Pa_passTerm, wi_Pa, by decide, by decide, by decide +kernel⟩
theorem mf_Pa_passPart : gMV y_Pa_passPart b_Pa_passPart 3 (some .boolean) 1 := ⟨wc_Pa_passPart, wm_Pa_passPart, ws_Pa_passPart, wi_Pa, by decide, by decide, by decide +kernel⟩
theorem mf_Fo_isDigit : gMS y_Fo_isDigit b_Fo_isDigit 1 (some .boolean) 1 := ⟨wc_Fo_isDigit, wt_Fo_isDigit, wi_Fo, by decide, by decide, by decide +kernel⟩
theorem mf_Fo_add : gMV y_Fo_add b_Fo_add 2 none 1 := ⟨wc_Fo_add, wm_Fo_add, ws_Fo_add, wi_Fo, by decide, by decide, by decide +kernel⟩
theorem mf_Pa_isOperator : gMS y_Pa_isOperator b_Pa_isOperator 1 (some .boolean) 1 := ⟨wc_Pa_isOperator, wt_Pa_isOperator, wi_Pa, by decide, by decide, by decide +kernel⟩
theorem mf_Pa_readAtom : gMV y_Pa_readAtom b_Pa_readAtom 3 (some .boolean) 1 := ⟨wc_Pa_readAtom, wm_Pa_readAtom, ws_Pa_readAtom, wi_Pa, by decide, by decide, by decide +kernel⟩
theorem mf_Pa_isComparison : gMS y_Pa_isComparison b_Pa_isComparison 1 (some .boolean) 1 := ⟨wc_Pa_isComparison, wt_Pa_isComparison, wi_Pa, by decide, by decide, by decide +kernel⟩
theorem mf_Pr_isFull : gMV y_Pr_isFull b_Pr_isFull 1 (some .boolean) 0 := ⟨wc_Pr_isFull, wm_Pr_isFull, ws_Pr_isFull, wi_Pr, by decide, by decide, by decide +kernel⟩
theorem mf_Pr_add : gMV y_Pr_add b_Pr_add 6 (some .int) 3 := ⟨wc_Pr_add, wm_Pr_add, ws_Pr_add, wi_Pr, by decide, by decide, by decide +kernel⟩
theorem mf_Pr_targetOf : gMV y_Pr_targetOf b_Pr_targetOf 5 (some .int) 3 := ⟨wc_Pr_targetOf, wm_Pr_targetOf, ws_Pr_targetOf, wi_Pr, by decide, by decide, by decide +kernel⟩
theorem mf_Sp_write : gMV y_Sp_write b_Sp_write 5 (some .int) 3 := ⟨wc_Sp_write, wm_Sp_write, ws_Sp_write, wi_Sp, by decide, by decide, by decide +kernel⟩
theorem mf_Fo_valueIn : gMV y_Fo_valueIn b_Fo_valueIn 5 (some .int) 1 := ⟨wc_Fo_valueIn, wm_Fo_valueIn, ws_Fo_valueIn, wi_Fo, by decide, by decide, by decide +kernel⟩
theorem mf_Sp_read : gMV y_Sp_read b_Sp_read 3 (some .int) 2 := ⟨wc_Sp_read, wm_Sp_read, ws_Sp_read, wi_Sp, by decide, by decide, by decide +kernel⟩
theorem mf_Fo_combine : gMS y_Fo_combine b_Fo_combine 3 (some .int) 3 := ⟨wc_Fo_combine, wt_Fo_combine, wi_Fo, by decide, by decide, by decide +kernel⟩
theorem mf_PP_predicate : gMV y_PP_predicate b_PP_predicate 3 (some .int) 0 := ⟨wc_PP_predicate, wm_PP_predicate, ws_PP_predicate, wi_PP, by decide, by decide, by decide +kernel⟩
theorem mf_Gr_isFull : gMV y_Gr_isFull b_Gr_isFull 1 (some .boolean) 0 := ⟨wc_Gr_isFull, wm_Gr_isFull, ws_Gr_isFull, wi_Gr, by decide, by decide, by decide +kernel⟩
theorem mf_Gr_include : gMV y_Gr_include b_Gr_include 2 none 1 := ⟨wc_Gr_include, wm_Gr_include, ws_Gr_include, wi_Gr, by decide, by decide, by decide +kernel⟩
theorem mf_Gr_endPredicate : gMV y_Gr_endPredicate b_Gr_endPredicate 1 none 0 := ⟨wc_Gr_endPredicate, wm_Gr_endPredicate, ws_Gr_endPredicate, wi_Gr, by decide, by decide, by decide +kernel⟩
theorem mf_PP_prove : gMV y_PP_prove b_PP_prove 3 (some .int) 1 := ⟨wc_PP_prove, wm_PP_prove, ws_PP_prove, wi_PP, by decide, by decide, by decide +kernel⟩
theorem mf_PP_makeRound : gMV y_PP_makeRound b_PP_makeRound 1 (some .int) 0 := ⟨wc_PP_makeRound, wm_PP_makeRound, ws_PP_makeRound, wi_PP, by decide, by decide, by decide +kernel⟩
theorem mf_Se_run : gMV y_Se_run b_Se_run 4 none 0 := ⟨wc_Se_run, wm_Se_run, ws_Se_run, wi_Se, by decide, by decide, by decide +kernel⟩
theorem mf_Ar_fill_aBB : gMS y_Ar_fill_aBB b_Ar_fill_aBB 4 none 2 := ⟨wc_Ar_fill_aBB, wt_Ar_fill_aBB, wi_Ar, by decide, by decide, by decide +kernel⟩
theorem mf_Se_addNode : gMV y_Se_addNode b_Se_addNode 5 none 4 := ⟨wc_Se_addNode, wm_Se_addNode, ws_Se_addNode, wi_Se, by decide, by decide, by decide +kernel⟩
theorem mf_Gr_signatureOf : gMV y_Gr_signatureOf b_Gr_signatureOf 2 (some .int) 1 := ⟨wc_Gr_signatureOf, wm_Gr_signatureOf, ws_Gr_signatureOf, wi_Gr, by decide, by decide, by decide +kernel⟩
theorem mf_Se_take : gMV y_Se_take b_Se_take 5 (some .boolean) 2 := ⟨wc_Se_take, wm_Se_take, ws_Se_take, wi_Se, by decide, by decide, by decide +kernel⟩
theorem mf_Se_markReached : gMV y_Se_markReached b_Se_markReached 7 none 2 := ⟨wc_Se_markReached, wm_Se_markReached, ws_Se_markReached, wi_Se, by decide, by decide, by decide +kernel⟩
theorem mf_Ar_fill_aBIIB : gMS y_Ar_fill_aBIIB b_Ar_fill_aBIIB 5 none 4 := ⟨wc_Ar_fill_aBIIB, wt_Ar_fill_aBIIB, wi_Ar, by decide, by decide, by decide +kernel⟩
theorem mf_Pr_choices : gMV y_Pr_choices b_Pr_choices 2 (some .int) 1 := ⟨wc_Pr_choices, wm_Pr_choices, ws_Pr_choices, wi_Pr, by decide, by decide, by decide +kernel⟩
theorem mf_Pr_step : gMV y_Pr_step b_Pr_step 5 (some .int) 3 := ⟨wc_Pr_step, wm_Pr_step, ws_Pr_step, wi_Pr, by decide, by decide, by decide +kernel⟩
theorem mf_Se_tracePath : gMV y_Se_tracePath b_Se_tracePath 4 none 1 := ⟨wc_Se_tracePath, wm_Se_tracePath, ws_Se_tracePath, wi_Se, by decide, by decide, by decide +kernel⟩
theorem mf_Re_succeeds : gMV y_Re_succeeds b_Re_succeeds 2 (some .boolean) 0 := ⟨wc_Re_succeeds, wm_Re_succeeds, ws_Re_succeeds, wi_Re, by decide, by decide, by decide +kernel⟩
theorem mf_Ar_fill_aJJ : gMS y_Ar_fill_aJJ b_Ar_fill_aJJ 5 none 2 := ⟨wc_Ar_fill_aJJ, wt_Ar_fill_aJJ, wi_Ar, by decide, by decide, by decide +kernel⟩
theorem mf_Re_openBefore : gMV y_Re_openBefore b_Re_openBefore 3 none 1 := ⟨wc_Re_openBefore, wm_Re_openBefore, ws_Re_openBefore, wi_Re, by decide, by decide, by decide +kernel⟩
theorem mf_Re_leastInput : gMV y_Re_leastInput b_Re_leastInput 7 (some .int) 2 := ⟨wc_Re_leastInput, wm_Re_leastInput, ws_Re_leastInput, wi_Re, by decide, by decide, by decide +kernel⟩
theorem mf_Re_isOpen : gMV y_Re_isOpen b_Re_isOpen 3 (some .boolean) 2 := ⟨wc_Re_isOpen, wm_Re_isOpen, ws_Re_isOpen, wi_Re, by decide, by decide, by decide +kernel⟩
theorem mf_Re_collectInputs : gMV y_Re_collectInputs b_Re_collectInputs 5 none 0 := ⟨wc_Re_collectInputs, wm_Re_collectInputs, ws_Re_collectInputs, wi_Re, by decide, by decide, by decide +kernel⟩
theorem mf_Rf_refine : gMV y_Rf_refine b_Rf_refine 3 (some .boolean) 0 := ⟨wc_Rf_refine, wm_Rf_refine, ws_Rf_refine, wi_Rf, by decide, by decide, by decide +kernel⟩
theorem mf_Rf_passEdge : gMV y_Rf_passEdge b_Rf_passEdge 4 none 1 := ⟨wc_Rf_passEdge, wm_Rf_passEdge, ws_Rf_passEdge, wi_Rf, by decide, by decide, by decide +kernel⟩
theorem mf_Rf_takeAlong : gMV y_Rf_takeAlong b_Rf_takeAlong 5 none 1 := ⟨wc_Rf_takeAlong, wm_Rf_takeAlong, ws_Rf_takeAlong, wi_Rf, by decide, by decide, by decide +kernel⟩
theorem mf_Rf_rowsInUse : gMV y_Rf_rowsInUse b_Rf_rowsInUse 1 (some .int) 0 := ⟨wc_Rf_rowsInUse, wm_Rf_rowsInUse, ws_Rf_rowsInUse, wi_Rf, by decide, by decide, by decide +kernel⟩
theorem mf_Rf_pullBack : gMV y_Rf_pullBack b_Rf_pullBack 4 none 2 := ⟨wc_Rf_pullBack, wm_Rf_pullBack, ws_Rf_pullBack, wi_Rf, by decide, by decide, by decide +kernel⟩
theorem mf_Rf_leaveBehind : gMV y_Rf_leaveBehind b_Rf_leaveBehind 6 none 2 := ⟨wc_Rf_leaveBehind, wm_Rf_leaveBehind, ws_Rf_leaveBehind, wi_Rf, by decide, by decide, by decide +kernel⟩
theorem mf_Rf_adoptTaken : gMV y_Rf_adoptTaken b_Rf_adoptTaken 5 (some .boolean) 0 := ⟨wc_Rf_adoptTaken, wm_Rf_adoptTaken, ws_Rf_adoptTaken, wi_Rf, by decide, by decide, by decide +kernel⟩
theorem mf_Gr_splitting : gMV y_Gr_splitting b_Gr_splitting 5 (some .long) 1 := ⟨wc_Gr_splitting, wm_Gr_splitting, ws_Gr_splitting, wi_Gr, by decide, by decide, by decide +kernel⟩
theorem mf_Rf_adopt : gMV y_Rf_adopt b_Rf_adopt 4 none 2 := ⟨wc_Rf_adopt, wm_Rf_adopt, ws_Rf_adopt, wi_Rf, by decide, by decide, by decide +kernel⟩
theorem mf_Rf_adoptVariableBit : gMV y_Rf_adoptVariableBit b_Rf_adoptVariableBit 4 (some .boolean) 0 := ⟨wc_Rf_adoptVariableBit, wm_Rf_adoptVariableBit, ws_Rf_adoptVariableBit, wi_Rf, by decide, by decide, by decide +kernel⟩
theorem mf_PP_holds : gMV y_PP_holds b_PP_holds 3 (some .boolean) 2 := ⟨wc_PP_holds, wm_PP_holds, ws_PP_holds, wi_PP, by decide, by decide, by decide +kernel⟩
theorem mf_Sp_contains : gMV y_Sp_contains b_Sp_contains 2 (some .boolean) 1 := ⟨wc_Sp_contains, wm_Sp_contains, ws_Sp_contains, wi_Sp, by decide, by decide, by decide +kernel⟩
theorem mf_PP_signature : gMV y_PP_signature b_PP_signature 2 (some .short) 1 := ⟨wc_PP_signature, wm_PP_signature, ws_PP_signature, wi_PP, by decide, by decide, by decide +kernel⟩
theorem mf_PP_follow : gMV y_PP_follow b_PP_follow 4 (some .int) 3 := ⟨wc_PP_follow, wm_PP_follow, ws_PP_follow, wi_PP, by decide, by decide, by decide +kernel⟩
theorem mf_PP_node : gMV y_PP_node b_PP_node 3 (some .int) 2 := ⟨wc_PP_node, wm_PP_node, ws_PP_node, wi_PP, by decide, by decide, by decide +kernel⟩
theorem mf_PP_path : gMV y_PP_path b_PP_path 2 (some .int) 1 := ⟨wc_PP_path, wm_PP_path, ws_PP_path, wi_PP, by decide, by decide, by decide +kernel⟩
theorem mf_PP_input : gMV y_PP_input b_PP_input 2 (some .int) 1 := ⟨wc_PP_input, wm_PP_input, ws_PP_input, wi_PP, by decide, by decide, by decide +kernel⟩
theorem mf_Mo_thrown : gMV y_Mo_thrown b_Mo_thrown 1 (some .int) 0 := ⟨wc_Mo_thrown, wm_Mo_thrown, ws_Mo_thrown, wi_Mo, by decide, by decide, by decide +kernel⟩
theorem mf_Mo_type : gMV y_Mo_type b_Mo_type 2 (some .int) 1 := ⟨wc_Mo_type, wm_Mo_type, ws_Mo_type, wi_Mo, by decide, by decide, by decide +kernel⟩
theorem mf_Mo_wipe : gMV y_Mo_wipe b_Mo_wipe 1 none 0 := ⟨wc_Mo_wipe, wm_Mo_wipe, ws_Mo_wipe, wi_Mo, by decide, by decide, by decide +kernel⟩
theorem mf_Mo_edge : gMV y_Mo_edge b_Mo_edge 9 (some .int) 0 := ⟨wc_Mo_edge, wm_Mo_edge, ws_Mo_edge, wi_Mo, by decide, by decide, by decide +kernel⟩
theorem mf_Mo_at : gMV y_Mo_at b_Mo_at 2 (some .int) 1 := ⟨wc_Mo_at, wm_Mo_at, ws_Mo_at, wi_Mo, by decide, by decide, by decide +kernel⟩
theorem mf_Mo_isLocation : gMS y_Mo_isLocation b_Mo_isLocation 1 (some .boolean) 1 := ⟨wc_Mo_isLocation, wt_Mo_isLocation, wi_Mo, by decide, by decide, by decide +kernel⟩
theorem mf_Mo_fail : gMV y_Mo_fail b_Mo_fail 2 (some .int) 1 := ⟨wc_Mo_fail, wm_Mo_fail, ws_Mo_fail, wi_Mo, by decide, by decide, by decide +kernel⟩
theorem mf_Mo_isVariable : gMS y_Mo_isVariable b_Mo_isVariable 1 (some .boolean) 1 := ⟨wc_Mo_isVariable, wt_Mo_isVariable, wi_Mo, by decide, by decide, by decide +kernel⟩
theorem mf_Mo_relationAt : gMV y_Mo_relationAt b_Mo_relationAt 3 (some .int) 1 := ⟨wc_Mo_relationAt, wm_Mo_relationAt, ws_Mo_relationAt, wi_Mo, by decide, by decide, by decide +kernel⟩
theorem mf_Mo_termEnd : gMV y_Mo_termEnd b_Mo_termEnd 7 (some .int) 1 := ⟨wc_Mo_termEnd, wm_Mo_termEnd, ws_Mo_termEnd, wi_Mo, by decide, by decide, by decide +kernel⟩
theorem mf_Mo_isSign : gMS y_Mo_isSign b_Mo_isSign 1 (some .boolean) 1 := ⟨wc_Mo_isSign, wt_Mo_isSign, wi_Mo, by decide, by decide, by decide +kernel⟩
theorem mf_Mo_isRelation : gMS y_Mo_isRelation b_Mo_isRelation 1 (some .boolean) 1 := ⟨wc_Mo_isRelation, wt_Mo_isRelation, wi_Mo, by decide, by decide, by decide +kernel⟩
theorem mf_Mo_worked : gMV y_Mo_worked b_Mo_worked 8 (some .int) 3 := ⟨wc_Mo_worked, wm_Mo_worked, ws_Mo_worked, wi_Mo, by decide, by decide, by decide +kernel⟩
theorem mf_Mo_join : gMV y_Mo_join b_Mo_join 5 none 2 := ⟨wc_Mo_join, wm_Mo_join, ws_Mo_join, wi_Mo, by decide, by decide, by decide +kernel⟩
theorem mf_Mo_part : gMV y_Mo_part b_Mo_part 3 (some .int) 2 := ⟨wc_Mo_part, wm_Mo_part, ws_Mo_part, wi_Mo, by decide, by decide, by decide +kernel⟩
theorem mf_Mo_valueOf : gMV y_Mo_valueOf b_Mo_valueOf 3 (some .int) 2 := ⟨wc_Mo_valueOf, wm_Mo_valueOf, ws_Mo_valueOf, wi_Mo, by decide, by decide, by decide +kernel⟩
theorem mf_Mo_atom : gMV y_Mo_atom b_Mo_atom 6 (some .boolean) 3 := ⟨wc_Mo_atom, wm_Mo_atom, ws_Mo_atom, wi_Mo, by decide, by decide, by decide +kernel⟩
theorem mf_Mo_forget : gMV y_Mo_forget b_Mo_forget 1 none 0 := ⟨wc_Mo_forget, wm_Mo_forget, ws_Mo_forget, wi_Mo, by decide, by decide, by decide +kernel⟩
theorem mf_Mo_predicate : gMV y_Mo_predicate b_Mo_predicate 3 (some .int) 0 := ⟨wc_Mo_predicate, wm_Mo_predicate, ws_Mo_predicate, wi_Mo, by decide, by decide, by decide +kernel⟩
theorem mf_Mo_addWork : gMV y_Mo_addWork b_Mo_addWork 2 none 0 := ⟨wc_Mo_addWork, wm_Mo_addWork, ws_Mo_addWork, wi_Mo, by decide, by decide, by decide +kernel⟩
theorem mf_Mo_clear : gMV y_Mo_clear b_Mo_clear 2 none 0 := ⟨wc_Mo_clear, wm_Mo_clear, ws_Mo_clear, wi_Mo, by decide, by decide, by decide +kernel⟩
theorem mf_Mo_prove : gMV y_Mo_prove b_Mo_prove 5 (some .int) 1 := ⟨wc_Mo_prove, wm_Mo_prove, ws_Mo_prove, wi_Mo, by decide, by decide, by decide +kernel⟩
theorem mf_Mo_search : gMV y_Mo_search b_Mo_search 4 none 0 := ⟨wc_Mo_search, wm_Mo_search, ws_Mo_search, wi_Mo, by decide, by decide, by decide +kernel⟩
theorem mf_Mo_spread : gMV y_Mo_spread b_Mo_spread 4 (some .boolean) 2 := ⟨wc_Mo_spread, wm_Mo_spread, ws_Mo_spread, wi_Mo, by decide, by decide, by decide +kernel⟩
theorem mf_Mo_mark : gMV y_Mo_mark b_Mo_mark 4 none 2 := ⟨wc_Mo_mark, wm_Mo_mark, ws_Mo_mark, wi_Mo, by decide, by decide, by decide +kernel⟩
theorem mf_Mo_led : gMV y_Mo_led b_Mo_led 3 (some .int) 2 := ⟨wc_Mo_led, wm_Mo_led, ws_Mo_led, wi_Mo, by decide, by decide, by decide +kernel⟩
theorem mf_Mo_bit : gMS y_Mo_bit b_Mo_bit 3 (some .int) 3 := ⟨wc_Mo_bit, wt_Mo_bit, wi_Mo, by decide, by decide, by decide +kernel⟩
theorem mf_Mo_with : gMV y_Mo_with b_Mo_with 4 (some .int) 3 := ⟨wc_Mo_with, wm_Mo_with, ws_Mo_with, wi_Mo, by decide, by decide, by decide +kernel⟩
theorem mf_Mo_isOn : gMV y_Mo_isOn b_Mo_isOn 3 (some .boolean) 2 := ⟨wc_Mo_isOn, wm_Mo_isOn, ws_Mo_isOn, wi_Mo, by decide, by decide, by decide +kernel⟩
theorem mf_Mo_known : gMV y_Mo_known b_Mo_known 4 (some .boolean) 2 := ⟨wc_Mo_known, wm_Mo_known, ws_Mo_known, wi_Mo, by decide, by decide, by decide +kernel⟩
theorem mf_Mo_isTrue : gMV y_Mo_isTrue b_Mo_isTrue 5 (some .boolean) 0 := ⟨wc_Mo_isTrue, wm_Mo_isTrue, ws_Mo_isTrue, wi_Mo, by decide, by decide, by decide +kernel⟩
theorem mf_Mo_store : gMV y_Mo_store b_Mo_store 3 none 1 := ⟨wc_Mo_store, wm_Mo_store, ws_Mo_store, wi_Mo, by decide, by decide, by decide +kernel⟩
theorem mf_Mo_before : gMV y_Mo_before b_Mo_before 3 none 1 := ⟨wc_Mo_before, wm_Mo_before, ws_Mo_before, wi_Mo, by decide, by decide, by decide +kernel⟩
theorem mf_Mo_leadsIn : gMV y_Mo_leadsIn b_Mo_leadsIn 5 (some .boolean) 2 := ⟨wc_Mo_leadsIn, wm_Mo_leadsIn, ws_Mo_leadsIn, wi_Mo, by decide, by decide, by decide +kernel⟩
theorem mf_Mo_isIn : gMV y_Mo_isIn b_Mo_isIn 3 (some .boolean) 2 := ⟨wc_Mo_isIn, wm_Mo_isIn, ws_Mo_isIn, wi_Mo, by decide, by decide, by decide +kernel⟩
theorem mf_Mo_refine : gMV y_Mo_refine b_Mo_refine 5 (some .int) 0 := ⟨wc_Mo_refine, wm_Mo_refine, ws_Mo_refine, wi_Mo, by decide, by decide, by decide +kernel⟩
theorem mf_Mo_along : gMV y_Mo_along b_Mo_along 4 none 1 := ⟨wc_Mo_along, wm_Mo_along, ws_Mo_along, wi_Mo, by decide, by decide, by decide +kernel⟩
theorem mf_Mo_fetch : gMV y_Mo_fetch b_Mo_fetch 3 none 1 := ⟨wc_Mo_fetch, wm_Mo_fetch, ws_Mo_fetch, wi_Mo, by decide, by decide, by decide +kernel⟩
theorem mf_Mo_hangsOn : gMV y_Mo_hangsOn b_Mo_hangsOn 4 (some .boolean) 1 := ⟨wc_Mo_hangsOn, wm_Mo_hangsOn, ws_Mo_hangsOn, wi_Mo, by decide, by decide, by decide +kernel⟩
theorem mf_Mo_offer : gMV y_Mo_offer b_Mo_offer 1 (some .int) 0 := ⟨wc_Mo_offer, wm_Mo_offer, ws_Mo_offer, wi_Mo, by decide, by decide, by decide +kernel⟩
theorem mf_Mo_splits : gMV y_Mo_splits b_Mo_splits 3 (some .boolean) 0 := ⟨wc_Mo_splits, wm_Mo_splits, ws_Mo_splits, wi_Mo, by decide, by decide, by decide +kernel⟩
theorem mf_Mo_outcome : gMV y_Mo_outcome b_Mo_outcome 1 (some .int) 0 := ⟨wc_Mo_outcome, wm_Mo_outcome, ws_Mo_outcome, wi_Mo, by decide, by decide, by decide +kernel⟩
theorem mf_Mo_edges : gMV y_Mo_edges b_Mo_edges 1 (some .int) 0 := ⟨wc_Mo_edges, wm_Mo_edges, ws_Mo_edges, wi_Mo, by decide, by decide, by decide +kernel⟩
theorem mf_Mo_predicates : gMV y_Mo_predicates b_Mo_predicates 1 (some .int) 0 := ⟨wc_Mo_predicates, wm_Mo_predicates, ws_Mo_predicates, wi_Mo, by decide, by decide, by decide +kernel⟩
theorem mf_Mo_holds : gMV y_Mo_holds b_Mo_holds 3 (some .boolean) 2 := ⟨wc_Mo_holds, wm_Mo_holds, ws_Mo_holds, wi_Mo, by decide, by decide, by decide +kernel⟩
theorem mf_Mo_isState : gMV y_Mo_isState b_Mo_isState 2 (some .boolean) 1 := ⟨wc_Mo_isState, wm_Mo_isState, ws_Mo_isState, wi_Mo, by decide, by decide, by decide +kernel⟩
theorem mf_Mo_signature : gMV y_Mo_signature b_Mo_signature 2 (some .short) 1 := ⟨wc_Mo_signature, wm_Mo_signature, ws_Mo_signature, wi_Mo, by decide, by decide, by decide +kernel⟩
theorem mf_Mo_follow : gMV y_Mo_follow b_Mo_follow 4 (some .int) 3 := ⟨wc_Mo_follow, wm_Mo_follow, ws_Mo_follow, wi_Mo, by decide, by decide, by decide +kernel⟩
theorem mf_Mo_nodes : gMV y_Mo_nodes b_Mo_nodes 1 (some .int) 0 := ⟨wc_Mo_nodes, wm_Mo_nodes, ws_Mo_nodes, wi_Mo, by decide, by decide, by decide +kernel⟩
theorem mf_Mo_node : gMV y_Mo_node b_Mo_node 3 (some .int) 2 := ⟨wc_Mo_node, wm_Mo_node, ws_Mo_node, wi_Mo, by decide, by decide, by decide +kernel⟩
theorem mf_Mo_length : gMV y_Mo_length b_Mo_length 1 (some .int) 0 := ⟨wc_Mo_length, wm_Mo_length, ws_Mo_length, wi_Mo, by decide, by decide, by decide +kernel⟩
theorem mf_Mo_path : gMV y_Mo_path b_Mo_path 2 (some .int) 1 := ⟨wc_Mo_path, wm_Mo_path, ws_Mo_path, wi_Mo, by decide, by decide, by decide +kernel⟩
theorem mf_Mo_input : gMV y_Mo_input b_Mo_input 2 (some .int) 1 := ⟨wc_Mo_input, wm_Mo_input, ws_Mo_input, wi_Mo, by decide, by decide, by decide +kernel⟩
end
section
theorem d_PP_init_0 : decode b_PP_init 0 = .ok (.aload_n 0, 1) := by decide +kernel
theorem d_PP_init_1 : decode b_PP_init 1 = .ok (.invokespecial 1, 3) := by decide +kernel
theorem d_PP_init_4 : decode b_PP_init 4 = .ok (.new 7, 3) := by decide +kernel
theorem d_PP_init_7 : decode b_PP_init 7 = .ok (.dup, 1) := by decide +kernel
theorem d_PP_init_8 : decode b_PP_init 8 = .ok (.iload_n 1, 1) := by decide +kernel
theorem d_PP_init_9 : decode b_PP_init 9 = .ok (.invokespecial 9, 3) := by decide +kernel
theorem d_PP_init_12 : decode b_PP_init 12 = .ok (.astore_n 2, 1) := by decide +kernel
theorem d_PP_init_13 : decode b_PP_init 13 = .ok (.new 12, 3) := by decide +kernel
theorem d_PP_init_16 : decode b_PP_init 16 = .ok (.dup, 1) := by decide +kernel
theorem d_PP_init_17 : decode b_PP_init 17 = .ok (.invokespecial 14, 3) := by decide +kernel
theorem d_PP_init_20 : decode b_PP_init 20 = .ok (.astore_n 3, 1) := by decide +kernel
theorem d_PP_init_21 : decode b_PP_init 21 = .ok (.new 15, 3) := by decide +kernel
theorem d_PP_init_24 : decode b_PP_init 24 = .ok (.dup, 1) := by decide +kernel
theorem d_PP_init_25 : decode b_PP_init 25 = .ok (.aload_n 2, 1) := by decide +kernel
theorem d_PP_init_26 : decode b_PP_init 26 = .ok (.invokespecial 17, 3) := by decide +kernel
theorem d_PP_init_29 : decode b_PP_init 29 = .ok (.astore 4, 2) := by decide +kernel
theorem d_PP_init_31 : decode b_PP_init 31 = .ok (.new 20, 3) := by decide +kernel
theorem d_PP_init_34 : decode b_PP_init 34 = .ok (.dup, 1) := by decide +kernel
theorem d_PP_init_35 : decode b_PP_init 35 = .ok (.aload_n 2, 1) := by decide +kernel
theorem d_PP_init_36 : decode b_PP_init 36 = .ok (.invokespecial 22, 3) := by decide +kernel
theorem d_PP_init_39 : decode b_PP_init 39 = .ok (.astore 5, 2) := by decide +kernel
theorem d_PP_init_41 : decode b_PP_init 41 = .ok (.new 23, 3) := by decide +kernel
theorem d_PP_init_44 : decode b_PP_init 44 = .ok (.dup, 1) := by decide +kernel
theorem d_PP_init_45 : decode b_PP_init 45 = .ok (.aload_n 2, 1) := by decide +kernel
theorem d_PP_init_46 : decode b_PP_init 46 = .ok (.invokespecial 25, 3) := by decide +kernel
theorem d_PP_init_49 : decode b_PP_init 49 = .ok (.astore 6, 2) := by decide +kernel
theorem d_PP_init_51 : decode b_PP_init 51 = .ok (.new 26, 3) := by decide +kernel
theorem d_PP_init_54 : decode b_PP_init 54 = .ok (.dup, 1) := by decide +kernel
theorem d_PP_init_55 : decode b_PP_init 55 = .ok (.aload_n 2, 1) := by decide +kernel
theorem d_PP_init_56 : decode b_PP_init 56 = .ok (.aload 5, 2) := by decide +kernel
theorem d_PP_init_58 : decode b_PP_init 58 = .ok (.aload 6, 2) := by decide +kernel
theorem d_PP_init_60 : decode b_PP_init 60 = .ok (.invokespecial 28, 3) := by decide +kernel
theorem d_PP_init_63 : decode b_PP_init 63 = .ok (.astore 7, 2) := by decide +kernel
theorem d_PP_init_65 : decode b_PP_init 65 = .ok (.aload_n 0, 1) := by decide +kernel
theorem d_PP_init_66 : decode b_PP_init 66 = .ok (.aload_n 2, 1) := by decide +kernel
theorem d_PP_init_67 : decode b_PP_init 67 = .ok (.putfield 31, 3) := by decide +kernel
theorem d_PP_init_70 : decode b_PP_init 70 = .ok (.aload_n 0, 1) := by decide +kernel
theorem d_PP_init_71 : decode b_PP_init 71 = .ok (.aload_n 3, 1) := by decide +kernel
theorem d_PP_init_72 : decode b_PP_init 72 = .ok (.putfield 37, 3) := by decide +kernel
theorem d_PP_init_75 : decode b_PP_init 75 = .ok (.aload_n 0, 1) := by decide +kernel
theorem d_PP_init_76 : decode b_PP_init 76 = .ok (.aload 4, 2) := by decide +kernel
theorem d_PP_init_78 : decode b_PP_init 78 = .ok (.putfield 41, 3) := by decide +kernel
theorem d_PP_init_81 : decode b_PP_init 81 = .ok (.aload_n 0, 1) := by decide +kernel
theorem d_PP_init_82 : decode b_PP_init 82 = .ok (.new 45, 3) := by decide +kernel
theorem d_PP_init_85 : decode b_PP_init 85 = .ok (.dup, 1) := by decide +kernel
theorem d_PP_init_86 : decode b_PP_init 86 = .ok (.aload_n 3, 1) := by decide +kernel
theorem d_PP_init_87 : decode b_PP_init 87 = .ok (.aload 4, 2) := by decide +kernel
theorem d_PP_init_89 : decode b_PP_init 89 = .ok (.invokespecial 47, 3) := by decide +kernel
theorem d_PP_init_92 : decode b_PP_init 92 = .ok (.putfield 50, 3) := by decide +kernel
theorem d_PP_init_95 : decode b_PP_init 95 = .ok (.aload_n 0, 1) := by decide +kernel
theorem d_PP_init_96 : decode b_PP_init 96 = .ok (.aload 5, 2) := by decide +kernel
theorem d_PP_init_98 : decode b_PP_init 98 = .ok (.putfield 54, 3) := by decide +kernel
theorem d_PP_init_101 : decode b_PP_init 101 = .ok (.aload_n 0, 1) := by decide +kernel
theorem d_PP_init_102 : decode b_PP_init 102 = .ok (.aload 6, 2) := by decide +kernel
theorem d_PP_init_104 : decode b_PP_init 104 = .ok (.putfield 58, 3) := by decide +kernel
theorem d_PP_init_107 : decode b_PP_init 107 = .ok (.aload_n 0, 1) := by decide +kernel
theorem d_PP_init_108 : decode b_PP_init 108 = .ok (.aload 7, 2) := by decide +kernel
theorem d_PP_init_110 : decode b_PP_init 110 = .ok (.putfield 62, 3) := by decide +kernel
theorem d_PP_init_113 : decode b_PP_init 113 = .ok (.aload_n 0, 1) := by decide +kernel
theorem d_PP_init_114 : decode b_PP_init 114 = .ok (.new 66, 3) := by decide +kernel
theorem d_PP_init_117 : decode b_PP_init 117 = .ok (.dup, 1) := by decide +kernel
theorem d_PP_init_118 : decode b_PP_init 118 = .ok (.aload_n 2, 1) := by decide +kernel
theorem d_PP_init_119 : decode b_PP_init 119 = .ok (.aload 5, 2) := by decide +kernel
theorem d_PP_init_121 : decode b_PP_init 121 = .ok (.aload 7, 2) := by decide +kernel
theorem d_PP_init_123 : decode b_PP_init 123 = .ok (.invokespecial 68, 3) := by decide +kernel
theorem d_PP_init_126 : decode b_PP_init 126 = .ok (.putfield 71, 3) := by decide +kernel
theorem d_PP_init_129 : decode b_PP_init 129 = .ok (.aload_n 0, 1) := by decide +kernel
theorem d_PP_init_130 : decode b_PP_init 130 = .ok (.new 75, 3) := by decide +kernel
theorem d_PP_init_133 : decode b_PP_init 133 = .ok (.dup, 1) := by decide +kernel
theorem d_PP_init_134 : decode b_PP_init 134 = .ok (.aload_n 2, 1) := by decide +kernel
theorem d_PP_init_135 : decode b_PP_init 135 = .ok (.aload 5, 2) := by decide +kernel
theorem d_PP_init_137 : decode b_PP_init 137 = .ok (.aload 6, 2) := by decide +kernel
theorem d_PP_init_139 : decode b_PP_init 139 = .ok (.aload 7, 2) := by decide +kernel
theorem d_PP_init_141 : decode b_PP_init 141 = .ok (.invokespecial 77, 3) := by decide +kernel
theorem d_PP_init_144 : decode b_PP_init 144 = .ok (.putfield 80, 3) := by decide +kernel
theorem d_PP_init_147 : decode b_PP_init 147 = .ok (.aload_n 0, 1) := by decide +kernel
theorem d_PP_init_148 : decode b_PP_init 148 = .ok (.iconst (-1), 1) := by decide +kernel
theorem d_PP_init_149 : decode b_PP_init 149 = .ok (.putfield 84, 3) := by decide +kernel
theorem d_PP_init_152 : decode b_PP_init 152 = .ok (.return_, 1) := by decide +kernel
theorem d_Sp_init_0 : decode b_Sp_init 0 = .ok (.aload_n 0, 1) := by decide +kernel
theorem d_Sp_init_1 : decode b_Sp_init 1 = .ok (.invokespecial 3, 3) := by decide +kernel
theorem d_Sp_init_4 : decode b_Sp_init 4 = .ok (.iconst 1, 1) := by decide +kernel
theorem d_Sp_init_5 : decode b_Sp_init 5 = .ok (.iload_n 1, 1) := by decide +kernel
theorem d_Sp_init_6 : decode b_Sp_init 6 = .ok (.iconst 3, 1) := by decide +kernel
theorem d_Sp_init_7 : decode b_Sp_init 7 = .ok (.iand, 1) := by decide +kernel
theorem d_Sp_init_8 : decode b_Sp_init 8 = .ok (.iadd, 1) := by decide +kernel
theorem d_Sp_init_9 : decode b_Sp_init 9 = .ok (.istore_n 2, 1) := by decide +kernel
theorem d_Sp_init_10 : decode b_Sp_init 10 = .ok (.aload_n 0, 1) := by decide +kernel
theorem d_Sp_init_11 : decode b_Sp_init 11 = .ok (.iload_n 2, 1) := by decide +kernel
theorem d_Sp_init_12 : decode b_Sp_init 12 = .ok (.iconst 3, 1) := by decide +kernel
theorem d_Sp_init_13 : decode b_Sp_init 13 = .ok (.if_icmp .le 7, 3) := by decide +kernel
theorem d_Sp_init_16 : decode b_Sp_init 16 = .ok (.iconst 3, 1) := by decide +kernel
theorem d_Sp_init_17 : decode b_Sp_init 17 = .ok (.goto 4, 3) := by decide +kernel
theorem d_Sp_init_20 : decode b_Sp_init 20 = .ok (.iload_n 2, 1) := by decide +kernel
theorem d_Sp_init_21 : decode b_Sp_init 21 = .ok (.putfield 9, 3) := by decide +kernel
theorem d_Sp_init_24 : decode b_Sp_init 24 = .ok (.aload_n 0, 1) := by decide +kernel
theorem d_Sp_init_25 : decode b_Sp_init 25 = .ok (.iconst 1, 1) := by decide +kernel
theorem d_Sp_init_26 : decode b_Sp_init 26 = .ok (.aload_n 0, 1) := by decide +kernel
theorem d_Sp_init_27 : decode b_Sp_init 27 = .ok (.getfield 9, 3) := by decide +kernel
theorem d_Sp_init_30 : decode b_Sp_init 30 = .ok (.ishl, 1) := by decide +kernel
theorem d_Sp_init_31 : decode b_Sp_init 31 = .ok (.iconst 1, 1) := by decide +kernel
theorem d_Sp_init_32 : decode b_Sp_init 32 = .ok (.isub, 1) := by decide +kernel
theorem d_Sp_init_33 : decode b_Sp_init 33 = .ok (.putfield 15, 3) := by decide +kernel
theorem d_Sp_init_36 : decode b_Sp_init 36 = .ok (.aload_n 0, 1) := by decide +kernel
theorem d_Sp_init_37 : decode b_Sp_init 37 = .ok (.iconst 1, 1) := by decide +kernel
theorem d_Sp_init_38 : decode b_Sp_init 38 = .ok (.iconst 3, 1) := by decide +kernel
theorem d_Sp_init_39 : decode b_Sp_init 39 = .ok (.aload_n 0, 1) := by decide +kernel
theorem d_Sp_init_40 : decode b_Sp_init 40 = .ok (.getfield 9, 3) := by decide +kernel
theorem d_Sp_init_43 : decode b_Sp_init 43 = .ok (.imul, 1) := by decide +kernel
theorem d_Sp_init_44 : decode b_Sp_init 44 = .ok (.ishl, 1) := by decide +kernel
theorem d_Sp_init_45 : decode b_Sp_init 45 = .ok (.putfield 18, 3) := by decide +kernel
theorem d_Sp_init_48 : decode b_Sp_init 48 = .ok (.return_, 1) := by decide +kernel
theorem d_Li_init_0 : decode b_Li_init 0 = .ok (.aload_n 0, 1) := by decide +kernel
theorem d_Li_init_1 : decode b_Li_init 1 = .ok (.invokespecial 3, 3) := by decide +kernel
theorem d_Li_init_4 : decode b_Li_init 4 = .ok (.aload_n 0, 1) := by decide +kernel
theorem d_Li_init_5 : decode b_Li_init 5 = .ok (.bipush 24, 2) := by decide +kernel
theorem d_Li_init_7 : decode b_Li_init 7 = .ok (.newarray .char, 2) := by decide +kernel
theorem d_Li_init_9 : decode b_Li_init 9 = .ok (.putfield 9, 3) := by decide +kernel
theorem d_Li_init_12 : decode b_Li_init 12 = .ok (.aload_n 0, 1) := by decide +kernel
theorem d_Li_init_13 : decode b_Li_init 13 = .ok (.iconst 0, 1) := by decide +kernel
theorem d_Li_init_14 : decode b_Li_init 14 = .ok (.putfield 15, 3) := by decide +kernel
theorem d_Li_init_17 : decode b_Li_init 17 = .ok (.return_, 1) := by decide +kernel
theorem d_Fo_init_0 : decode b_Fo_init 0 = .ok (.aload_n 0, 1) := by decide +kernel
theorem d_Fo_init_1 : decode b_Fo_init 1 = .ok (.invokespecial 3, 3) := by decide +kernel
theorem d_Fo_init_4 : decode b_Fo_init 4 = .ok (.aload_n 0, 1) := by decide +kernel
theorem d_Fo_init_5 : decode b_Fo_init 5 = .ok (.bipush 24, 2) := by decide +kernel
theorem d_Fo_init_7 : decode b_Fo_init 7 = .ok (.newarray .char, 2) := by decide +kernel
theorem d_Fo_init_9 : decode b_Fo_init 9 = .ok (.putfield 9, 3) := by decide +kernel
theorem d_Fo_init_12 : decode b_Fo_init 12 = .ok (.aload_n 0, 1) := by decide +kernel
theorem d_Fo_init_13 : decode b_Fo_init 13 = .ok (.bipush 24, 2) := by decide +kernel
theorem d_Fo_init_15 : decode b_Fo_init 15 = .ok (.newarray .int, 2) := by decide +kernel
theorem d_Fo_init_17 : decode b_Fo_init 17 = .ok (.putfield 15, 3) := by decide +kernel
theorem d_Fo_init_20 : decode b_Fo_init 20 = .ok (.aload_n 0, 1) := by decide +kernel
theorem d_Fo_init_21 : decode b_Fo_init 21 = .ok (.iconst 0, 1) := by decide +kernel
theorem d_Fo_init_22 : decode b_Fo_init 22 = .ok (.putfield 19, 3) := by decide +kernel
theorem d_Fo_init_25 : decode b_Fo_init 25 = .ok (.aload_n 0, 1) := by decide +kernel
theorem d_Fo_init_26 : decode b_Fo_init 26 = .ok (.aload_n 1, 1) := by decide +kernel
theorem d_Fo_init_27 : decode b_Fo_init 27 = .ok (.putfield 23, 3) := by decide +kernel
theorem d_Fo_init_30 : decode b_Fo_init 30 = .ok (.return_, 1) := by decide +kernel
theorem d_Pr_init_0 : decode b_Pr_init 0 = .ok (.aload_n 0, 1) := by decide +kernel
theorem d_Pr_init_1 : decode b_Pr_init 1 = .ok (.invokespecial 3, 3) := by decide +kernel
theorem d_Pr_init_4 : decode b_Pr_init 4 = .ok (.aload_n 0, 1) := by decide +kernel
theorem d_Pr_init_5 : decode b_Pr_init 5 = .ok (.bipush 20, 2) := by decide +kernel
theorem d_Pr_init_7 : decode b_Pr_init 7 = .ok (.newarray .int, 2) := by decide +kernel
theorem d_Pr_init_9 : decode b_Pr_init 9 = .ok (.putfield 9, 3) := by decide +kernel
theorem d_Pr_init_12 : decode b_Pr_init 12 = .ok (.aload_n 0, 1) := by decide +kernel
theorem d_Pr_init_13 : decode b_Pr_init 13 = .ok (.bipush 20, 2) := by decide +kernel
theorem d_Pr_init_15 : decode b_Pr_init 15 = .ok (.newarray .int, 2) := by decide +kernel
theorem d_Pr_init_17 : decode b_Pr_init 17 = .ok (.putfield 15, 3) := by decide +kernel
theorem d_Pr_init_20 : decode b_Pr_init 20 = .ok (.aload_n 0, 1) := by decide +kernel
theorem d_Pr_init_21 : decode b_Pr_init 21 = .ok (.bipush 20, 2) := by decide +kernel
theorem d_Pr_init_23 : decode b_Pr_init 23 = .ok (.newarray .int, 2) := by decide +kernel
theorem d_Pr_init_25 : decode b_Pr_init 25 = .ok (.putfield 18, 3) := by decide +kernel
theorem d_Pr_init_28 : decode b_Pr_init 28 = .ok (.aload_n 0, 1) := by decide +kernel
theorem d_Pr_init_29 : decode b_Pr_init 29 = .ok (.bipush 20, 2) := by decide +kernel
theorem d_Pr_init_31 : decode b_Pr_init 31 = .ok (.newarray .int, 2) := by decide +kernel
theorem d_Pr_init_33 : decode b_Pr_init 33 = .ok (.putfield 21, 3) := by decide +kernel
theorem d_Pr_init_36 : decode b_Pr_init 36 = .ok (.aload_n 0, 1) := by decide +kernel
theorem d_Pr_init_37 : decode b_Pr_init 37 = .ok (.iconst 0, 1) := by decide +kernel
theorem d_Pr_init_38 : decode b_Pr_init 38 = .ok (.putfield 24, 3) := by decide +kernel
theorem d_Pr_init_41 : decode b_Pr_init 41 = .ok (.aload_n 0, 1) := by decide +kernel
theorem d_Pr_init_42 : decode b_Pr_init 42 = .ok (.aload_n 1, 1) := by decide +kernel
theorem d_Pr_init_43 : decode b_Pr_init 43 = .ok (.putfield 28, 3) := by decide +kernel
theorem d_Pr_init_46 : decode b_Pr_init 46 = .ok (.aload_n 0, 1) := by decide +kernel
theorem d_Pr_init_47 : decode b_Pr_init 47 = .ok (.bipush 20, 2) := by decide +kernel
theorem d_Pr_init_49 : decode b_Pr_init 49 = .ok (.aload_n 1, 1) := by decide +kernel
theorem d_Pr_init_50 : decode b_Pr_init 50 = .ok (.getfield 32, 3) := by decide +kernel
theorem d_Pr_init_53 : decode b_Pr_init 53 = .ok (.multianewarray 37 2, 4) := by decide +kernel
theorem d_Pr_init_57 : decode b_Pr_init 57 = .ok (.putfield 39, 3) := by decide +kernel
theorem d_Pr_init_60 : decode b_Pr_init 60 = .ok (.return_, 1) := by decide +kernel
theorem d_Gr_init_0 : decode b_Gr_init 0 = .ok (.aload_n 0, 1) := by decide +kernel
theorem d_Gr_init_1 : decode b_Gr_init 1 = .ok (.invokespecial 3, 3) := by decide +kernel
theorem d_Gr_init_4 : decode b_Gr_init 4 = .ok (.aload_n 0, 1) := by decide +kernel
theorem d_Gr_init_5 : decode b_Gr_init 5 = .ok (.iconst 0, 1) := by decide +kernel
theorem d_Gr_init_6 : decode b_Gr_init 6 = .ok (.putfield 9, 3) := by decide +kernel
theorem d_Gr_init_9 : decode b_Gr_init 9 = .ok (.aload_n 0, 1) := by decide +kernel
theorem d_Gr_init_10 : decode b_Gr_init 10 = .ok (.iconst 0, 1) := by decide +kernel
theorem d_Gr_init_11 : decode b_Gr_init 11 = .ok (.putfield 15, 3) := by decide +kernel
theorem d_Gr_init_14 : decode b_Gr_init 14 = .ok (.aload_n 0, 1) := by decide +kernel
theorem d_Gr_init_15 : decode b_Gr_init 15 = .ok (.sipush 4096, 3) := by decide +kernel
theorem d_Gr_init_18 : decode b_Gr_init 18 = .ok (.newarray .int, 2) := by decide +kernel
theorem d_Gr_init_20 : decode b_Gr_init 20 = .ok (.putfield 18, 3) := by decide +kernel
theorem d_Gr_init_23 : decode b_Gr_init 23 = .ok (.aload_n 0, 1) := by decide +kernel
theorem d_Gr_init_24 : decode b_Gr_init 24 = .ok (.aload_n 1, 1) := by decide +kernel
theorem d_Gr_init_25 : decode b_Gr_init 25 = .ok (.putfield 22, 3) := by decide +kernel
theorem d_Gr_init_28 : decode b_Gr_init 28 = .ok (.aload_n 0, 1) := by decide +kernel
theorem d_Gr_init_29 : decode b_Gr_init 29 = .ok (.aload_n 1, 1) := by decide +kernel
theorem d_Gr_init_30 : decode b_Gr_init 30 = .ok (.getfield 26, 3) := by decide +kernel
theorem d_Gr_init_33 : decode b_Gr_init 33 = .ok (.newarray .int, 2) := by decide +kernel
theorem d_Gr_init_35 : decode b_Gr_init 35 = .ok (.putfield 31, 3) := by decide +kernel
theorem d_Gr_init_38 : decode b_Gr_init 38 = .ok (.aload_n 0, 1) := by decide +kernel
theorem d_Gr_init_39 : decode b_Gr_init 39 = .ok (.aload_n 1, 1) := by decide +kernel
theorem d_Gr_init_40 : decode b_Gr_init 40 = .ok (.getfield 26, 3) := by decide +kernel
theorem d_Gr_init_43 : decode b_Gr_init 43 = .ok (.newarray .int, 2) := by decide +kernel
theorem d_Gr_init_45 : decode b_Gr_init 45 = .ok (.putfield 34, 3) := by decide +kernel
theorem d_Gr_init_48 : decode b_Gr_init 48 = .ok (.aload_n 0, 1) := by decide +kernel
theorem d_Gr_init_49 : decode b_Gr_init 49 = .ok (.aload_n 1, 1) := by decide +kernel
theorem d_Gr_init_50 : decode b_Gr_init 50 = .ok (.getfield 26, 3) := by decide +kernel
theorem d_Gr_init_53 : decode b_Gr_init 53 = .ok (.newarray .int, 2) := by decide +kernel
theorem d_Gr_init_55 : decode b_Gr_init 55 = .ok (.putfield 37, 3) := by decide +kernel
theorem d_Gr_init_58 : decode b_Gr_init 58 = .ok (.aload_n 0, 1) := by decide +kernel
theorem d_Gr_init_59 : decode b_Gr_init 59 = .ok (.aload_n 1, 1) := by decide +kernel
theorem d_Gr_init_60 : decode b_Gr_init 60 = .ok (.getfield 26, 3) := by decide +kernel
theorem d_Gr_init_63 : decode b_Gr_init 63 = .ok (.iconst 1, 1) := by decide +kernel
theorem d_Gr_init_64 : decode b_Gr_init 64 = .ok (.iadd, 1) := by decide +kernel
theorem d_Gr_init_65 : decode b_Gr_init 65 = .ok (.newarray .int, 2) := by decide +kernel
theorem d_Gr_init_67 : decode b_Gr_init 67 = .ok (.putfield 40, 3) := by decide +kernel
theorem d_Gr_init_70 : decode b_Gr_init 70 = .ok (.aload_n 0, 1) := by decide +kernel
theorem d_Gr_init_71 : decode b_Gr_init 71 = .ok (.invokevirtual 43, 3) := by decide +kernel
theorem d_Gr_init_74 : decode b_Gr_init 74 = .ok (.aload_n 0, 1) := by decide +kernel
theorem d_Gr_init_75 : decode b_Gr_init 75 = .ok (.invokevirtual 46, 3) := by decide +kernel
theorem d_Gr_init_78 : decode b_Gr_init 78 = .ok (.return_, 1) := by decide +kernel
theorem d_Gr_numberGroups_0 : decode b_Gr_numberGroups 0 = .ok (.iconst 1, 1) := by decide +kernel
theorem d_Gr_numberGroups_1 : decode b_Gr_numberGroups 1 = .ok (.aload_n 0, 1) := by decide +kernel
theorem d_Gr_numberGroups_2 : decode b_Gr_numberGroups 2 = .ok (.getfield 9, 3) := by decide +kernel
theorem d_Gr_numberGroups_5 : decode b_Gr_numberGroups 5 = .ok (.ishl, 1) := by decide +kernel
theorem d_Gr_numberGroups_6 : decode b_Gr_numberGroups 6 = .ok (.istore_n 1, 1) := by decide +kernel
theorem d_Gr_numberGroups_7 : decode b_Gr_numberGroups 7 = .ok (.aload_n 0, 1) := by decide +kernel
theorem d_Gr_numberGroups_8 : decode b_Gr_numberGroups 8 = .ok (.getfield 18, 3) := by decide +kernel
theorem d_Gr_numberGroups_11 : decode b_Gr_numberGroups 11 = .ok (.iconst 0, 1) := by decide +kernel
theorem d_Gr_numberGroups_12 : decode b_Gr_numberGroups 12 = .ok (.iload_n 1, 1) := by decide +kernel
theorem d_Gr_numberGroups_13 : decode b_Gr_numberGroups 13 = .ok (.iconst (-1), 1) := by decide +kernel
theorem d_Gr_numberGroups_14 : decode b_Gr_numberGroups 14 = .ok (.invokestatic 55, 3) := by decide +kernel
theorem d_Gr_numberGroups_17 : decode b_Gr_numberGroups 17 = .ok (.iconst 0, 1) := by decide +kernel
theorem d_Gr_numberGroups_18 : decode b_Gr_numberGroups 18 = .ok (.istore_n 2, 1) := by decide +kernel
theorem d_Gr_numberGroups_19 : decode b_Gr_numberGroups 19 = .ok (.iload_n 2, 1) := by decide +kernel
theorem d_Gr_numberGroups_20 : decode b_Gr_numberGroups 20 = .ok (.aload_n 0, 1) := by decide +kernel
theorem d_Gr_numberGroups_21 : decode b_Gr_numberGroups 21 = .ok (.getfield 22, 3) := by decide +kernel
theorem d_Gr_numberGroups_24 : decode b_Gr_numberGroups 24 = .ok (.getfield 26, 3) := by decide +kernel
theorem d_Gr_numberGroups_27 : decode b_Gr_numberGroups 27 = .ok (.if_icmp .ge 21, 3) := by decide +kernel
theorem d_Gr_numberGroups_30 : decode b_Gr_numberGroups 30 = .ok (.aload_n 0, 1) := by decide +kernel
theorem d_Gr_numberGroups_31 : decode b_Gr_numberGroups 31 = .ok (.getfield 18, 3) := by decide +kernel
theorem d_Gr_numberGroups_34 : decode b_Gr_numberGroups 34 = .ok (.aload_n 0, 1) := by decide +kernel
theorem d_Gr_numberGroups_35 : decode b_Gr_numberGroups 35 = .ok (.getfield 31, 3) := by decide +kernel
theorem d_Gr_numberGroups_38 : decode b_Gr_numberGroups 38 = .ok (.iload_n 2, 1) := by decide +kernel
theorem d_Gr_numberGroups_39 : decode b_Gr_numberGroups 39 = .ok (.iaload, 1) := by decide +kernel
theorem d_Gr_numberGroups_40 : decode b_Gr_numberGroups 40 = .ok (.iconst 0, 1) := by decide +kernel
theorem d_Gr_numberGroups_41 : decode b_Gr_numberGroups 41 = .ok (.iastore, 1) := by decide +kernel
theorem d_Gr_numberGroups_42 : decode b_Gr_numberGroups 42 = .ok (.iinc 2 1, 3) := by decide +kernel
theorem d_Gr_numberGroups_45 : decode b_Gr_numberGroups 45 = .ok (.goto (-26), 3) := by decide +kernel
theorem d_Gr_numberGroups_48 : decode b_Gr_numberGroups 48 = .ok (.aload_n 0, 1) := by decide +kernel
theorem d_Gr_numberGroups_49 : decode b_Gr_numberGroups 49 = .ok (.iconst 0, 1) := by decide +kernel
theorem d_Gr_numberGroups_50 : decode b_Gr_numberGroups 50 = .ok (.putfield 15, 3) := by decide +kernel
theorem d_Gr_numberGroups_53 : decode b_Gr_numberGroups 53 = .ok (.iconst 0, 1) := by decide +kernel
theorem d_Gr_numberGroups_54 : decode b_Gr_numberGroups 54 = .ok (.istore_n 2, 1) := by decide +kernel
theorem d_Gr_numberGroups_55 : decode b_Gr_numberGroups 55 = .ok (.iload_n 2, 1) := by decide +kernel
theorem d_Gr_numberGroups_56 : decode b_Gr_numberGroups 56 = .ok (.iload_n 1, 1) := by decide +kernel
theorem d_Gr_numberGroups_57 : decode b_Gr_numberGroups 57 = .ok (.if_icmp .ge 38, 3) := by decide +kernel
theorem d_Gr_numberGroups_60 : decode b_Gr_numberGroups 60 = .ok (.aload_n 0, 1) := by decide +kernel
theorem d_Gr_numberGroups_61 : decode b_Gr_numberGroups 61 = .ok (.getfield 18, 3) := by decide +kernel
theorem d_Gr_numberGroups_64 : decode b_Gr_numberGroups 64 = .ok (.iload_n 2, 1) := by decide +kernel
theorem d_Gr_numberGroups_65 : decode b_Gr_numberGroups 65 = .ok (.iaload, 1) := by decide +kernel
theorem d_Gr_numberGroups_66 : decode b_Gr_numberGroups 66 = .ok (.ifCond .ne 23, 3) := by decide +kernel
theorem d_Gr_numberGroups_69 : decode b_Gr_numberGroups 69 = .ok (.aload_n 0, 1) := by decide +kernel
theorem d_Gr_numberGroups_70 : decode b_Gr_numberGroups 70 = .ok (.getfield 18, 3) := by decide +kernel
theorem d_Gr_numberGroups_73 : decode b_Gr_numberGroups 73 = .ok (.iload_n 2, 1) := by decide +kernel
theorem d_Gr_numberGroups_74 : decode b_Gr_numberGroups 74 = .ok (.aload_n 0, 1) := by decide +kernel
theorem d_Gr_numberGroups_75 : decode b_Gr_numberGroups 75 = .ok (.getfield 15, 3) := by decide +kernel
theorem d_Gr_numberGroups_78 : decode b_Gr_numberGroups 78 = .ok (.iastore, 1) := by decide +kernel
theorem d_Gr_numberGroups_79 : decode b_Gr_numberGroups 79 = .ok (.aload_n 0, 1) := by decide +kernel
theorem d_Gr_numberGroups_80 : decode b_Gr_numberGroups 80 = .ok (.dup, 1) := by decide +kernel
theorem d_Gr_numberGroups_81 : decode b_Gr_numberGroups 81 = .ok (.getfield 15, 3) := by decide +kernel
theorem d_Gr_numberGroups_84 : decode b_Gr_numberGroups 84 = .ok (.iconst 1, 1) := by decide +kernel
theorem d_Gr_numberGroups_85 : decode b_Gr_numberGroups 85 = .ok (.iadd, 1) := by decide +kernel
theorem d_Gr_numberGroups_86 : decode b_Gr_numberGroups 86 = .ok (.putfield 15, 3) := by decide +kernel
theorem d_Gr_numberGroups_89 : decode b_Gr_numberGroups 89 = .ok (.iinc 2 1, 3) := by decide +kernel
theorem d_Gr_numberGroups_92 : decode b_Gr_numberGroups 92 = .ok (.goto (-37), 3) := by decide +kernel
theorem d_Gr_numberGroups_95 : decode b_Gr_numberGroups 95 = .ok (.return_, 1) := by decide +kernel
theorem d_Ar_fill_aIIII_0 : decode b_Ar_fill_aIIII 0 = .ok (.aload_n 0, 1) := by decide +kernel
theorem d_Ar_fill_aIIII_1 : decode b_Ar_fill_aIIII 1 = .ok (.arraylength, 1) := by decide +kernel
theorem d_Ar_fill_aIIII_2 : decode b_Ar_fill_aIIII 2 = .ok (.iload_n 1, 1) := by decide +kernel
theorem d_Ar_fill_aIIII_3 : decode b_Ar_fill_aIIII 3 = .ok (.iload_n 2, 1) := by decide +kernel
theorem d_Ar_fill_aIIII_4 : decode b_Ar_fill_aIIII 4 = .ok (.invokestatic 13, 3) := by decide +kernel
theorem d_Ar_fill_aIIII_7 : decode b_Ar_fill_aIIII 7 = .ok (.iload_n 1, 1) := by decide +kernel
theorem d_Ar_fill_aIIII_8 : decode b_Ar_fill_aIIII 8 = .ok (.istore 4, 2) := by decide +kernel
theorem d_Ar_fill_aIIII_10 : decode b_Ar_fill_aIIII 10 = .ok (.iload 4, 2) := by decide +kernel
theorem d_Ar_fill_aIIII_12 : decode b_Ar_fill_aIIII 12 = .ok (.iload_n 2, 1) := by decide +kernel
theorem d_Ar_fill_aIIII_13 : decode b_Ar_fill_aIIII 13 = .ok (.if_icmp .ge 14, 3) := by decide +kernel
theorem d_Ar_fill_aIIII_16 : decode b_Ar_fill_aIIII 16 = .ok (.aload_n 0, 1) := by decide +kernel
theorem d_Ar_fill_aIIII_17 : decode b_Ar_fill_aIIII 17 = .ok (.iload 4, 2) := by decide +kernel
theorem d_Ar_fill_aIIII_19 : decode b_Ar_fill_aIIII 19 = .ok (.iload_n 3, 1) := by decide +kernel
theorem d_Ar_fill_aIIII_20 : decode b_Ar_fill_aIIII 20 = .ok (.iastore, 1) := by decide +kernel
theorem d_Ar_fill_aIIII_21 : decode b_Ar_fill_aIIII 21 = .ok (.iinc 4 1, 3) := by decide +kernel
theorem d_Ar_fill_aIIII_24 : decode b_Ar_fill_aIIII 24 = .ok (.goto (-14), 3) := by decide +kernel
theorem d_Ar_fill_aIIII_27 : decode b_Ar_fill_aIIII 27 = .ok (.return_, 1) := by decide +kernel
theorem d_Ar_rangeCheck_0 : decode b_Ar_rangeCheck 0 = .ok (.iload_n 1, 1) := by decide +kernel
theorem d_Ar_rangeCheck_1 : decode b_Ar_rangeCheck 1 = .ok (.iload_n 2, 1) := by decide +kernel
theorem d_Ar_rangeCheck_2 : decode b_Ar_rangeCheck 2 = .ok (.if_icmp .le 44, 3) := by decide +kernel
theorem d_Ar_rangeCheck_5 : decode b_Ar_rangeCheck 5 = .ok (.new 43, 3) := by decide +kernel
theorem d_Ar_rangeCheck_8 : decode b_Ar_rangeCheck 8 = .ok (.dup, 1) := by decide +kernel
theorem d_Ar_rangeCheck_9 : decode b_Ar_rangeCheck 9 = .ok (.new 45, 3) := by decide +kernel
theorem d_Ar_rangeCheck_12 : decode b_Ar_rangeCheck 12 = .ok (.dup, 1) := by decide +kernel
theorem d_Ar_rangeCheck_13 : decode b_Ar_rangeCheck 13 = .ok (.invokespecial 47, 3) := by decide +kernel
theorem d_Ar_rangeCheck_16 : decode b_Ar_rangeCheck 16 = .ok (.ldc 48, 2) := by decide +kernel
theorem d_Ar_rangeCheck_18 : decode b_Ar_rangeCheck 18 = .ok (.invokevirtual 50, 3) := by decide +kernel
theorem d_Ar_rangeCheck_21 : decode b_Ar_rangeCheck 21 = .ok (.iload_n 1, 1) := by decide +kernel
theorem d_Ar_rangeCheck_22 : decode b_Ar_rangeCheck 22 = .ok (.invokevirtual 54, 3) := by decide +kernel
theorem d_Ar_rangeCheck_25 : decode b_Ar_rangeCheck 25 = .ok (.ldc 57, 2) := by decide +kernel
theorem d_Ar_rangeCheck_27 : decode b_Ar_rangeCheck 27 = .ok (.invokevirtual 50, 3) := by decide +kernel
theorem d_Ar_rangeCheck_30 : decode b_Ar_rangeCheck 30 = .ok (.iload_n 2, 1) := by decide +kernel
theorem d_Ar_rangeCheck_31 : decode b_Ar_rangeCheck 31 = .ok (.invokevirtual 54, 3) := by decide +kernel
theorem d_Ar_rangeCheck_34 : decode b_Ar_rangeCheck 34 = .ok (.ldc 59, 2) := by decide +kernel
theorem d_Ar_rangeCheck_36 : decode b_Ar_rangeCheck 36 = .ok (.invokevirtual 50, 3) := by decide +kernel
theorem d_Ar_rangeCheck_39 : decode b_Ar_rangeCheck 39 = .ok (.invokevirtual 61, 3) := by decide +kernel
theorem d_Ar_rangeCheck_42 : decode b_Ar_rangeCheck 42 = .ok (.invokespecial 65, 3) := by decide +kernel
theorem d_Ar_rangeCheck_45 : decode b_Ar_rangeCheck 45 = .ok (.athrow, 1) := by decide +kernel
theorem d_Ar_rangeCheck_46 : decode b_Ar_rangeCheck 46 = .ok (.iload_n 1, 1) := by decide +kernel
theorem d_Ar_rangeCheck_47 : decode b_Ar_rangeCheck 47 = .ok (.ifCond .ge 12, 3) := by decide +kernel
theorem d_Ar_rangeCheck_50 : decode b_Ar_rangeCheck 50 = .ok (.new 68, 3) := by decide +kernel
theorem d_Ar_rangeCheck_53 : decode b_Ar_rangeCheck 53 = .ok (.dup, 1) := by decide +kernel
theorem d_Ar_rangeCheck_54 : decode b_Ar_rangeCheck 54 = .ok (.iload_n 1, 1) := by decide +kernel
theorem d_Ar_rangeCheck_55 : decode b_Ar_rangeCheck 55 = .ok (.invokespecial 70, 3) := by decide +kernel
theorem d_Ar_rangeCheck_58 : decode b_Ar_rangeCheck 58 = .ok (.athrow, 1) := by decide +kernel
theorem d_Ar_rangeCheck_59 : decode b_Ar_rangeCheck 59 = .ok (.iload_n 2, 1) := by decide +kernel
theorem d_Ar_rangeCheck_60 : decode b_Ar_rangeCheck 60 = .ok (.iload_n 0, 1) := by decide +kernel
theorem d_Ar_rangeCheck_61 : decode b_Ar_rangeCheck 61 = .ok (.if_icmp .le 12, 3) := by decide +kernel
theorem d_Ar_rangeCheck_64 : decode b_Ar_rangeCheck 64 = .ok (.new 68, 3) := by decide +kernel
theorem d_Ar_rangeCheck_67 : decode b_Ar_rangeCheck 67 = .ok (.dup, 1) := by decide +kernel
theorem d_Ar_rangeCheck_68 : decode b_Ar_rangeCheck 68 = .ok (.iload_n 2, 1) := by decide +kernel
theorem d_Ar_rangeCheck_69 : decode b_Ar_rangeCheck 69 = .ok (.invokespecial 70, 3) := by decide +kernel
theorem d_Ar_rangeCheck_72 : decode b_Ar_rangeCheck 72 = .ok (.athrow, 1) := by decide +kernel
theorem d_Ar_rangeCheck_73 : decode b_Ar_rangeCheck 73 = .ok (.return_, 1) := by decide +kernel
theorem d_Gr_placeStates_0 : decode b_Gr_placeStates 0 = .ok (.aload_n 0, 1) := by decide +kernel
theorem d_Gr_placeStates_1 : decode b_Gr_placeStates 1 = .ok (.getfield 40, 3) := by decide +kernel
theorem d_Gr_placeStates_4 : decode b_Gr_placeStates 4 = .ok (.iconst 0, 1) := by decide +kernel
theorem d_Gr_placeStates_5 : decode b_Gr_placeStates 5 = .ok (.invokestatic 49, 3) := by decide +kernel
theorem d_Gr_placeStates_8 : decode b_Gr_placeStates 8 = .ok (.iconst 0, 1) := by decide +kernel
theorem d_Gr_placeStates_9 : decode b_Gr_placeStates 9 = .ok (.istore_n 1, 1) := by decide +kernel
theorem d_Gr_placeStates_10 : decode b_Gr_placeStates 10 = .ok (.iload_n 1, 1) := by decide +kernel
theorem d_Gr_placeStates_11 : decode b_Gr_placeStates 11 = .ok (.aload_n 0, 1) := by decide +kernel
theorem d_Gr_placeStates_12 : decode b_Gr_placeStates 12 = .ok (.getfield 22, 3) := by decide +kernel
theorem d_Gr_placeStates_15 : decode b_Gr_placeStates 15 = .ok (.getfield 26, 3) := by decide +kernel
theorem d_Gr_placeStates_18 : decode b_Gr_placeStates 18 = .ok (.if_icmp .ge 41, 3) := by decide +kernel
theorem d_Gr_placeStates_21 : decode b_Gr_placeStates 21 = .ok (.aload_n 0, 1) := by decide +kernel
theorem d_Gr_placeStates_22 : decode b_Gr_placeStates 22 = .ok (.getfield 34, 3) := by decide +kernel
theorem d_Gr_placeStates_25 : decode b_Gr_placeStates 25 = .ok (.iload_n 1, 1) := by decide +kernel
theorem d_Gr_placeStates_26 : decode b_Gr_placeStates 26 = .ok (.aload_n 0, 1) := by decide +kernel
theorem d_Gr_placeStates_27 : decode b_Gr_placeStates 27 = .ok (.getfield 18, 3) := by decide +kernel
theorem d_Gr_placeStates_30 : decode b_Gr_placeStates 30 = .ok (.aload_n 0, 1) := by decide +kernel
theorem d_Gr_placeStates_31 : decode b_Gr_placeStates 31 = .ok (.getfield 31, 3) := by decide +kernel
theorem d_Gr_placeStates_34 : decode b_Gr_placeStates 34 = .ok (.iload_n 1, 1) := by decide +kernel
theorem d_Gr_placeStates_35 : decode b_Gr_placeStates 35 = .ok (.iaload, 1) := by decide +kernel
theorem d_Gr_placeStates_36 : decode b_Gr_placeStates 36 = .ok (.iaload, 1) := by decide +kernel
theorem d_Gr_placeStates_37 : decode b_Gr_placeStates 37 = .ok (.iastore, 1) := by decide +kernel
theorem d_Gr_placeStates_38 : decode b_Gr_placeStates 38 = .ok (.aload_n 0, 1) := by decide +kernel
theorem d_Gr_placeStates_39 : decode b_Gr_placeStates 39 = .ok (.getfield 40, 3) := by decide +kernel
theorem d_Gr_placeStates_42 : decode b_Gr_placeStates 42 = .ok (.aload_n 0, 1) := by decide +kernel
theorem d_Gr_placeStates_43 : decode b_Gr_placeStates 43 = .ok (.getfield 34, 3) := by decide +kernel
theorem d_Gr_placeStates_46 : decode b_Gr_placeStates 46 = .ok (.iload_n 1, 1) := by decide +kernel
theorem d_Gr_placeStates_47 : decode b_Gr_placeStates 47 = .ok (.iaload, 1) := by decide +kernel
theorem d_Gr_placeStates_48 : decode b_Gr_placeStates 48 = .ok (.dup2, 1) := by decide +kernel
theorem d_Gr_placeStates_49 : decode b_Gr_placeStates 49 = .ok (.iaload, 1) := by decide +kernel
theorem d_Gr_placeStates_50 : decode b_Gr_placeStates 50 = .ok (.iconst 1, 1) := by decide +kernel
theorem d_Gr_placeStates_51 : decode b_Gr_placeStates 51 = .ok (.iadd, 1) := by decide +kernel
theorem d_Gr_placeStates_52 : decode b_Gr_placeStates 52 = .ok (.iastore, 1) := by decide +kernel
theorem d_Gr_placeStates_53 : decode b_Gr_placeStates 53 = .ok (.iinc 1 1, 3) := by decide +kernel
theorem d_Gr_placeStates_56 : decode b_Gr_placeStates 56 = .ok (.goto (-46), 3) := by decide +kernel
theorem d_Gr_placeStates_59 : decode b_Gr_placeStates 59 = .ok (.iconst 1, 1) := by decide +kernel
theorem d_Gr_placeStates_60 : decode b_Gr_placeStates 60 = .ok (.istore_n 1, 1) := by decide +kernel
theorem d_Gr_placeStates_61 : decode b_Gr_placeStates 61 = .ok (.iload_n 1, 1) := by decide +kernel
theorem d_Gr_placeStates_62 : decode b_Gr_placeStates 62 = .ok (.aload_n 0, 1) := by decide +kernel
theorem d_Gr_placeStates_63 : decode b_Gr_placeStates 63 = .ok (.getfield 15, 3) := by decide +kernel
theorem d_Gr_placeStates_66 : decode b_Gr_placeStates 66 = .ok (.if_icmp .gt 26, 3) := by decide +kernel
theorem d_Gr_placeStates_69 : decode b_Gr_placeStates 69 = .ok (.aload_n 0, 1) := by decide +kernel
theorem d_Gr_placeStates_70 : decode b_Gr_placeStates 70 = .ok (.getfield 40, 3) := by decide +kernel
theorem d_Gr_placeStates_73 : decode b_Gr_placeStates 73 = .ok (.iload_n 1, 1) := by decide +kernel
theorem d_Gr_placeStates_74 : decode b_Gr_placeStates 74 = .ok (.dup2, 1) := by decide +kernel
theorem d_Gr_placeStates_75 : decode b_Gr_placeStates 75 = .ok (.iaload, 1) := by decide +kernel
theorem d_Gr_placeStates_76 : decode b_Gr_placeStates 76 = .ok (.aload_n 0, 1) := by decide +kernel
theorem d_Gr_placeStates_77 : decode b_Gr_placeStates 77 = .ok (.getfield 40, 3) := by decide +kernel
theorem d_Gr_placeStates_80 : decode b_Gr_placeStates 80 = .ok (.iload_n 1, 1) := by decide +kernel
theorem d_Gr_placeStates_81 : decode b_Gr_placeStates 81 = .ok (.iconst 1, 1) := by decide +kernel
theorem d_Gr_placeStates_82 : decode b_Gr_placeStates 82 = .ok (.isub, 1) := by decide +kernel
theorem d_Gr_placeStates_83 : decode b_Gr_placeStates 83 = .ok (.iaload, 1) := by decide +kernel
theorem d_Gr_placeStates_84 : decode b_Gr_placeStates 84 = .ok (.iadd, 1) := by decide +kernel
theorem d_Gr_placeStates_85 : decode b_Gr_placeStates 85 = .ok (.iastore, 1) := by decide +kernel
theorem d_Gr_placeStates_86 : decode b_Gr_placeStates 86 = .ok (.iinc 1 1, 3) := by decide +kernel
theorem d_Gr_placeStates_89 : decode b_Gr_placeStates 89 = .ok (.goto (-28), 3) := by decide +kernel
theorem d_Gr_placeStates_92 : decode b_Gr_placeStates 92 = .ok (.iconst 0, 1) := by decide +kernel
theorem d_Gr_placeStates_93 : decode b_Gr_placeStates 93 = .ok (.istore_n 1, 1) := by decide +kernel
theorem d_Gr_placeStates_94 : decode b_Gr_placeStates 94 = .ok (.iload_n 1, 1) := by decide +kernel
theorem d_Gr_placeStates_95 : decode b_Gr_placeStates 95 = .ok (.aload_n 0, 1) := by decide +kernel
theorem d_Gr_placeStates_96 : decode b_Gr_placeStates 96 = .ok (.getfield 22, 3) := by decide +kernel
theorem d_Gr_placeStates_99 : decode b_Gr_placeStates 99 = .ok (.getfield 26, 3) := by decide +kernel
theorem d_Gr_placeStates_102 : decode b_Gr_placeStates 102 = .ok (.if_icmp .ge 38, 3) := by decide +kernel
theorem d_Gr_placeStates_105 : decode b_Gr_placeStates 105 = .ok (.aload_n 0, 1) := by decide +kernel
theorem d_Gr_placeStates_106 : decode b_Gr_placeStates 106 = .ok (.getfield 34, 3) := by decide +kernel
theorem d_Gr_placeStates_109 : decode b_Gr_placeStates 109 = .ok (.iload_n 1, 1) := by decide +kernel
theorem d_Gr_placeStates_110 : decode b_Gr_placeStates 110 = .ok (.iaload, 1) := by decide +kernel
theorem d_Gr_placeStates_111 : decode b_Gr_placeStates 111 = .ok (.istore_n 2, 1) := by decide +kernel
theorem d_Gr_placeStates_112 : decode b_Gr_placeStates 112 = .ok (.aload_n 0, 1) := by decide +kernel
theorem d_Gr_placeStates_113 : decode b_Gr_placeStates 113 = .ok (.getfield 40, 3) := by decide +kernel
theorem d_Gr_placeStates_116 : decode b_Gr_placeStates 116 = .ok (.iload_n 2, 1) := by decide +kernel
theorem d_Gr_placeStates_117 : decode b_Gr_placeStates 117 = .ok (.dup2, 1) := by decide +kernel
theorem d_Gr_placeStates_118 : decode b_Gr_placeStates 118 = .ok (.iaload, 1) := by decide +kernel
theorem d_Gr_placeStates_119 : decode b_Gr_placeStates 119 = .ok (.iconst 1, 1) := by decide +kernel
theorem d_Gr_placeStates_120 : decode b_Gr_placeStates 120 = .ok (.isub, 1) := by decide +kernel
theorem d_Gr_placeStates_121 : decode b_Gr_placeStates 121 = .ok (.iastore, 1) := by decide +kernel
theorem d_Gr_placeStates_122 : decode b_Gr_placeStates 122 = .ok (.aload_n 0, 1) := by decide +kernel
theorem d_Gr_placeStates_123 : decode b_Gr_placeStates 123 = .ok (.getfield 37, 3) := by decide +kernel
theorem d_Gr_placeStates_126 : decode b_Gr_placeStates 126 = .ok (.aload_n 0, 1) := by decide +kernel
theorem d_Gr_placeStates_127 : decode b_Gr_placeStates 127 = .ok (.getfield 40, 3) := by decide +kernel
theorem d_Gr_placeStates_130 : decode b_Gr_placeStates 130 = .ok (.iload_n 2, 1) := by decide +kernel
theorem d_Gr_placeStates_131 : decode b_Gr_placeStates 131 = .ok (.iaload, 1) := by decide +kernel
theorem d_Gr_placeStates_132 : decode b_Gr_placeStates 132 = .ok (.iload_n 1, 1) := by decide +kernel
theorem d_Gr_placeStates_133 : decode b_Gr_placeStates 133 = .ok (.iastore, 1) := by decide +kernel
theorem d_Gr_placeStates_134 : decode b_Gr_placeStates 134 = .ok (.iinc 1 1, 3) := by decide +kernel
theorem d_Gr_placeStates_137 : decode b_Gr_placeStates 137 = .ok (.goto (-43), 3) := by decide +kernel
theorem d_Gr_placeStates_140 : decode b_Gr_placeStates 140 = .ok (.return_, 1) := by decide +kernel
theorem d_Ar_fill_aII_0 : decode b_Ar_fill_aII 0 = .ok (.iconst 0, 1) := by decide +kernel
theorem d_Ar_fill_aII_1 : decode b_Ar_fill_aII 1 = .ok (.istore_n 2, 1) := by decide +kernel
theorem d_Ar_fill_aII_2 : decode b_Ar_fill_aII 2 = .ok (.aload_n 0, 1) := by decide +kernel
theorem d_Ar_fill_aII_3 : decode b_Ar_fill_aII 3 = .ok (.arraylength, 1) := by decide +kernel
theorem d_Ar_fill_aII_4 : decode b_Ar_fill_aII 4 = .ok (.istore_n 3, 1) := by decide +kernel
theorem d_Ar_fill_aII_5 : decode b_Ar_fill_aII 5 = .ok (.iload_n 2, 1) := by decide +kernel
theorem d_Ar_fill_aII_6 : decode b_Ar_fill_aII 6 = .ok (.iload_n 3, 1) := by decide +kernel
theorem d_Ar_fill_aII_7 : decode b_Ar_fill_aII 7 = .ok (.if_icmp .ge 13, 3) := by decide +kernel
theorem d_Ar_fill_aII_10 : decode b_Ar_fill_aII 10 = .ok (.aload_n 0, 1) := by decide +kernel
theorem d_Ar_fill_aII_11 : decode b_Ar_fill_aII 11 = .ok (.iload_n 2, 1) := by decide +kernel
theorem d_Ar_fill_aII_12 : decode b_Ar_fill_aII 12 = .ok (.iload_n 1, 1) := by decide +kernel
theorem d_Ar_fill_aII_13 : decode b_Ar_fill_aII 13 = .ok (.iastore, 1) := by decide +kernel
theorem d_Ar_fill_aII_14 : decode b_Ar_fill_aII 14 = .ok (.iinc 2 1, 3) := by decide +kernel
theorem d_Ar_fill_aII_17 : decode b_Ar_fill_aII 17 = .ok (.goto (-12), 3) := by decide +kernel
theorem d_Ar_fill_aII_20 : decode b_Ar_fill_aII 20 = .ok (.return_, 1) := by decide +kernel
theorem d_Se_init_0 : decode b_Se_init 0 = .ok (.aload_n 0, 1) := by decide +kernel
theorem d_Se_init_1 : decode b_Se_init 1 = .ok (.invokespecial 3, 3) := by decide +kernel
theorem d_Se_init_4 : decode b_Se_init 4 = .ok (.aload_n 0, 1) := by decide +kernel
theorem d_Se_init_5 : decode b_Se_init 5 = .ok (.iconst 0, 1) := by decide +kernel
theorem d_Se_init_6 : decode b_Se_init 6 = .ok (.putfield 9, 3) := by decide +kernel
theorem d_Se_init_9 : decode b_Se_init 9 = .ok (.aload_n 0, 1) := by decide +kernel
theorem d_Se_init_10 : decode b_Se_init 10 = .ok (.sipush 200, 3) := by decide +kernel
theorem d_Se_init_13 : decode b_Se_init 13 = .ok (.newarray .int, 2) := by decide +kernel
theorem d_Se_init_15 : decode b_Se_init 15 = .ok (.putfield 15, 3) := by decide +kernel
theorem d_Se_init_18 : decode b_Se_init 18 = .ok (.aload_n 0, 1) := by decide +kernel
theorem d_Se_init_19 : decode b_Se_init 19 = .ok (.sipush 200, 3) := by decide +kernel
theorem d_Se_init_22 : decode b_Se_init 22 = .ok (.newarray .int, 2) := by decide +kernel
theorem d_Se_init_24 : decode b_Se_init 24 = .ok (.putfield 19, 3) := by decide +kernel
theorem d_Se_init_27 : decode b_Se_init 27 = .ok (.aload_n 0, 1) := by decide +kernel
theorem d_Se_init_28 : decode b_Se_init 28 = .ok (.sipush 200, 3) := by decide +kernel
theorem d_Se_init_31 : decode b_Se_init 31 = .ok (.newarray .int, 2) := by decide +kernel
theorem d_Se_init_33 : decode b_Se_init 33 = .ok (.putfield 22, 3) := by decide +kernel
theorem d_Se_init_36 : decode b_Se_init 36 = .ok (.aload_n 0, 1) := by decide +kernel
theorem d_Se_init_37 : decode b_Se_init 37 = .ok (.sipush 200, 3) := by decide +kernel
theorem d_Se_init_40 : decode b_Se_init 40 = .ok (.newarray .int, 2) := by decide +kernel
theorem d_Se_init_42 : decode b_Se_init 42 = .ok (.putfield 25, 3) := by decide +kernel
theorem d_Se_init_45 : decode b_Se_init 45 = .ok (.aload_n 0, 1) := by decide +kernel
theorem d_Se_init_46 : decode b_Se_init 46 = .ok (.sipush 200, 3) := by decide +kernel
theorem d_Se_init_49 : decode b_Se_init 49 = .ok (.newarray .int, 2) := by decide +kernel
theorem d_Se_init_51 : decode b_Se_init 51 = .ok (.putfield 28, 3) := by decide +kernel
theorem d_Se_init_54 : decode b_Se_init 54 = .ok (.aload_n 0, 1) := by decide +kernel
theorem d_Se_init_55 : decode b_Se_init 55 = .ok (.sipush 200, 3) := by decide +kernel
theorem d_Se_init_58 : decode b_Se_init 58 = .ok (.newarray .int, 2) := by decide +kernel
theorem d_Se_init_60 : decode b_Se_init 60 = .ok (.putfield 31, 3) := by decide +kernel
theorem d_Se_init_63 : decode b_Se_init 63 = .ok (.aload_n 0, 1) := by decide +kernel
theorem d_Se_init_64 : decode b_Se_init 64 = .ok (.iconst 0, 1) := by decide +kernel
theorem d_Se_init_65 : decode b_Se_init 65 = .ok (.putfield 34, 3) := by decide +kernel
theorem d_Se_init_68 : decode b_Se_init 68 = .ok (.aload_n 0, 1) := by decide +kernel
theorem d_Se_init_69 : decode b_Se_init 69 = .ok (.iconst (-1), 1) := by decide +kernel
theorem d_Se_init_70 : decode b_Se_init 70 = .ok (.putfield 38, 3) := by decide +kernel
theorem d_Se_init_73 : decode b_Se_init 73 = .ok (.aload_n 0, 1) := by decide +kernel
theorem d_Se_init_74 : decode b_Se_init 74 = .ok (.sipush 200, 3) := by decide +kernel
theorem d_Se_init_77 : decode b_Se_init 77 = .ok (.newarray .int, 2) := by decide +kernel
theorem d_Se_init_79 : decode b_Se_init 79 = .ok (.putfield 41, 3) := by decide +kernel
theorem d_Se_init_82 : decode b_Se_init 82 = .ok (.aload_n 0, 1) := by decide +kernel
theorem d_Se_init_83 : decode b_Se_init 83 = .ok (.aload_n 1, 1) := by decide +kernel
theorem d_Se_init_84 : decode b_Se_init 84 = .ok (.putfield 44, 3) := by decide +kernel
theorem d_Se_init_87 : decode b_Se_init 87 = .ok (.aload_n 0, 1) := by decide +kernel
theorem d_Se_init_88 : decode b_Se_init 88 = .ok (.aload_n 2, 1) := by decide +kernel
theorem d_Se_init_89 : decode b_Se_init 89 = .ok (.putfield 48, 3) := by decide +kernel
theorem d_Se_init_92 : decode b_Se_init 92 = .ok (.aload_n 0, 1) := by decide +kernel
theorem d_Se_init_93 : decode b_Se_init 93 = .ok (.aload_n 3, 1) := by decide +kernel
theorem d_Se_init_94 : decode b_Se_init 94 = .ok (.putfield 52, 3) := by decide +kernel
theorem d_Se_init_97 : decode b_Se_init 97 = .ok (.aload_n 0, 1) := by decide +kernel
theorem d_Se_init_98 : decode b_Se_init 98 = .ok (.bipush 12, 2) := by decide +kernel
theorem d_Se_init_100 : decode b_Se_init 100 = .ok (.aload_n 1, 1) := by decide +kernel
theorem d_Se_init_101 : decode b_Se_init 101 = .ok (.getfield 56, 3) := by decide +kernel
theorem d_Se_init_104 : decode b_Se_init 104 = .ok (.imul, 1) := by decide +kernel
theorem d_Se_init_105 : decode b_Se_init 105 = .ok (.newarray .byte, 2) := by decide +kernel
theorem d_Se_init_107 : decode b_Se_init 107 = .ok (.putfield 61, 3) := by decide +kernel
theorem d_Se_init_110 : decode b_Se_init 110 = .ok (.aload_n 0, 1) := by decide +kernel
theorem d_Se_init_111 : decode b_Se_init 111 = .ok (.aload_n 1, 1) := by decide +kernel
theorem d_Se_init_112 : decode b_Se_init 112 = .ok (.getfield 56, 3) := by decide +kernel
theorem d_Se_init_115 : decode b_Se_init 115 = .ok (.newarray .byte, 2) := by decide +kernel
theorem d_Se_init_117 : decode b_Se_init 117 = .ok (.putfield 65, 3) := by decide +kernel
theorem d_Se_init_120 : decode b_Se_init 120 = .ok (.return_, 1) := by decide +kernel
theorem d_Pa_init_0 : decode b_Pa_init 0 = .ok (.aload_n 0, 1) := by decide +kernel
theorem d_Pa_init_1 : decode b_Pa_init 1 = .ok (.invokespecial 3, 3) := by decide +kernel
theorem d_Pa_init_4 : decode b_Pa_init 4 = .ok (.aload_n 0, 1) := by decide +kernel
theorem d_Pa_init_5 : decode b_Pa_init 5 = .ok (.iconst 0, 1) := by decide +kernel
theorem d_Pa_init_6 : decode b_Pa_init 6 = .ok (.putfield 9, 3) := by decide +kernel
theorem d_Pa_init_9 : decode b_Pa_init 9 = .ok (.aload_n 0, 1) := by decide +kernel
theorem d_Pa_init_10 : decode b_Pa_init 10 = .ok (.aload_n 1, 1) := by decide +kernel
theorem d_Pa_init_11 : decode b_Pa_init 11 = .ok (.putfield 15, 3) := by decide +kernel
theorem d_Pa_init_14 : decode b_Pa_init 14 = .ok (.aload_n 0, 1) := by decide +kernel
theorem d_Pa_init_15 : decode b_Pa_init 15 = .ok (.aload_n 2, 1) := by decide +kernel
theorem d_Pa_init_16 : decode b_Pa_init 16 = .ok (.putfield 19, 3) := by decide +kernel
theorem d_Pa_init_19 : decode b_Pa_init 19 = .ok (.return_, 1) := by decide +kernel
theorem d_Re_init_0 : decode b_Re_init 0 = .ok (.aload_n 0, 1) := by decide +kernel
theorem d_Re_init_1 : decode b_Re_init 1 = .ok (.invokespecial 3, 3) := by decide +kernel
theorem d_Re_init_4 : decode b_Re_init 4 = .ok (.aload_n 0, 1) := by decide +kernel
theorem d_Re_init_5 : decode b_Re_init 5 = .ok (.sipush 200, 3) := by decide +kernel
theorem d_Re_init_8 : decode b_Re_init 8 = .ok (.newarray .int, 2) := by decide +kernel
theorem d_Re_init_10 : decode b_Re_init 10 = .ok (.putfield 9, 3) := by decide +kernel
theorem d_Re_init_13 : decode b_Re_init 13 = .ok (.aload_n 0, 1) := by decide +kernel
theorem d_Re_init_14 : decode b_Re_init 14 = .ok (.iconst 0, 1) := by decide +kernel
theorem d_Re_init_15 : decode b_Re_init 15 = .ok (.putfield 15, 3) := by decide +kernel
theorem d_Re_init_18 : decode b_Re_init 18 = .ok (.aload_n 0, 1) := by decide +kernel
theorem d_Re_init_19 : decode b_Re_init 19 = .ok (.aload_n 1, 1) := by decide +kernel
theorem d_Re_init_20 : decode b_Re_init 20 = .ok (.putfield 19, 3) := by decide +kernel
theorem d_Re_init_23 : decode b_Re_init 23 = .ok (.aload_n 0, 1) := by decide +kernel
theorem d_Re_init_24 : decode b_Re_init 24 = .ok (.aload_n 2, 1) := by decide +kernel
theorem d_Re_init_25 : decode b_Re_init 25 = .ok (.putfield 23, 3) := by decide +kernel
theorem d_Re_init_28 : decode b_Re_init 28 = .ok (.aload_n 0, 1) := by decide +kernel
theorem d_Re_init_29 : decode b_Re_init 29 = .ok (.aload_n 3, 1) := by decide +kernel
theorem d_Re_init_30 : decode b_Re_init 30 = .ok (.putfield 27, 3) := by decide +kernel
theorem d_Re_init_33 : decode b_Re_init 33 = .ok (.aload_n 0, 1) := by decide +kernel
theorem d_Re_init_34 : decode b_Re_init 34 = .ok (.sipush 200, 3) := by decide +kernel
theorem d_Re_init_37 : decode b_Re_init 37 = .ok (.aload_n 1, 1) := by decide +kernel
theorem d_Re_init_38 : decode b_Re_init 38 = .ok (.getfield 31, 3) := by decide +kernel
theorem d_Re_init_41 : decode b_Re_init 41 = .ok (.bipush 63, 2) := by decide +kernel
theorem d_Re_init_43 : decode b_Re_init 43 = .ok (.iadd, 1) := by decide +kernel
theorem d_Re_init_44 : decode b_Re_init 44 = .ok (.bipush 64, 2) := by decide +kernel
theorem d_Re_init_46 : decode b_Re_init 46 = .ok (.idiv, 1) := by decide +kernel
theorem d_Re_init_47 : decode b_Re_init 47 = .ok (.multianewarray 36 2, 4) := by decide +kernel
theorem d_Re_init_51 : decode b_Re_init 51 = .ok (.putfield 38, 3) := by decide +kernel
theorem d_Re_init_54 : decode b_Re_init 54 = .ok (.return_, 1) := by decide +kernel
theorem d_Rf_init_0 : decode b_Rf_init 0 = .ok (.aload_n 0, 1) := by decide +kernel
theorem d_Rf_init_1 : decode b_Rf_init 1 = .ok (.invokespecial 3, 3) := by decide +kernel
theorem d_Rf_init_4 : decode b_Rf_init 4 = .ok (.aload_n 0, 1) := by decide +kernel
theorem d_Rf_init_5 : decode b_Rf_init 5 = .ok (.iconst 0, 1) := by decide +kernel
theorem d_Rf_init_6 : decode b_Rf_init 6 = .ok (.putfield 9, 3) := by decide +kernel
theorem d_Rf_init_9 : decode b_Rf_init 9 = .ok (.aload_n 0, 1) := by decide +kernel
theorem d_Rf_init_10 : decode b_Rf_init 10 = .ok (.aload_n 1, 1) := by decide +kernel
theorem d_Rf_init_11 : decode b_Rf_init 11 = .ok (.putfield 15, 3) := by decide +kernel
theorem d_Rf_init_14 : decode b_Rf_init 14 = .ok (.aload_n 0, 1) := by decide +kernel
theorem d_Rf_init_15 : decode b_Rf_init 15 = .ok (.aload_n 2, 1) := by decide +kernel
theorem d_Rf_init_16 : decode b_Rf_init 16 = .ok (.putfield 19, 3) := by decide +kernel
theorem d_Rf_init_19 : decode b_Rf_init 19 = .ok (.aload_n 0, 1) := by decide +kernel
theorem d_Rf_init_20 : decode b_Rf_init 20 = .ok (.aload_n 3, 1) := by decide +kernel
theorem d_Rf_init_21 : decode b_Rf_init 21 = .ok (.putfield 23, 3) := by decide +kernel
theorem d_Rf_init_24 : decode b_Rf_init 24 = .ok (.aload_n 0, 1) := by decide +kernel
theorem d_Rf_init_25 : decode b_Rf_init 25 = .ok (.aload 4, 2) := by decide +kernel
theorem d_Rf_init_27 : decode b_Rf_init 27 = .ok (.putfield 27, 3) := by decide +kernel
theorem d_Rf_init_30 : decode b_Rf_init 30 = .ok (.aload_n 0, 1) := by decide +kernel
theorem d_Rf_init_31 : decode b_Rf_init 31 = .ok (.iconst 4, 1) := by decide +kernel
theorem d_Rf_init_32 : decode b_Rf_init 32 = .ok (.aload_n 1, 1) := by decide +kernel
theorem d_Rf_init_33 : decode b_Rf_init 33 = .ok (.getfield 31, 3) := by decide +kernel
theorem d_Rf_init_36 : decode b_Rf_init 36 = .ok (.multianewarray 36 2, 4) := by decide +kernel
theorem d_Rf_init_40 : decode b_Rf_init 40 = .ok (.putfield 38, 3) := by decide +kernel
theorem d_Rf_init_43 : decode b_Rf_init 43 = .ok (.aload_n 0, 1) := by decide +kernel
theorem d_Rf_init_44 : decode b_Rf_init 44 = .ok (.aload_n 1, 1) := by decide +kernel
theorem d_Rf_init_45 : decode b_Rf_init 45 = .ok (.getfield 31, 3) := by decide +kernel
theorem d_Rf_init_48 : decode b_Rf_init 48 = .ok (.newarray .long, 2) := by decide +kernel
theorem d_Rf_init_50 : decode b_Rf_init 50 = .ok (.putfield 41, 3) := by decide +kernel
theorem d_Rf_init_53 : decode b_Rf_init 53 = .ok (.return_, 1) := by decide +kernel
theorem d_PP_type_0 : decode b_PP_type 0 = .ok (.aload_n 0, 1) := by decide +kernel
theorem d_PP_type_1 : decode b_PP_type 1 = .ok (.getfield 37, 3) := by decide +kernel
theorem d_PP_type_4 : decode b_PP_type 4 = .ok (.iload_n 1, 1) := by decide +kernel
theorem d_PP_type_5 : decode b_PP_type 5 = .ok (.invokevirtual 88, 3) := by decide +kernel
theorem d_PP_type_8 : decode b_PP_type 8 = .ok (.ireturn, 1) := by decide +kernel
theorem d_Li_append_0 : decode b_Li_append 0 = .ok (.iload_n 1, 1) := by decide +kernel
theorem d_Li_append_1 : decode b_Li_append 1 = .ok (.bipush 32, 2) := by decide +kernel
theorem d_Li_append_3 : decode b_Li_append 3 = .ok (.if_icmp .lt 18, 3) := by decide +kernel
theorem d_Li_append_6 : decode b_Li_append 6 = .ok (.iload_n 1, 1) := by decide +kernel
theorem d_Li_append_7 : decode b_Li_append 7 = .ok (.bipush 126, 2) := by decide +kernel
theorem d_Li_append_9 : decode b_Li_append 9 = .ok (.if_icmp .gt 12, 3) := by decide +kernel
theorem d_Li_append_12 : decode b_Li_append 12 = .ok (.aload_n 0, 1) := by decide +kernel
theorem d_Li_append_13 : decode b_Li_append 13 = .ok (.getfield 15, 3) := by decide +kernel
theorem d_Li_append_16 : decode b_Li_append 16 = .ok (.bipush 24, 2) := by decide +kernel
theorem d_Li_append_18 : decode b_Li_append 18 = .ok (.if_icmp .lt 5, 3) := by decide +kernel
theorem d_Li_append_21 : decode b_Li_append 21 = .ok (.iconst (-1), 1) := by decide +kernel
theorem d_Li_append_22 : decode b_Li_append 22 = .ok (.ireturn, 1) := by decide +kernel
theorem d_Li_append_23 : decode b_Li_append 23 = .ok (.aload_n 0, 1) := by decide +kernel
theorem d_Li_append_24 : decode b_Li_append 24 = .ok (.getfield 9, 3) := by decide +kernel
theorem d_Li_append_27 : decode b_Li_append 27 = .ok (.aload_n 0, 1) := by decide +kernel
theorem d_Li_append_28 : decode b_Li_append 28 = .ok (.getfield 15, 3) := by decide +kernel
theorem d_Li_append_31 : decode b_Li_append 31 = .ok (.iload_n 1, 1) := by decide +kernel
theorem d_Li_append_32 : decode b_Li_append 32 = .ok (.castore, 1) := by decide +kernel
theorem d_Li_append_33 : decode b_Li_append 33 = .ok (.aload_n 0, 1) := by decide +kernel
theorem d_Li_append_34 : decode b_Li_append 34 = .ok (.dup, 1) := by decide +kernel
theorem d_Li_append_35 : decode b_Li_append 35 = .ok (.getfield 15, 3) := by decide +kernel
theorem d_Li_append_38 : decode b_Li_append 38 = .ok (.iconst 1, 1) := by decide +kernel
theorem d_Li_append_39 : decode b_Li_append 39 = .ok (.iadd, 1) := by decide +kernel
theorem d_Li_append_40 : decode b_Li_append 40 = .ok (.putfield 15, 3) := by decide +kernel
theorem d_Li_append_43 : decode b_Li_append 43 = .ok (.aload_n 0, 1) := by decide +kernel
theorem d_Li_append_44 : decode b_Li_append 44 = .ok (.getfield 15, 3) := by decide +kernel
theorem d_Li_append_47 : decode b_Li_append 47 = .ok (.ireturn, 1) := by decide +kernel
theorem d_PP_wipe_0 : decode b_PP_wipe 0 = .ok (.aload_n 0, 1) := by decide +kernel
theorem d_PP_wipe_1 : decode b_PP_wipe 1 = .ok (.getfield 37, 3) := by decide +kernel
theorem d_PP_wipe_4 : decode b_PP_wipe 4 = .ok (.invokevirtual 92, 3) := by decide +kernel
theorem d_PP_wipe_7 : decode b_PP_wipe 7 = .ok (.return_, 1) := by decide +kernel
theorem d_Li_makeEmpty_0 : decode b_Li_makeEmpty 0 = .ok (.aload_n 0, 1) := by decide +kernel
theorem d_Li_makeEmpty_1 : decode b_Li_makeEmpty 1 = .ok (.iconst 0, 1) := by decide +kernel
theorem d_Li_makeEmpty_2 : decode b_Li_makeEmpty 2 = .ok (.putfield 15, 3) := by decide +kernel
theorem d_Li_makeEmpty_5 : decode b_Li_makeEmpty 5 = .ok (.return_, 1) := by decide +kernel
theorem d_PP_clear_0 : decode b_PP_clear 0 = .ok (.aload_n 0, 1) := by decide +kernel
theorem d_PP_clear_1 : decode b_PP_clear 1 = .ok (.getfield 37, 3) := by decide +kernel
theorem d_PP_clear_4 : decode b_PP_clear 4 = .ok (.invokevirtual 92, 3) := by decide +kernel
theorem d_PP_clear_7 : decode b_PP_clear 7 = .ok (.aload_n 0, 1) := by decide +kernel
theorem d_PP_clear_8 : decode b_PP_clear 8 = .ok (.getfield 54, 3) := by decide +kernel
theorem d_PP_clear_11 : decode b_PP_clear 11 = .ok (.iconst 0, 1) := by decide +kernel
theorem d_PP_clear_12 : decode b_PP_clear 12 = .ok (.putfield 147, 3) := by decide +kernel
theorem d_PP_clear_15 : decode b_PP_clear 15 = .ok (.aload_n 0, 1) := by decide +kernel
theorem d_PP_clear_16 : decode b_PP_clear 16 = .ok (.getfield 58, 3) := by decide +kernel
theorem d_PP_clear_19 : decode b_PP_clear 19 = .ok (.invokevirtual 148, 3) := by decide +kernel
theorem d_PP_clear_22 : decode b_PP_clear 22 = .ok (.aload_n 0, 1) := by decide +kernel
theorem d_PP_clear_23 : decode b_PP_clear 23 = .ok (.invokevirtual 119, 3) := by decide +kernel
theorem d_PP_clear_26 : decode b_PP_clear 26 = .ok (.return_, 1) := by decide +kernel
theorem d_Gr_dropPredicates_0 : decode b_Gr_dropPredicates 0 = .ok (.aload_n 0, 1) := by decide +kernel
theorem d_Gr_dropPredicates_1 : decode b_Gr_dropPredicates 1 = .ok (.iconst 0, 1) := by decide +kernel
theorem d_Gr_dropPredicates_2 : decode b_Gr_dropPredicates 2 = .ok (.putfield 9, 3) := by decide +kernel
theorem d_Gr_dropPredicates_5 : decode b_Gr_dropPredicates 5 = .ok (.aload_n 0, 1) := by decide +kernel
theorem d_Gr_dropPredicates_6 : decode b_Gr_dropPredicates 6 = .ok (.getfield 31, 3) := by decide +kernel
theorem d_Gr_dropPredicates_9 : decode b_Gr_dropPredicates 9 = .ok (.iconst 0, 1) := by decide +kernel
theorem d_Gr_dropPredicates_10 : decode b_Gr_dropPredicates 10 = .ok (.invokestatic 49, 3) := by decide +kernel
theorem d_Gr_dropPredicates_13 : decode b_Gr_dropPredicates 13 = .ok (.aload_n 0, 1) := by decide +kernel
theorem d_Gr_dropPredicates_14 : decode b_Gr_dropPredicates 14 = .ok (.invokevirtual 43, 3) := by decide +kernel
theorem d_Gr_dropPredicates_17 : decode b_Gr_dropPredicates 17 = .ok (.aload_n 0, 1) := by decide +kernel
theorem d_Gr_dropPredicates_18 : decode b_Gr_dropPredicates 18 = .ok (.invokevirtual 46, 3) := by decide +kernel
theorem d_Gr_dropPredicates_21 : decode b_Gr_dropPredicates 21 = .ok (.return_, 1) := by decide +kernel
theorem d_PP_forgetSearch_0 : decode b_PP_forgetSearch 0 = .ok (.aload_n 0, 1) := by decide +kernel
theorem d_PP_forgetSearch_1 : decode b_PP_forgetSearch 1 = .ok (.getfield 62, 3) := by decide +kernel
theorem d_PP_forgetSearch_4 : decode b_PP_forgetSearch 4 = .ok (.invokevirtual 207, 3) := by decide +kernel
theorem d_PP_forgetSearch_7 : decode b_PP_forgetSearch 7 = .ok (.aload_n 0, 1) := by decide +kernel
theorem d_PP_forgetSearch_8 : decode b_PP_forgetSearch 8 = .ok (.getfield 71, 3) := by decide +kernel
theorem d_PP_forgetSearch_11 : decode b_PP_forgetSearch 11 = .ok (.invokevirtual 210, 3) := by decide +kernel
theorem d_PP_forgetSearch_14 : decode b_PP_forgetSearch 14 = .ok (.aload_n 0, 1) := by decide +kernel
theorem d_PP_forgetSearch_15 : decode b_PP_forgetSearch 15 = .ok (.iconst (-1), 1) := by decide +kernel
theorem d_PP_forgetSearch_16 : decode b_PP_forgetSearch 16 = .ok (.putfield 84, 3) := by decide +kernel
theorem d_PP_forgetSearch_19 : decode b_PP_forgetSearch 19 = .ok (.return_, 1) := by decide +kernel
theorem d_Se_forget_0 : decode b_Se_forget 0 = .ok (.aload_n 0, 1) := by decide +kernel
theorem d_Se_forget_1 : decode b_Se_forget 1 = .ok (.iconst 0, 1) := by decide +kernel
theorem d_Se_forget_2 : decode b_Se_forget 2 = .ok (.putfield 9, 3) := by decide +kernel
theorem d_Se_forget_5 : decode b_Se_forget 5 = .ok (.aload_n 0, 1) := by decide +kernel
theorem d_Se_forget_6 : decode b_Se_forget 6 = .ok (.iconst 0, 1) := by decide +kernel
theorem d_Se_forget_7 : decode b_Se_forget 7 = .ok (.putfield 34, 3) := by decide +kernel
theorem d_Se_forget_10 : decode b_Se_forget 10 = .ok (.aload_n 0, 1) := by decide +kernel
theorem d_Se_forget_11 : decode b_Se_forget 11 = .ok (.iconst (-1), 1) := by decide +kernel
theorem d_Se_forget_12 : decode b_Se_forget 12 = .ok (.putfield 38, 3) := by decide +kernel
theorem d_Se_forget_15 : decode b_Se_forget 15 = .ok (.return_, 1) := by decide +kernel
theorem d_Re_forget_0 : decode b_Re_forget 0 = .ok (.aload_n 0, 1) := by decide +kernel
theorem d_Re_forget_1 : decode b_Re_forget 1 = .ok (.iconst 0, 1) := by decide +kernel
theorem d_Re_forget_2 : decode b_Re_forget 2 = .ok (.putfield 15, 3) := by decide +kernel
theorem d_Re_forget_5 : decode b_Re_forget 5 = .ok (.return_, 1) := by decide +kernel
theorem d_PP_outcome_0 : decode b_PP_outcome 0 = .ok (.aload_n 0, 1) := by decide +kernel
theorem d_PP_outcome_1 : decode b_PP_outcome 1 = .ok (.getfield 84, 3) := by decide +kernel
theorem d_PP_outcome_4 : decode b_PP_outcome 4 = .ok (.ireturn, 1) := by decide +kernel
theorem d_PP_edges_0 : decode b_PP_edges 0 = .ok (.aload_n 0, 1) := by decide +kernel
theorem d_PP_edges_1 : decode b_PP_edges 1 = .ok (.getfield 54, 3) := by decide +kernel
theorem d_PP_edges_4 : decode b_PP_edges 4 = .ok (.getfield 147, 3) := by decide +kernel
theorem d_PP_edges_7 : decode b_PP_edges 7 = .ok (.ireturn, 1) := by decide +kernel
theorem d_PP_predicates_0 : decode b_PP_predicates 0 = .ok (.aload_n 0, 1) := by decide +kernel
theorem d_PP_predicates_1 : decode b_PP_predicates 1 = .ok (.getfield 58, 3) := by decide +kernel
theorem d_PP_predicates_4 : decode b_PP_predicates 4 = .ok (.getfield 131, 3) := by decide +kernel
theorem d_PP_predicates_7 : decode b_PP_predicates 7 = .ok (.ireturn, 1) := by decide +kernel
theorem d_PP_nodes_0 : decode b_PP_nodes 0 = .ok (.aload_n 0, 1) := by decide +kernel
theorem d_PP_nodes_1 : decode b_PP_nodes 1 = .ok (.getfield 62, 3) := by decide +kernel
theorem d_PP_nodes_4 : decode b_PP_nodes 4 = .ok (.getfield 176, 3) := by decide +kernel
theorem d_PP_nodes_7 : decode b_PP_nodes 7 = .ok (.ireturn, 1) := by decide +kernel
theorem d_PP_length_0 : decode b_PP_length 0 = .ok (.aload_n 0, 1) := by decide +kernel
theorem d_PP_length_1 : decode b_PP_length 1 = .ok (.getfield 62, 3) := by decide +kernel
theorem d_PP_length_4 : decode b_PP_length 4 = .ok (.getfield 191, 3) := by decide +kernel
theorem d_PP_length_7 : decode b_PP_length 7 = .ok (.ireturn, 1) := by decide +kernel
theorem d_Lw_cell_0 : decode b_Lw_cell 0 = .ok (.iload_n 1, 1) := by decide +kernel
theorem d_Lw_cell_1 : decode b_Lw_cell 1 = .ok (.aload_n 0, 1) := by decide +kernel
theorem d_Lw_cell_2 : decode b_Lw_cell 2 = .ok (.arraylength, 1) := by decide +kernel
theorem d_Lw_cell_3 : decode b_Lw_cell 3 = .ok (.if_icmp .ge 9, 3) := by decide +kernel
theorem d_Lw_cell_6 : decode b_Lw_cell 6 = .ok (.aload_n 0, 1) := by decide +kernel
theorem d_Lw_cell_7 : decode b_Lw_cell 7 = .ok (.iload_n 1, 1) := by decide +kernel
theorem d_Lw_cell_8 : decode b_Lw_cell 8 = .ok (.iaload, 1) := by decide +kernel
theorem d_Lw_cell_9 : decode b_Lw_cell 9 = .ok (.goto 4, 3) := by decide +kernel
theorem d_Lw_cell_12 : decode b_Lw_cell 12 = .ok (.iconst 0, 1) := by decide +kernel
theorem d_Lw_cell_13 : decode b_Lw_cell 13 = .ok (.ireturn, 1) := by decide +kernel
theorem d_Lw_edge_0 : decode b_Lw_edge 0 = .ok (.aload_n 1, 1) := by decide +kernel
theorem d_Lw_edge_1 : decode b_Lw_edge 1 = .ok (.iconst 0, 1) := by decide +kernel
theorem d_Lw_edge_2 : decode b_Lw_edge 2 = .ok (.aload_n 0, 1) := by decide +kernel
theorem d_Lw_edge_3 : decode b_Lw_edge 3 = .ok (.invokevirtual 7, 3) := by decide +kernel
theorem d_Lw_edge_6 : decode b_Lw_edge 6 = .ok (.i2l, 1) := by decide +kernel
theorem d_Lw_edge_7 : decode b_Lw_edge 7 = .ok (.lastore, 1) := by decide +kernel
theorem d_Lw_edge_8 : decode b_Lw_edge 8 = .ok (.goto 9, 3) := by decide +kernel
theorem d_Lw_edge_11 : decode b_Lw_edge 11 = .ok (.astore_n 2, 1) := by decide +kernel
theorem d_Lw_edge_12 : decode b_Lw_edge 12 = .ok (.iconst 1, 1) := by decide +kernel
theorem d_Lw_edge_13 : decode b_Lw_edge 13 = .ok (.ireturn, 1) := by decide +kernel
theorem d_Lw_edge_14 : decode b_Lw_edge 14 = .ok (.astore_n 2, 1) := by decide +kernel
theorem d_Lw_edge_15 : decode b_Lw_edge 15 = .ok (.iconst 2, 1) := by decide +kernel
theorem d_Lw_edge_16 : decode b_Lw_edge 16 = .ok (.ireturn, 1) := by decide +kernel
theorem d_Lw_edge_17 : decode b_Lw_edge 17 = .ok (.iconst 0, 1) := by decide +kernel
theorem d_Lw_edge_18 : decode b_Lw_edge 18 = .ok (.ireturn, 1) := by decide +kernel
theorem d_PP_edge_0 : decode b_PP_edge 0 = .ok (.aload_n 0, 1) := by decide +kernel
theorem d_PP_edge_1 : decode b_PP_edge 1 = .ok (.getfield 50, 3) := by decide +kernel
theorem d_PP_edge_4 : decode b_PP_edge 4 = .ok (.invokevirtual 95, 3) := by decide +kernel
theorem d_PP_edge_7 : decode b_PP_edge 7 = .ok (.istore_n 1, 1) := by decide +kernel
theorem d_PP_edge_8 : decode b_PP_edge 8 = .ok (.iload_n 1, 1) := by decide +kernel
theorem d_PP_edge_9 : decode b_PP_edge 9 = .ok (.iconst (-1), 1) := by decide +kernel
theorem d_PP_edge_10 : decode b_PP_edge 10 = .ok (.if_icmp .ne 13, 3) := by decide +kernel
theorem d_PP_edge_13 : decode b_PP_edge 13 = .ok (.new 99, 3) := by decide +kernel
theorem d_PP_edge_16 : decode b_PP_edge 16 = .ok (.dup, 1) := by decide +kernel
theorem d_PP_edge_17 : decode b_PP_edge 17 = .ok (.ldc 101, 2) := by decide +kernel
theorem d_PP_edge_19 : decode b_PP_edge 19 = .ok (.invokespecial 103, 3) := by decide +kernel
theorem d_PP_edge_22 : decode b_PP_edge 22 = .ok (.athrow, 1) := by decide +kernel
theorem d_PP_edge_23 : decode b_PP_edge 23 = .ok (.aload_n 0, 1) := by decide +kernel
theorem d_PP_edge_24 : decode b_PP_edge 24 = .ok (.getfield 54, 3) := by decide +kernel
theorem d_PP_edge_27 : decode b_PP_edge 27 = .ok (.invokevirtual 106, 3) := by decide +kernel
theorem d_PP_edge_30 : decode b_PP_edge 30 = .ok (.ifCond .eq 13, 3) := by decide +kernel
theorem d_PP_edge_33 : decode b_PP_edge 33 = .ok (.new 110, 3) := by decide +kernel
theorem d_PP_edge_36 : decode b_PP_edge 36 = .ok (.dup, 1) := by decide +kernel
theorem d_PP_edge_37 : decode b_PP_edge 37 = .ok (.ldc 112, 2) := by decide +kernel
theorem d_PP_edge_39 : decode b_PP_edge 39 = .ok (.invokespecial 114, 3) := by decide +kernel
theorem d_PP_edge_42 : decode b_PP_edge 42 = .ok (.athrow, 1) := by decide +kernel
theorem d_PP_edge_43 : decode b_PP_edge 43 = .ok (.aload_n 0, 1) := by decide +kernel
theorem d_PP_edge_44 : decode b_PP_edge 44 = .ok (.getfield 54, 3) := by decide +kernel
theorem d_PP_edge_47 : decode b_PP_edge 47 = .ok (.iload_n 1, 1) := by decide +kernel
theorem d_PP_edge_48 : decode b_PP_edge 48 = .ok (.aload_n 0, 1) := by decide +kernel
theorem d_PP_edge_49 : decode b_PP_edge 49 = .ok (.getfield 37, 3) := by decide +kernel
theorem d_PP_edge_52 : decode b_PP_edge 52 = .ok (.aload_n 0, 1) := by decide +kernel
theorem d_PP_edge_53 : decode b_PP_edge 53 = .ok (.getfield 41, 3) := by decide +kernel
theorem d_PP_edge_56 : decode b_PP_edge 56 = .ok (.invokevirtual 115, 3) := by decide +kernel
theorem d_PP_edge_59 : decode b_PP_edge 59 = .ok (.istore_n 2, 1) := by decide +kernel
theorem d_PP_edge_60 : decode b_PP_edge 60 = .ok (.aload_n 0, 1) := by decide +kernel
theorem d_PP_edge_61 : decode b_PP_edge 61 = .ok (.getfield 37, 3) := by decide +kernel
theorem d_PP_edge_64 : decode b_PP_edge 64 = .ok (.invokevirtual 92, 3) := by decide +kernel
theorem d_PP_edge_67 : decode b_PP_edge 67 = .ok (.aload_n 0, 1) := by decide +kernel
theorem d_PP_edge_68 : decode b_PP_edge 68 = .ok (.invokevirtual 119, 3) := by decide +kernel
theorem d_PP_edge_71 : decode b_PP_edge 71 = .ok (.iload_n 2, 1) := by decide +kernel
theorem d_PP_edge_72 : decode b_PP_edge 72 = .ok (.ireturn, 1) := by decide +kernel
theorem d_Pa_readEdge_0 : decode b_Pa_readEdge 0 = .ok (.aload_n 0, 1) := by decide +kernel
theorem d_Pa_readEdge_1 : decode b_Pa_readEdge 1 = .ok (.getfield 15, 3) := by decide +kernel
theorem d_Pa_readEdge_4 : decode b_Pa_readEdge 4 = .ok (.iconst 0, 1) := by decide +kernel
theorem d_Pa_readEdge_5 : decode b_Pa_readEdge 5 = .ok (.invokevirtual 23, 3) := by decide +kernel
theorem d_Pa_readEdge_8 : decode b_Pa_readEdge 8 = .ok (.invokestatic 29, 3) := by decide +kernel
theorem d_Pa_readEdge_11 : decode b_Pa_readEdge 11 = .ok (.ifCond .eq 30, 3) := by decide +kernel
theorem d_Pa_readEdge_14 : decode b_Pa_readEdge 14 = .ok (.aload_n 0, 1) := by decide +kernel
theorem d_Pa_readEdge_15 : decode b_Pa_readEdge 15 = .ok (.getfield 15, 3) := by decide +kernel
theorem d_Pa_readEdge_18 : decode b_Pa_readEdge 18 = .ok (.iconst 1, 1) := by decide +kernel
theorem d_Pa_readEdge_19 : decode b_Pa_readEdge 19 = .ok (.invokevirtual 23, 3) := by decide +kernel
theorem d_Pa_readEdge_22 : decode b_Pa_readEdge 22 = .ok (.invokestatic 29, 3) := by decide +kernel
theorem d_Pa_readEdge_25 : decode b_Pa_readEdge 25 = .ok (.ifCond .eq 16, 3) := by decide +kernel
theorem d_Pa_readEdge_28 : decode b_Pa_readEdge 28 = .ok (.aload_n 0, 1) := by decide +kernel
theorem d_Pa_readEdge_29 : decode b_Pa_readEdge 29 = .ok (.getfield 15, 3) := by decide +kernel
theorem d_Pa_readEdge_32 : decode b_Pa_readEdge 32 = .ok (.iconst 2, 1) := by decide +kernel
theorem d_Pa_readEdge_33 : decode b_Pa_readEdge 33 = .ok (.invokevirtual 23, 3) := by decide +kernel
theorem d_Pa_readEdge_36 : decode b_Pa_readEdge 36 = .ok (.bipush 32, 2) := by decide +kernel
theorem d_Pa_readEdge_38 : decode b_Pa_readEdge 38 = .ok (.if_icmp .eq 5, 3) := by decide +kernel
theorem d_Pa_readEdge_41 : decode b_Pa_readEdge 41 = .ok (.iconst (-1), 1) := by decide +kernel
theorem d_Pa_readEdge_42 : decode b_Pa_readEdge 42 = .ok (.ireturn, 1) := by decide +kernel
theorem d_Pa_readEdge_43 : decode b_Pa_readEdge 43 = .ok (.aload_n 0, 1) := by decide +kernel
theorem d_Pa_readEdge_44 : decode b_Pa_readEdge 44 = .ok (.getfield 15, 3) := by decide +kernel
theorem d_Pa_readEdge_47 : decode b_Pa_readEdge 47 = .ok (.iconst 3, 1) := by decide +kernel
theorem d_Pa_readEdge_48 : decode b_Pa_readEdge 48 = .ok (.invokevirtual 23, 3) := by decide +kernel
theorem d_Pa_readEdge_51 : decode b_Pa_readEdge 51 = .ok (.invokestatic 33, 3) := by decide +kernel
theorem d_Pa_readEdge_54 : decode b_Pa_readEdge 54 = .ok (.ifCond .eq 33, 3) := by decide +kernel
theorem d_Pa_readEdge_57 : decode b_Pa_readEdge 57 = .ok (.aload_n 0, 1) := by decide +kernel
theorem d_Pa_readEdge_58 : decode b_Pa_readEdge 58 = .ok (.getfield 15, 3) := by decide +kernel
theorem d_Pa_readEdge_61 : decode b_Pa_readEdge 61 = .ok (.iconst 4, 1) := by decide +kernel
theorem d_Pa_readEdge_62 : decode b_Pa_readEdge 62 = .ok (.invokevirtual 23, 3) := by decide +kernel
theorem d_Pa_readEdge_65 : decode b_Pa_readEdge 65 = .ok (.bipush 63, 2) := by decide +kernel
theorem d_Pa_readEdge_67 : decode b_Pa_readEdge 67 = .ok (.if_icmp .ne 20, 3) := by decide +kernel
theorem d_Pa_readEdge_70 : decode b_Pa_readEdge 70 = .ok (.aload_n 0, 1) := by decide +kernel
theorem d_Pa_readEdge_71 : decode b_Pa_readEdge 71 = .ok (.getfield 15, 3) := by decide +kernel
theorem d_Pa_readEdge_74 : decode b_Pa_readEdge 74 = .ok (.iconst 5, 1) := by decide +kernel
theorem d_Pa_readEdge_75 : decode b_Pa_readEdge 75 = .ok (.invokevirtual 23, 3) := by decide +kernel
theorem d_Pa_readEdge_78 : decode b_Pa_readEdge 78 = .ok (.ifCond .ne 7, 3) := by decide +kernel
theorem d_Pa_readEdge_81 : decode b_Pa_readEdge 81 = .ok (.iconst 2, 1) := by decide +kernel
theorem d_Pa_readEdge_82 : decode b_Pa_readEdge 82 = .ok (.goto 4, 3) := by decide +kernel
theorem d_Pa_readEdge_85 : decode b_Pa_readEdge 85 = .ok (.iconst (-1), 1) := by decide +kernel
theorem d_Pa_readEdge_86 : decode b_Pa_readEdge 86 = .ok (.ireturn, 1) := by decide +kernel
theorem d_Pa_readEdge_87 : decode b_Pa_readEdge 87 = .ok (.aload_n 0, 1) := by decide +kernel
theorem d_Pa_readEdge_88 : decode b_Pa_readEdge 88 = .ok (.getfield 15, 3) := by decide +kernel
theorem d_Pa_readEdge_91 : decode b_Pa_readEdge 91 = .ok (.iconst 3, 1) := by decide +kernel
theorem d_Pa_readEdge_92 : decode b_Pa_readEdge 92 = .ok (.invokevirtual 23, 3) := by decide +kernel
theorem d_Pa_readEdge_95 : decode b_Pa_readEdge 95 = .ok (.invokestatic 33, 3) := by decide +kernel
theorem d_Pa_readEdge_98 : decode b_Pa_readEdge 98 = .ok (.ifCond .eq 30, 3) := by decide +kernel
theorem d_Pa_readEdge_101 : decode b_Pa_readEdge 101 = .ok (.aload_n 0, 1) := by decide +kernel
theorem d_Pa_readEdge_102 : decode b_Pa_readEdge 102 = .ok (.getfield 15, 3) := by decide +kernel
theorem d_Pa_readEdge_105 : decode b_Pa_readEdge 105 = .ok (.iconst 4, 1) := by decide +kernel
theorem d_Pa_readEdge_106 : decode b_Pa_readEdge 106 = .ok (.invokevirtual 23, 3) := by decide +kernel
theorem d_Pa_readEdge_109 : decode b_Pa_readEdge 109 = .ok (.bipush 58, 2) := by decide +kernel
theorem d_Pa_readEdge_111 : decode b_Pa_readEdge 111 = .ok (.if_icmp .ne 17, 3) := by decide +kernel
theorem d_Pa_readEdge_114 : decode b_Pa_readEdge 114 = .ok (.aload_n 0, 1) := by decide +kernel
theorem d_Pa_readEdge_115 : decode b_Pa_readEdge 115 = .ok (.iconst 5, 1) := by decide +kernel
theorem d_Pa_readEdge_116 : decode b_Pa_readEdge 116 = .ok (.invokevirtual 38, 3) := by decide +kernel
theorem d_Pa_readEdge_119 : decode b_Pa_readEdge 119 = .ok (.ifCond .eq 7, 3) := by decide +kernel
theorem d_Pa_readEdge_122 : decode b_Pa_readEdge 122 = .ok (.iconst 1, 1) := by decide +kernel
theorem d_Pa_readEdge_123 : decode b_Pa_readEdge 123 = .ok (.goto 4, 3) := by decide +kernel
theorem d_Pa_readEdge_126 : decode b_Pa_readEdge 126 = .ok (.iconst (-1), 1) := by decide +kernel
theorem d_Pa_readEdge_127 : decode b_Pa_readEdge 127 = .ok (.ireturn, 1) := by decide +kernel
theorem d_Pa_readEdge_128 : decode b_Pa_readEdge 128 = .ok (.aload_n 0, 1) := by decide +kernel
theorem d_Pa_readEdge_129 : decode b_Pa_readEdge 129 = .ok (.iconst 3, 1) := by decide +kernel
theorem d_Pa_readEdge_130 : decode b_Pa_readEdge 130 = .ok (.invokevirtual 42, 3) := by decide +kernel
theorem d_Pa_readEdge_133 : decode b_Pa_readEdge 133 = .ok (.ifCond .eq 7, 3) := by decide +kernel
theorem d_Pa_readEdge_136 : decode b_Pa_readEdge 136 = .ok (.iconst 0, 1) := by decide +kernel
theorem d_Pa_readEdge_137 : decode b_Pa_readEdge 137 = .ok (.goto 4, 3) := by decide +kernel
theorem d_Pa_readEdge_140 : decode b_Pa_readEdge 140 = .ok (.iconst (-1), 1) := by decide +kernel
theorem d_Pa_readEdge_141 : decode b_Pa_readEdge 141 = .ok (.ireturn, 1) := by decide +kernel
theorem d_Li_at_0 : decode b_Li_at 0 = .ok (.iload_n 1, 1) := by decide +kernel
theorem d_Li_at_1 : decode b_Li_at 1 = .ok (.ifCond .lt 20, 3) := by decide +kernel
theorem d_Li_at_4 : decode b_Li_at 4 = .ok (.iload_n 1, 1) := by decide +kernel
theorem d_Li_at_5 : decode b_Li_at 5 = .ok (.aload_n 0, 1) := by decide +kernel
theorem d_Li_at_6 : decode b_Li_at 6 = .ok (.getfield 15, 3) := by decide +kernel
theorem d_Li_at_9 : decode b_Li_at 9 = .ok (.if_icmp .ge 12, 3) := by decide +kernel
theorem d_Li_at_12 : decode b_Li_at 12 = .ok (.aload_n 0, 1) := by decide +kernel
theorem d_Li_at_13 : decode b_Li_at 13 = .ok (.getfield 9, 3) := by decide +kernel
theorem d_Li_at_16 : decode b_Li_at 16 = .ok (.iload_n 1, 1) := by decide +kernel
theorem d_Li_at_17 : decode b_Li_at 17 = .ok (.caload, 1) := by decide +kernel
theorem d_Li_at_18 : decode b_Li_at 18 = .ok (.goto 4, 3) := by decide +kernel
theorem d_Li_at_21 : decode b_Li_at 21 = .ok (.iconst 0, 1) := by decide +kernel
theorem d_Li_at_22 : decode b_Li_at 22 = .ok (.ireturn, 1) := by decide +kernel
theorem d_Pa_isLocation_0 : decode b_Pa_isLocation 0 = .ok (.iload_n 0, 1) := by decide +kernel
theorem d_Pa_isLocation_1 : decode b_Pa_isLocation 1 = .ok (.bipush 65, 2) := by decide +kernel
theorem d_Pa_isLocation_3 : decode b_Pa_isLocation 3 = .ok (.if_icmp .lt 13, 3) := by decide +kernel
theorem d_Pa_isLocation_6 : decode b_Pa_isLocation 6 = .ok (.iload_n 0, 1) := by decide +kernel
theorem d_Pa_isLocation_7 : decode b_Pa_isLocation 7 = .ok (.bipush 77, 2) := by decide +kernel
theorem d_Pa_isLocation_9 : decode b_Pa_isLocation 9 = .ok (.if_icmp .ge 7, 3) := by decide +kernel
theorem d_Pa_isLocation_12 : decode b_Pa_isLocation 12 = .ok (.iconst 1, 1) := by decide +kernel
theorem d_Pa_isLocation_13 : decode b_Pa_isLocation 13 = .ok (.goto 4, 3) := by decide +kernel
theorem d_Pa_isLocation_16 : decode b_Pa_isLocation 16 = .ok (.iconst 0, 1) := by decide +kernel
theorem d_Pa_isLocation_17 : decode b_Pa_isLocation 17 = .ok (.ireturn, 1) := by decide +kernel
theorem d_Fo_isVariable_0 : decode b_Fo_isVariable 0 = .ok (.iload_n 0, 1) := by decide +kernel
theorem d_Fo_isVariable_1 : decode b_Fo_isVariable 1 = .ok (.bipush 120, 2) := by decide +kernel
theorem d_Fo_isVariable_3 : decode b_Fo_isVariable 3 = .ok (.if_icmp .lt 13, 3) := by decide +kernel
theorem d_Fo_isVariable_6 : decode b_Fo_isVariable 6 = .ok (.iload_n 0, 1) := by decide +kernel
theorem d_Fo_isVariable_7 : decode b_Fo_isVariable 7 = .ok (.bipush 122, 2) := by decide +kernel
theorem d_Fo_isVariable_9 : decode b_Fo_isVariable 9 = .ok (.if_icmp .gt 7, 3) := by decide +kernel
theorem d_Fo_isVariable_12 : decode b_Fo_isVariable 12 = .ok (.iconst 1, 1) := by decide +kernel
theorem d_Fo_isVariable_13 : decode b_Fo_isVariable 13 = .ok (.goto 4, 3) := by decide +kernel
theorem d_Fo_isVariable_16 : decode b_Fo_isVariable 16 = .ok (.iconst 0, 1) := by decide +kernel
theorem d_Fo_isVariable_17 : decode b_Fo_isVariable 17 = .ok (.ireturn, 1) := by decide +kernel
theorem d_Pa_readTerm_0 : decode b_Pa_readTerm 0 = .ok (.aload_n 0, 1) := by decide +kernel
theorem d_Pa_readTerm_1 : decode b_Pa_readTerm 1 = .ok (.iload_n 1, 1) := by decide +kernel
theorem d_Pa_readTerm_2 : decode b_Pa_readTerm 2 = .ok (.putfield 9, 3) := by decide +kernel
theorem d_Pa_readTerm_5 : decode b_Pa_readTerm 5 = .ok (.aload_n 0, 1) := by decide +kernel
theorem d_Pa_readTerm_6 : decode b_Pa_readTerm 6 = .ok (.getfield 19, 3) := by decide +kernel
theorem d_Pa_readTerm_9 : decode b_Pa_readTerm 9 = .ok (.invokevirtual 45, 3) := by decide +kernel
theorem d_Pa_readTerm_12 : decode b_Pa_readTerm 12 = .ok (.aload_n 0, 1) := by decide +kernel
theorem d_Pa_readTerm_13 : decode b_Pa_readTerm 13 = .ok (.iconst 0, 1) := by decide +kernel
theorem d_Pa_readTerm_14 : decode b_Pa_readTerm 14 = .ok (.invokevirtual 48, 3) := by decide +kernel
theorem d_Pa_readTerm_17 : decode b_Pa_readTerm 17 = .ok (.ifCond .eq 21, 3) := by decide +kernel
theorem d_Pa_readTerm_20 : decode b_Pa_readTerm 20 = .ok (.aload_n 0, 1) := by decide +kernel
theorem d_Pa_readTerm_21 : decode b_Pa_readTerm 21 = .ok (.getfield 15, 3) := by decide +kernel
theorem d_Pa_readTerm_24 : decode b_Pa_readTerm 24 = .ok (.aload_n 0, 1) := by decide +kernel
theorem d_Pa_readTerm_25 : decode b_Pa_readTerm 25 = .ok (.getfield 9, 3) := by decide +kernel
theorem d_Pa_readTerm_28 : decode b_Pa_readTerm 28 = .ok (.invokevirtual 23, 3) := by decide +kernel
theorem d_Pa_readTerm_31 : decode b_Pa_readTerm 31 = .ok (.ifCond .ne 7, 3) := by decide +kernel
theorem d_Pa_readTerm_34 : decode b_Pa_readTerm 34 = .ok (.iconst 1, 1) := by decide +kernel
theorem d_Pa_readTerm_35 : decode b_Pa_readTerm 35 = .ok (.goto 4, 3) := by decide +kernel
theorem d_Pa_readTerm_38 : decode b_Pa_readTerm 38 = .ok (.iconst 0, 1) := by decide +kernel
theorem d_Pa_readTerm_39 : decode b_Pa_readTerm 39 = .ok (.ireturn, 1) := by decide +kernel
theorem d_Fo_begin_0 : decode b_Fo_begin 0 = .ok (.aload_n 0, 1) := by decide +kernel
theorem d_Fo_begin_1 : decode b_Fo_begin 1 = .ok (.iconst 0, 1) := by decide +kernel
theorem d_Fo_begin_2 : decode b_Fo_begin 2 = .ok (.putfield 19, 3) := by decide +kernel
theorem d_Fo_begin_5 : decode b_Fo_begin 5 = .ok (.return_, 1) := by decide +kernel
theorem d_Pa_passTerm_0 : decode b_Pa_passTerm 0 = .ok (.aload_n 0, 1) := by decide +kernel
theorem d_Pa_passTerm_1 : decode b_Pa_passTerm 1 = .ok (.iload_n 1, 1) := by decide +kernel
theorem d_Pa_passTerm_2 : decode b_Pa_passTerm 2 = .ok (.invokevirtual 58, 3) := by decide +kernel
theorem d_Pa_passTerm_5 : decode b_Pa_passTerm 5 = .ok (.ifCond .ne 5, 3) := by decide +kernel
theorem d_Pa_passTerm_8 : decode b_Pa_passTerm 8 = .ok (.iconst 0, 1) := by decide +kernel
theorem d_Pa_passTerm_9 : decode b_Pa_passTerm 9 = .ok (.ireturn, 1) := by decide +kernel
theorem d_Pa_passTerm_10 : decode b_Pa_passTerm 10 = .ok (.iconst 0, 1) := by decide +kernel
theorem d_Pa_passTerm_11 : decode b_Pa_passTerm 11 = .ok (.istore_n 2, 1) := by decide +kernel
theorem d_Pa_passTerm_12 : decode b_Pa_passTerm 12 = .ok (.iload_n 2, 1) := by decide +kernel
theorem d_Pa_passTerm_13 : decode b_Pa_passTerm 13 = .ok (.bipush 24, 2) := by decide +kernel
theorem d_Pa_passTerm_15 : decode b_Pa_passTerm 15 = .ok (.if_icmp .ge 66, 3) := by decide +kernel
theorem d_Pa_passTerm_18 : decode b_Pa_passTerm 18 = .ok (.aload_n 0, 1) := by decide +kernel
theorem d_Pa_passTerm_19 : decode b_Pa_passTerm 19 = .ok (.getfield 15, 3) := by decide +kernel
theorem d_Pa_passTerm_22 : decode b_Pa_passTerm 22 = .ok (.aload_n 0, 1) := by decide +kernel
theorem d_Pa_passTerm_23 : decode b_Pa_passTerm 23 = .ok (.getfield 9, 3) := by decide +kernel
theorem d_Pa_passTerm_26 : decode b_Pa_passTerm 26 = .ok (.invokevirtual 23, 3) := by decide +kernel
theorem d_Pa_passTerm_29 : decode b_Pa_passTerm 29 = .ok (.invokestatic 61, 3) := by decide +kernel
theorem d_Pa_passTerm_32 : decode b_Pa_passTerm 32 = .ok (.ifCond .eq 49, 3) := by decide +kernel
theorem d_Pa_passTerm_35 : decode b_Pa_passTerm 35 = .ok (.aload_n 0, 1) := by decide +kernel
theorem d_Pa_passTerm_36 : decode b_Pa_passTerm 36 = .ok (.getfield 15, 3) := by decide +kernel
theorem d_Pa_passTerm_39 : decode b_Pa_passTerm 39 = .ok (.aload_n 0, 1) := by decide +kernel
theorem d_Pa_passTerm_40 : decode b_Pa_passTerm 40 = .ok (.getfield 9, 3) := by decide +kernel
theorem d_Pa_passTerm_43 : decode b_Pa_passTerm 43 = .ok (.invokevirtual 23, 3) := by decide +kernel
theorem d_Pa_passTerm_46 : decode b_Pa_passTerm 46 = .ok (.istore_n 3, 1) := by decide +kernel
theorem d_Pa_passTerm_47 : decode b_Pa_passTerm 47 = .ok (.aload_n 0, 1) := by decide +kernel
theorem d_Pa_passTerm_48 : decode b_Pa_passTerm 48 = .ok (.dup, 1) := by decide +kernel
theorem d_Pa_passTerm_49 : decode b_Pa_passTerm 49 = .ok (.getfield 9, 3) := by decide +kernel
theorem d_Pa_passTerm_52 : decode b_Pa_passTerm 52 = .ok (.iconst 1, 1) := by decide +kernel
theorem d_Pa_passTerm_53 : decode b_Pa_passTerm 53 = .ok (.iadd, 1) := by decide +kernel
theorem d_Pa_passTerm_54 : decode b_Pa_passTerm 54 = .ok (.putfield 9, 3) := by decide +kernel
theorem d_Pa_passTerm_57 : decode b_Pa_passTerm 57 = .ok (.aload_n 0, 1) := by decide +kernel
theorem d_Pa_passTerm_58 : decode b_Pa_passTerm 58 = .ok (.iload_n 1, 1) := by decide +kernel
theorem d_Pa_passTerm_59 : decode b_Pa_passTerm 59 = .ok (.invokevirtual 58, 3) := by decide +kernel
theorem d_Pa_passTerm_62 : decode b_Pa_passTerm 62 = .ok (.ifCond .ne 5, 3) := by decide +kernel
theorem d_Pa_passTerm_65 : decode b_Pa_passTerm 65 = .ok (.iconst 0, 1) := by decide +kernel
theorem d_Pa_passTerm_66 : decode b_Pa_passTerm 66 = .ok (.ireturn, 1) := by decide +kernel
theorem d_Pa_passTerm_67 : decode b_Pa_passTerm 67 = .ok (.aload_n 0, 1) := by decide +kernel
theorem d_Pa_passTerm_68 : decode b_Pa_passTerm 68 = .ok (.getfield 19, 3) := by decide +kernel
theorem d_Pa_passTerm_71 : decode b_Pa_passTerm 71 = .ok (.iload_n 3, 1) := by decide +kernel
theorem d_Pa_passTerm_72 : decode b_Pa_passTerm 72 = .ok (.invokevirtual 54, 3) := by decide +kernel
theorem d_Pa_passTerm_75 : decode b_Pa_passTerm 75 = .ok (.iinc 2 1, 3) := by decide +kernel
theorem d_Pa_passTerm_78 : decode b_Pa_passTerm 78 = .ok (.goto (-66), 3) := by decide +kernel
theorem d_Pa_passTerm_81 : decode b_Pa_passTerm 81 = .ok (.iconst 1, 1) := by decide +kernel
theorem d_Pa_passTerm_82 : decode b_Pa_passTerm 82 = .ok (.ireturn, 1) := by decide +kernel
theorem d_Pa_passPart_0 : decode b_Pa_passPart 0 = .ok (.aload_n 0, 1) := by decide +kernel
theorem d_Pa_passPart_1 : decode b_Pa_passPart 1 = .ok (.getfield 15, 3) := by decide +kernel
theorem d_Pa_passPart_4 : decode b_Pa_passPart 4 = .ok (.aload_n 0, 1) := by decide +kernel
theorem d_Pa_passPart_5 : decode b_Pa_passPart 5 = .ok (.getfield 9, 3) := by decide +kernel
theorem d_Pa_passPart_8 : decode b_Pa_passPart 8 = .ok (.invokevirtual 23, 3) := by decide +kernel
end
section
theorem d_Pa_passPart_11 : decode b_Pa_passPart 11 = .ok (.istore_n 2, 1) := by decide +kernel
theorem d_Pa_passPart_12 : decode b_Pa_passPart 12 = .ok (.iload_n 2, 1) := by decide +kernel
theorem d_Pa_passPart_13 : decode b_Pa_passPart 13 = .ok (.invokestatic 33, 3) := by decide +kernel
theorem d_Pa_passPart_16 : decode b_Pa_passPart 16 = .ok (.ifCond .ne 10, 3) := by decide +kernel
theorem d_Pa_passPart_19 : decode b_Pa_passPart 19 = .ok (.iload_n 2, 1) := by decide +kernel
theorem d_Pa_passPart_20 : decode b_Pa_passPart 20 = .ok (.invokestatic 64, 3) := by decide +kernel
theorem d_Pa_passPart_23 : decode b_Pa_passPart 23 = .ok (.ifCond .eq 23, 3) := by decide +kernel
theorem d_Pa_passPart_26 : decode b_Pa_passPart 26 = .ok (.aload_n 0, 1) := by decide +kernel
theorem d_Pa_passPart_27 : decode b_Pa_passPart 27 = .ok (.getfield 19, 3) := by decide +kernel
theorem d_Pa_passPart_30 : decode b_Pa_passPart 30 = .ok (.iload_n 2, 1) := by decide +kernel
theorem d_Pa_passPart_31 : decode b_Pa_passPart 31 = .ok (.invokevirtual 54, 3) := by decide +kernel
theorem d_Pa_passPart_34 : decode b_Pa_passPart 34 = .ok (.aload_n 0, 1) := by decide +kernel
theorem d_Pa_passPart_35 : decode b_Pa_passPart 35 = .ok (.dup, 1) := by decide +kernel
theorem d_Pa_passPart_36 : decode b_Pa_passPart 36 = .ok (.getfield 9, 3) := by decide +kernel
theorem d_Pa_passPart_39 : decode b_Pa_passPart 39 = .ok (.iconst 1, 1) := by decide +kernel
theorem d_Pa_passPart_40 : decode b_Pa_passPart 40 = .ok (.iadd, 1) := by decide +kernel
theorem d_Pa_passPart_41 : decode b_Pa_passPart 41 = .ok (.putfield 9, 3) := by decide +kernel
theorem d_Pa_passPart_44 : decode b_Pa_passPart 44 = .ok (.iconst 1, 1) := by decide +kernel
theorem d_Pa_passPart_45 : decode b_Pa_passPart 45 = .ok (.ireturn, 1) := by decide +kernel
theorem d_Pa_passPart_46 : decode b_Pa_passPart 46 = .ok (.iload_n 2, 1) := by decide +kernel
theorem d_Pa_passPart_47 : decode b_Pa_passPart 47 = .ok (.bipush 40, 2) := by decide +kernel
theorem d_Pa_passPart_49 : decode b_Pa_passPart 49 = .ok (.if_icmp .ne 8, 3) := by decide +kernel
theorem d_Pa_passPart_52 : decode b_Pa_passPart 52 = .ok (.iload_n 1, 1) := by decide +kernel
theorem d_Pa_passPart_53 : decode b_Pa_passPart 53 = .ok (.iconst 4, 1) := by decide +kernel
theorem d_Pa_passPart_54 : decode b_Pa_passPart 54 = .ok (.if_icmp .lt 5, 3) := by decide +kernel
theorem d_Pa_passPart_57 : decode b_Pa_passPart 57 = .ok (.iconst 0, 1) := by decide +kernel
theorem d_Pa_passPart_58 : decode b_Pa_passPart 58 = .ok (.ireturn, 1) := by decide +kernel
theorem d_Pa_passPart_59 : decode b_Pa_passPart 59 = .ok (.aload_n 0, 1) := by decide +kernel
theorem d_Pa_passPart_60 : decode b_Pa_passPart 60 = .ok (.dup, 1) := by decide +kernel
theorem d_Pa_passPart_61 : decode b_Pa_passPart 61 = .ok (.getfield 9, 3) := by decide +kernel
theorem d_Pa_passPart_64 : decode b_Pa_passPart 64 = .ok (.iconst 1, 1) := by decide +kernel
theorem d_Pa_passPart_65 : decode b_Pa_passPart 65 = .ok (.iadd, 1) := by decide +kernel
theorem d_Pa_passPart_66 : decode b_Pa_passPart 66 = .ok (.putfield 9, 3) := by decide +kernel
theorem d_Pa_passPart_69 : decode b_Pa_passPart 69 = .ok (.aload_n 0, 1) := by decide +kernel
theorem d_Pa_passPart_70 : decode b_Pa_passPart 70 = .ok (.iload_n 1, 1) := by decide +kernel
theorem d_Pa_passPart_71 : decode b_Pa_passPart 71 = .ok (.iconst 1, 1) := by decide +kernel
theorem d_Pa_passPart_72 : decode b_Pa_passPart 72 = .ok (.iadd, 1) := by decide +kernel
theorem d_Pa_passPart_73 : decode b_Pa_passPart 73 = .ok (.invokevirtual 48, 3) := by decide +kernel
theorem d_Pa_passPart_76 : decode b_Pa_passPart 76 = .ok (.ifCond .eq 19, 3) := by decide +kernel
theorem d_Pa_passPart_79 : decode b_Pa_passPart 79 = .ok (.aload_n 0, 1) := by decide +kernel
theorem d_Pa_passPart_80 : decode b_Pa_passPart 80 = .ok (.getfield 15, 3) := by decide +kernel
theorem d_Pa_passPart_83 : decode b_Pa_passPart 83 = .ok (.aload_n 0, 1) := by decide +kernel
theorem d_Pa_passPart_84 : decode b_Pa_passPart 84 = .ok (.getfield 9, 3) := by decide +kernel
theorem d_Pa_passPart_87 : decode b_Pa_passPart 87 = .ok (.invokevirtual 23, 3) := by decide +kernel
theorem d_Pa_passPart_90 : decode b_Pa_passPart 90 = .ok (.bipush 41, 2) := by decide +kernel
theorem d_Pa_passPart_92 : decode b_Pa_passPart 92 = .ok (.if_icmp .eq 5, 3) := by decide +kernel
theorem d_Pa_passPart_95 : decode b_Pa_passPart 95 = .ok (.iconst 0, 1) := by decide +kernel
theorem d_Pa_passPart_96 : decode b_Pa_passPart 96 = .ok (.ireturn, 1) := by decide +kernel
theorem d_Pa_passPart_97 : decode b_Pa_passPart 97 = .ok (.aload_n 0, 1) := by decide +kernel
theorem d_Pa_passPart_98 : decode b_Pa_passPart 98 = .ok (.dup, 1) := by decide +kernel
theorem d_Pa_passPart_99 : decode b_Pa_passPart 99 = .ok (.getfield 9, 3) := by decide +kernel
theorem d_Pa_passPart_102 : decode b_Pa_passPart 102 = .ok (.iconst 1, 1) := by decide +kernel
theorem d_Pa_passPart_103 : decode b_Pa_passPart 103 = .ok (.iadd, 1) := by decide +kernel
theorem d_Pa_passPart_104 : decode b_Pa_passPart 104 = .ok (.putfield 9, 3) := by decide +kernel
theorem d_Pa_passPart_107 : decode b_Pa_passPart 107 = .ok (.iconst 1, 1) := by decide +kernel
theorem d_Pa_passPart_108 : decode b_Pa_passPart 108 = .ok (.ireturn, 1) := by decide +kernel
theorem d_Fo_isDigit_0 : decode b_Fo_isDigit 0 = .ok (.iload_n 0, 1) := by decide +kernel
theorem d_Fo_isDigit_1 : decode b_Fo_isDigit 1 = .ok (.bipush 48, 2) := by decide +kernel
theorem d_Fo_isDigit_3 : decode b_Fo_isDigit 3 = .ok (.if_icmp .lt 13, 3) := by decide +kernel
theorem d_Fo_isDigit_6 : decode b_Fo_isDigit 6 = .ok (.iload_n 0, 1) := by decide +kernel
theorem d_Fo_isDigit_7 : decode b_Fo_isDigit 7 = .ok (.bipush 55, 2) := by decide +kernel
theorem d_Fo_isDigit_9 : decode b_Fo_isDigit 9 = .ok (.if_icmp .gt 7, 3) := by decide +kernel
theorem d_Fo_isDigit_12 : decode b_Fo_isDigit 12 = .ok (.iconst 1, 1) := by decide +kernel
theorem d_Fo_isDigit_13 : decode b_Fo_isDigit 13 = .ok (.goto 4, 3) := by decide +kernel
theorem d_Fo_isDigit_16 : decode b_Fo_isDigit 16 = .ok (.iconst 0, 1) := by decide +kernel
theorem d_Fo_isDigit_17 : decode b_Fo_isDigit 17 = .ok (.ireturn, 1) := by decide +kernel
theorem d_Fo_add_0 : decode b_Fo_add 0 = .ok (.aload_n 0, 1) := by decide +kernel
theorem d_Fo_add_1 : decode b_Fo_add 1 = .ok (.getfield 19, 3) := by decide +kernel
theorem d_Fo_add_4 : decode b_Fo_add 4 = .ok (.bipush 24, 2) := by decide +kernel
theorem d_Fo_add_6 : decode b_Fo_add 6 = .ok (.if_icmp .ge 23, 3) := by decide +kernel
theorem d_Fo_add_9 : decode b_Fo_add 9 = .ok (.aload_n 0, 1) := by decide +kernel
theorem d_Fo_add_10 : decode b_Fo_add 10 = .ok (.getfield 9, 3) := by decide +kernel
theorem d_Fo_add_13 : decode b_Fo_add 13 = .ok (.aload_n 0, 1) := by decide +kernel
theorem d_Fo_add_14 : decode b_Fo_add 14 = .ok (.getfield 19, 3) := by decide +kernel
theorem d_Fo_add_17 : decode b_Fo_add 17 = .ok (.iload_n 1, 1) := by decide +kernel
theorem d_Fo_add_18 : decode b_Fo_add 18 = .ok (.castore, 1) := by decide +kernel
theorem d_Fo_add_19 : decode b_Fo_add 19 = .ok (.aload_n 0, 1) := by decide +kernel
theorem d_Fo_add_20 : decode b_Fo_add 20 = .ok (.dup, 1) := by decide +kernel
theorem d_Fo_add_21 : decode b_Fo_add 21 = .ok (.getfield 19, 3) := by decide +kernel
theorem d_Fo_add_24 : decode b_Fo_add 24 = .ok (.iconst 1, 1) := by decide +kernel
theorem d_Fo_add_25 : decode b_Fo_add 25 = .ok (.iadd, 1) := by decide +kernel
theorem d_Fo_add_26 : decode b_Fo_add 26 = .ok (.putfield 19, 3) := by decide +kernel
theorem d_Fo_add_29 : decode b_Fo_add 29 = .ok (.return_, 1) := by decide +kernel
theorem d_Pa_isOperator_0 : decode b_Pa_isOperator 0 = .ok (.iload_n 0, 1) := by decide +kernel
theorem d_Pa_isOperator_1 : decode b_Pa_isOperator 1 = .ok (.bipush 43, 2) := by decide +kernel
theorem d_Pa_isOperator_3 : decode b_Pa_isOperator 3 = .ok (.if_icmp .eq 27, 3) := by decide +kernel
theorem d_Pa_isOperator_6 : decode b_Pa_isOperator 6 = .ok (.iload_n 0, 1) := by decide +kernel
theorem d_Pa_isOperator_7 : decode b_Pa_isOperator 7 = .ok (.bipush 45, 2) := by decide +kernel
theorem d_Pa_isOperator_9 : decode b_Pa_isOperator 9 = .ok (.if_icmp .eq 21, 3) := by decide +kernel
theorem d_Pa_isOperator_12 : decode b_Pa_isOperator 12 = .ok (.iload_n 0, 1) := by decide +kernel
theorem d_Pa_isOperator_13 : decode b_Pa_isOperator 13 = .ok (.bipush 42, 2) := by decide +kernel
theorem d_Pa_isOperator_15 : decode b_Pa_isOperator 15 = .ok (.if_icmp .eq 15, 3) := by decide +kernel
theorem d_Pa_isOperator_18 : decode b_Pa_isOperator 18 = .ok (.iload_n 0, 1) := by decide +kernel
theorem d_Pa_isOperator_19 : decode b_Pa_isOperator 19 = .ok (.bipush 38, 2) := by decide +kernel
theorem d_Pa_isOperator_21 : decode b_Pa_isOperator 21 = .ok (.if_icmp .eq 9, 3) := by decide +kernel
theorem d_Pa_isOperator_24 : decode b_Pa_isOperator 24 = .ok (.iload_n 0, 1) := by decide +kernel
theorem d_Pa_isOperator_25 : decode b_Pa_isOperator 25 = .ok (.bipush 94, 2) := by decide +kernel
theorem d_Pa_isOperator_27 : decode b_Pa_isOperator 27 = .ok (.if_icmp .ne 7, 3) := by decide +kernel
theorem d_Pa_isOperator_30 : decode b_Pa_isOperator 30 = .ok (.iconst 1, 1) := by decide +kernel
theorem d_Pa_isOperator_31 : decode b_Pa_isOperator 31 = .ok (.goto 4, 3) := by decide +kernel
theorem d_Pa_isOperator_34 : decode b_Pa_isOperator 34 = .ok (.iconst 0, 1) := by decide +kernel
theorem d_Pa_isOperator_35 : decode b_Pa_isOperator 35 = .ok (.ireturn, 1) := by decide +kernel
theorem d_Pa_readAtom_0 : decode b_Pa_readAtom 0 = .ok (.aload_n 0, 1) := by decide +kernel
theorem d_Pa_readAtom_1 : decode b_Pa_readAtom 1 = .ok (.iload_n 1, 1) := by decide +kernel
theorem d_Pa_readAtom_2 : decode b_Pa_readAtom 2 = .ok (.putfield 9, 3) := by decide +kernel
theorem d_Pa_readAtom_5 : decode b_Pa_readAtom 5 = .ok (.aload_n 0, 1) := by decide +kernel
theorem d_Pa_readAtom_6 : decode b_Pa_readAtom 6 = .ok (.getfield 19, 3) := by decide +kernel
theorem d_Pa_readAtom_9 : decode b_Pa_readAtom 9 = .ok (.invokevirtual 45, 3) := by decide +kernel
theorem d_Pa_readAtom_12 : decode b_Pa_readAtom 12 = .ok (.aload_n 0, 1) := by decide +kernel
theorem d_Pa_readAtom_13 : decode b_Pa_readAtom 13 = .ok (.iconst 0, 1) := by decide +kernel
theorem d_Pa_readAtom_14 : decode b_Pa_readAtom 14 = .ok (.invokevirtual 48, 3) := by decide +kernel
theorem d_Pa_readAtom_17 : decode b_Pa_readAtom 17 = .ok (.ifCond .ne 5, 3) := by decide +kernel
theorem d_Pa_readAtom_20 : decode b_Pa_readAtom 20 = .ok (.iconst 0, 1) := by decide +kernel
theorem d_Pa_readAtom_21 : decode b_Pa_readAtom 21 = .ok (.ireturn, 1) := by decide +kernel
theorem d_Pa_readAtom_22 : decode b_Pa_readAtom 22 = .ok (.aload_n 0, 1) := by decide +kernel
theorem d_Pa_readAtom_23 : decode b_Pa_readAtom 23 = .ok (.getfield 15, 3) := by decide +kernel
theorem d_Pa_readAtom_26 : decode b_Pa_readAtom 26 = .ok (.aload_n 0, 1) := by decide +kernel
theorem d_Pa_readAtom_27 : decode b_Pa_readAtom 27 = .ok (.getfield 9, 3) := by decide +kernel
theorem d_Pa_readAtom_30 : decode b_Pa_readAtom 30 = .ok (.invokevirtual 23, 3) := by decide +kernel
theorem d_Pa_readAtom_33 : decode b_Pa_readAtom 33 = .ok (.istore_n 2, 1) := by decide +kernel
theorem d_Pa_readAtom_34 : decode b_Pa_readAtom 34 = .ok (.iload_n 2, 1) := by decide +kernel
theorem d_Pa_readAtom_35 : decode b_Pa_readAtom 35 = .ok (.invokestatic 51, 3) := by decide +kernel
theorem d_Pa_readAtom_38 : decode b_Pa_readAtom 38 = .ok (.ifCond .ne 5, 3) := by decide +kernel
theorem d_Pa_readAtom_41 : decode b_Pa_readAtom 41 = .ok (.iconst 0, 1) := by decide +kernel
theorem d_Pa_readAtom_42 : decode b_Pa_readAtom 42 = .ok (.ireturn, 1) := by decide +kernel
theorem d_Pa_readAtom_43 : decode b_Pa_readAtom 43 = .ok (.aload_n 0, 1) := by decide +kernel
theorem d_Pa_readAtom_44 : decode b_Pa_readAtom 44 = .ok (.dup, 1) := by decide +kernel
theorem d_Pa_readAtom_45 : decode b_Pa_readAtom 45 = .ok (.getfield 9, 3) := by decide +kernel
theorem d_Pa_readAtom_48 : decode b_Pa_readAtom 48 = .ok (.iconst 1, 1) := by decide +kernel
theorem d_Pa_readAtom_49 : decode b_Pa_readAtom 49 = .ok (.iadd, 1) := by decide +kernel
theorem d_Pa_readAtom_50 : decode b_Pa_readAtom 50 = .ok (.putfield 9, 3) := by decide +kernel
theorem d_Pa_readAtom_53 : decode b_Pa_readAtom 53 = .ok (.aload_n 0, 1) := by decide +kernel
theorem d_Pa_readAtom_54 : decode b_Pa_readAtom 54 = .ok (.iconst 0, 1) := by decide +kernel
theorem d_Pa_readAtom_55 : decode b_Pa_readAtom 55 = .ok (.invokevirtual 48, 3) := by decide +kernel
theorem d_Pa_readAtom_58 : decode b_Pa_readAtom 58 = .ok (.ifCond .ne 5, 3) := by decide +kernel
theorem d_Pa_readAtom_61 : decode b_Pa_readAtom 61 = .ok (.iconst 0, 1) := by decide +kernel
theorem d_Pa_readAtom_62 : decode b_Pa_readAtom 62 = .ok (.ireturn, 1) := by decide +kernel
theorem d_Pa_readAtom_63 : decode b_Pa_readAtom 63 = .ok (.aload_n 0, 1) := by decide +kernel
theorem d_Pa_readAtom_64 : decode b_Pa_readAtom 64 = .ok (.getfield 19, 3) := by decide +kernel
theorem d_Pa_readAtom_67 : decode b_Pa_readAtom 67 = .ok (.iload_n 2, 1) := by decide +kernel
theorem d_Pa_readAtom_68 : decode b_Pa_readAtom 68 = .ok (.invokevirtual 54, 3) := by decide +kernel
theorem d_Pa_readAtom_71 : decode b_Pa_readAtom 71 = .ok (.aload_n 0, 1) := by decide +kernel
theorem d_Pa_readAtom_72 : decode b_Pa_readAtom 72 = .ok (.getfield 15, 3) := by decide +kernel
theorem d_Pa_readAtom_75 : decode b_Pa_readAtom 75 = .ok (.aload_n 0, 1) := by decide +kernel
theorem d_Pa_readAtom_76 : decode b_Pa_readAtom 76 = .ok (.getfield 9, 3) := by decide +kernel
theorem d_Pa_readAtom_79 : decode b_Pa_readAtom 79 = .ok (.invokevirtual 23, 3) := by decide +kernel
theorem d_Pa_readAtom_82 : decode b_Pa_readAtom 82 = .ok (.ifCond .ne 7, 3) := by decide +kernel
theorem d_Pa_readAtom_85 : decode b_Pa_readAtom 85 = .ok (.iconst 1, 1) := by decide +kernel
theorem d_Pa_readAtom_86 : decode b_Pa_readAtom 86 = .ok (.goto 4, 3) := by decide +kernel
theorem d_Pa_readAtom_89 : decode b_Pa_readAtom 89 = .ok (.iconst 0, 1) := by decide +kernel
theorem d_Pa_readAtom_90 : decode b_Pa_readAtom 90 = .ok (.ireturn, 1) := by decide +kernel
theorem d_Pa_isComparison_0 : decode b_Pa_isComparison 0 = .ok (.iload_n 0, 1) := by decide +kernel
theorem d_Pa_isComparison_1 : decode b_Pa_isComparison 1 = .ok (.bipush 60, 2) := by decide +kernel
theorem d_Pa_isComparison_3 : decode b_Pa_isComparison 3 = .ok (.if_icmp .eq 15, 3) := by decide +kernel
theorem d_Pa_isComparison_6 : decode b_Pa_isComparison 6 = .ok (.iload_n 0, 1) := by decide +kernel
theorem d_Pa_isComparison_7 : decode b_Pa_isComparison 7 = .ok (.bipush 61, 2) := by decide +kernel
theorem d_Pa_isComparison_9 : decode b_Pa_isComparison 9 = .ok (.if_icmp .eq 9, 3) := by decide +kernel
theorem d_Pa_isComparison_12 : decode b_Pa_isComparison 12 = .ok (.iload_n 0, 1) := by decide +kernel
theorem d_Pa_isComparison_13 : decode b_Pa_isComparison 13 = .ok (.bipush 35, 2) := by decide +kernel
theorem d_Pa_isComparison_15 : decode b_Pa_isComparison 15 = .ok (.if_icmp .ne 7, 3) := by decide +kernel
theorem d_Pa_isComparison_18 : decode b_Pa_isComparison 18 = .ok (.iconst 1, 1) := by decide +kernel
theorem d_Pa_isComparison_19 : decode b_Pa_isComparison 19 = .ok (.goto 4, 3) := by decide +kernel
theorem d_Pa_isComparison_22 : decode b_Pa_isComparison 22 = .ok (.iconst 0, 1) := by decide +kernel
theorem d_Pa_isComparison_23 : decode b_Pa_isComparison 23 = .ok (.ireturn, 1) := by decide +kernel
theorem d_Pr_isFull_0 : decode b_Pr_isFull 0 = .ok (.aload_n 0, 1) := by decide +kernel
theorem d_Pr_isFull_1 : decode b_Pr_isFull 1 = .ok (.getfield 24, 3) := by decide +kernel
theorem d_Pr_isFull_4 : decode b_Pr_isFull 4 = .ok (.bipush 20, 2) := by decide +kernel
theorem d_Pr_isFull_6 : decode b_Pr_isFull 6 = .ok (.if_icmp .lt 7, 3) := by decide +kernel
theorem d_Pr_isFull_9 : decode b_Pr_isFull 9 = .ok (.iconst 1, 1) := by decide +kernel
theorem d_Pr_isFull_10 : decode b_Pr_isFull 10 = .ok (.goto 4, 3) := by decide +kernel
theorem d_Pr_isFull_13 : decode b_Pr_isFull 13 = .ok (.iconst 0, 1) := by decide +kernel
theorem d_Pr_isFull_14 : decode b_Pr_isFull 14 = .ok (.ireturn, 1) := by decide +kernel
theorem d_Pr_add_0 : decode b_Pr_add 0 = .ok (.aload_n 0, 1) := by decide +kernel
theorem d_Pr_add_1 : decode b_Pr_add 1 = .ok (.getfield 24, 3) := by decide +kernel
theorem d_Pr_add_4 : decode b_Pr_add 4 = .ok (.istore 4, 2) := by decide +kernel
theorem d_Pr_add_6 : decode b_Pr_add 6 = .ok (.aload_n 0, 1) := by decide +kernel
theorem d_Pr_add_7 : decode b_Pr_add 7 = .ok (.getfield 9, 3) := by decide +kernel
theorem d_Pr_add_10 : decode b_Pr_add 10 = .ok (.iload 4, 2) := by decide +kernel
theorem d_Pr_add_12 : decode b_Pr_add 12 = .ok (.aload_n 2, 1) := by decide +kernel
theorem d_Pr_add_13 : decode b_Pr_add 13 = .ok (.iconst 0, 1) := by decide +kernel
theorem d_Pr_add_14 : decode b_Pr_add 14 = .ok (.invokevirtual 42, 3) := by decide +kernel
theorem d_Pr_add_17 : decode b_Pr_add 17 = .ok (.bipush 65, 2) := by decide +kernel
theorem d_Pr_add_19 : decode b_Pr_add 19 = .ok (.isub, 1) := by decide +kernel
theorem d_Pr_add_20 : decode b_Pr_add 20 = .ok (.iastore, 1) := by decide +kernel
theorem d_Pr_add_21 : decode b_Pr_add 21 = .ok (.aload_n 0, 1) := by decide +kernel
theorem d_Pr_add_22 : decode b_Pr_add 22 = .ok (.getfield 15, 3) := by decide +kernel
theorem d_Pr_add_25 : decode b_Pr_add 25 = .ok (.iload 4, 2) := by decide +kernel
theorem d_Pr_add_27 : decode b_Pr_add 27 = .ok (.aload_n 2, 1) := by decide +kernel
theorem d_Pr_add_28 : decode b_Pr_add 28 = .ok (.iconst 1, 1) := by decide +kernel
theorem d_Pr_add_29 : decode b_Pr_add 29 = .ok (.invokevirtual 42, 3) := by decide +kernel
theorem d_Pr_add_32 : decode b_Pr_add 32 = .ok (.bipush 65, 2) := by decide +kernel
theorem d_Pr_add_34 : decode b_Pr_add 34 = .ok (.isub, 1) := by decide +kernel
theorem d_Pr_add_35 : decode b_Pr_add 35 = .ok (.iastore, 1) := by decide +kernel
theorem d_Pr_add_36 : decode b_Pr_add 36 = .ok (.aload_n 0, 1) := by decide +kernel
theorem d_Pr_add_37 : decode b_Pr_add 37 = .ok (.getfield 18, 3) := by decide +kernel
theorem d_Pr_add_40 : decode b_Pr_add 40 = .ok (.iload 4, 2) := by decide +kernel
theorem d_Pr_add_42 : decode b_Pr_add 42 = .ok (.iload_n 1, 1) := by decide +kernel
theorem d_Pr_add_43 : decode b_Pr_add 43 = .ok (.iastore, 1) := by decide +kernel
theorem d_Pr_add_44 : decode b_Pr_add 44 = .ok (.aload_n 0, 1) := by decide +kernel
theorem d_Pr_add_45 : decode b_Pr_add 45 = .ok (.getfield 21, 3) := by decide +kernel
theorem d_Pr_add_48 : decode b_Pr_add 48 = .ok (.iload 4, 2) := by decide +kernel
theorem d_Pr_add_50 : decode b_Pr_add 50 = .ok (.iload_n 1, 1) := by decide +kernel
theorem d_Pr_add_51 : decode b_Pr_add 51 = .ok (.ifCond .ne 7, 3) := by decide +kernel
theorem d_Pr_add_54 : decode b_Pr_add 54 = .ok (.iconst 0, 1) := by decide +kernel
theorem d_Pr_add_55 : decode b_Pr_add 55 = .ok (.goto 11, 3) := by decide +kernel
theorem d_Pr_add_58 : decode b_Pr_add 58 = .ok (.aload_n 2, 1) := by decide +kernel
theorem d_Pr_add_59 : decode b_Pr_add 59 = .ok (.iconst 3, 1) := by decide +kernel
theorem d_Pr_add_60 : decode b_Pr_add 60 = .ok (.invokevirtual 42, 3) := by decide +kernel
theorem d_Pr_add_63 : decode b_Pr_add 63 = .ok (.bipush 120, 2) := by decide +kernel
theorem d_Pr_add_65 : decode b_Pr_add 65 = .ok (.isub, 1) := by decide +kernel
theorem d_Pr_add_66 : decode b_Pr_add 66 = .ok (.iastore, 1) := by decide +kernel
theorem d_Pr_add_67 : decode b_Pr_add 67 = .ok (.iconst 0, 1) := by decide +kernel
theorem d_Pr_add_68 : decode b_Pr_add 68 = .ok (.istore 5, 2) := by decide +kernel
theorem d_Pr_add_70 : decode b_Pr_add 70 = .ok (.iload 5, 2) := by decide +kernel
theorem d_Pr_add_72 : decode b_Pr_add 72 = .ok (.aload_n 0, 1) := by decide +kernel
theorem d_Pr_add_73 : decode b_Pr_add 73 = .ok (.getfield 28, 3) := by decide +kernel
theorem d_Pr_add_76 : decode b_Pr_add 76 = .ok (.getfield 32, 3) := by decide +kernel
theorem d_Pr_add_79 : decode b_Pr_add 79 = .ok (.if_icmp .ge 28, 3) := by decide +kernel
theorem d_Pr_add_82 : decode b_Pr_add 82 = .ok (.aload_n 0, 1) := by decide +kernel
theorem d_Pr_add_83 : decode b_Pr_add 83 = .ok (.getfield 39, 3) := by decide +kernel
theorem d_Pr_add_86 : decode b_Pr_add 86 = .ok (.iload 4, 2) := by decide +kernel
theorem d_Pr_add_88 : decode b_Pr_add 88 = .ok (.aaload, 1) := by decide +kernel
theorem d_Pr_add_89 : decode b_Pr_add 89 = .ok (.iload 5, 2) := by decide +kernel
theorem d_Pr_add_91 : decode b_Pr_add 91 = .ok (.aload_n 0, 1) := by decide +kernel
theorem d_Pr_add_92 : decode b_Pr_add 92 = .ok (.iload 4, 2) := by decide +kernel
theorem d_Pr_add_94 : decode b_Pr_add 94 = .ok (.iload 5, 2) := by decide +kernel
theorem d_Pr_add_96 : decode b_Pr_add 96 = .ok (.aload_n 3, 1) := by decide +kernel
theorem d_Pr_add_97 : decode b_Pr_add 97 = .ok (.invokevirtual 48, 3) := by decide +kernel
theorem d_Pr_add_100 : decode b_Pr_add 100 = .ok (.iastore, 1) := by decide +kernel
theorem d_Pr_add_101 : decode b_Pr_add 101 = .ok (.iinc 5 1, 3) := by decide +kernel
theorem d_Pr_add_104 : decode b_Pr_add 104 = .ok (.goto (-34), 3) := by decide +kernel
theorem d_Pr_add_107 : decode b_Pr_add 107 = .ok (.aload_n 0, 1) := by decide +kernel
theorem d_Pr_add_108 : decode b_Pr_add 108 = .ok (.dup, 1) := by decide +kernel
theorem d_Pr_add_109 : decode b_Pr_add 109 = .ok (.getfield 24, 3) := by decide +kernel
theorem d_Pr_add_112 : decode b_Pr_add 112 = .ok (.iconst 1, 1) := by decide +kernel
theorem d_Pr_add_113 : decode b_Pr_add 113 = .ok (.iadd, 1) := by decide +kernel
theorem d_Pr_add_114 : decode b_Pr_add 114 = .ok (.putfield 24, 3) := by decide +kernel
theorem d_Pr_add_117 : decode b_Pr_add 117 = .ok (.iload 4, 2) := by decide +kernel
theorem d_Pr_add_119 : decode b_Pr_add 119 = .ok (.ireturn, 1) := by decide +kernel
theorem d_Pr_targetOf_0 : decode b_Pr_targetOf 0 = .ok (.aload_n 0, 1) := by decide +kernel
theorem d_Pr_targetOf_1 : decode b_Pr_targetOf 1 = .ok (.getfield 18, 3) := by decide +kernel
theorem d_Pr_targetOf_4 : decode b_Pr_targetOf 4 = .ok (.iload_n 1, 1) := by decide +kernel
theorem d_Pr_targetOf_5 : decode b_Pr_targetOf 5 = .ok (.iaload, 1) := by decide +kernel
theorem d_Pr_targetOf_6 : decode b_Pr_targetOf 6 = .ok (.iconst 2, 1) := by decide +kernel
theorem d_Pr_targetOf_7 : decode b_Pr_targetOf 7 = .ok (.if_icmp .ne 19, 3) := by decide +kernel
theorem d_Pr_targetOf_10 : decode b_Pr_targetOf 10 = .ok (.aload_n 0, 1) := by decide +kernel
theorem d_Pr_targetOf_11 : decode b_Pr_targetOf 11 = .ok (.getfield 28, 3) := by decide +kernel
theorem d_Pr_targetOf_14 : decode b_Pr_targetOf 14 = .ok (.iload_n 2, 1) := by decide +kernel
theorem d_Pr_targetOf_15 : decode b_Pr_targetOf 15 = .ok (.aload_n 0, 1) := by decide +kernel
theorem d_Pr_targetOf_16 : decode b_Pr_targetOf 16 = .ok (.getfield 21, 3) := by decide +kernel
theorem d_Pr_targetOf_19 : decode b_Pr_targetOf 19 = .ok (.iload_n 1, 1) := by decide +kernel
theorem d_Pr_targetOf_20 : decode b_Pr_targetOf 20 = .ok (.iaload, 1) := by decide +kernel
theorem d_Pr_targetOf_21 : decode b_Pr_targetOf 21 = .ok (.iconst 0, 1) := by decide +kernel
theorem d_Pr_targetOf_22 : decode b_Pr_targetOf 22 = .ok (.invokevirtual 52, 3) := by decide +kernel
theorem d_Pr_targetOf_25 : decode b_Pr_targetOf 25 = .ok (.ireturn, 1) := by decide +kernel
theorem d_Pr_targetOf_26 : decode b_Pr_targetOf 26 = .ok (.aload_n 3, 1) := by decide +kernel
theorem d_Pr_targetOf_27 : decode b_Pr_targetOf 27 = .ok (.iload_n 2, 1) := by decide +kernel
theorem d_Pr_targetOf_28 : decode b_Pr_targetOf 28 = .ok (.invokevirtual 56, 3) := by decide +kernel
theorem d_Pr_targetOf_31 : decode b_Pr_targetOf 31 = .ok (.istore 4, 2) := by decide +kernel
theorem d_Pr_targetOf_33 : decode b_Pr_targetOf 33 = .ok (.aload_n 0, 1) := by decide +kernel
theorem d_Pr_targetOf_34 : decode b_Pr_targetOf 34 = .ok (.getfield 18, 3) := by decide +kernel
theorem d_Pr_targetOf_37 : decode b_Pr_targetOf 37 = .ok (.iload_n 1, 1) := by decide +kernel
theorem d_Pr_targetOf_38 : decode b_Pr_targetOf 38 = .ok (.iaload, 1) := by decide +kernel
theorem d_Pr_targetOf_39 : decode b_Pr_targetOf 39 = .ok (.iconst 1, 1) := by decide +kernel
theorem d_Pr_targetOf_40 : decode b_Pr_targetOf 40 = .ok (.if_icmp .ne 20, 3) := by decide +kernel
theorem d_Pr_targetOf_43 : decode b_Pr_targetOf 43 = .ok (.aload_n 0, 1) := by decide +kernel
theorem d_Pr_targetOf_44 : decode b_Pr_targetOf 44 = .ok (.getfield 28, 3) := by decide +kernel
theorem d_Pr_targetOf_47 : decode b_Pr_targetOf 47 = .ok (.iload_n 2, 1) := by decide +kernel
theorem d_Pr_targetOf_48 : decode b_Pr_targetOf 48 = .ok (.aload_n 0, 1) := by decide +kernel
theorem d_Pr_targetOf_49 : decode b_Pr_targetOf 49 = .ok (.getfield 21, 3) := by decide +kernel
theorem d_Pr_targetOf_52 : decode b_Pr_targetOf 52 = .ok (.iload_n 1, 1) := by decide +kernel
theorem d_Pr_targetOf_53 : decode b_Pr_targetOf 53 = .ok (.iaload, 1) := by decide +kernel
theorem d_Pr_targetOf_54 : decode b_Pr_targetOf 54 = .ok (.iload 4, 2) := by decide +kernel
theorem d_Pr_targetOf_56 : decode b_Pr_targetOf 56 = .ok (.invokevirtual 52, 3) := by decide +kernel
theorem d_Pr_targetOf_59 : decode b_Pr_targetOf 59 = .ok (.ireturn, 1) := by decide +kernel
theorem d_Pr_targetOf_60 : decode b_Pr_targetOf 60 = .ok (.iload 4, 2) := by decide +kernel
theorem d_Pr_targetOf_62 : decode b_Pr_targetOf 62 = .ok (.ifCond .eq 7, 3) := by decide +kernel
theorem d_Pr_targetOf_65 : decode b_Pr_targetOf 65 = .ok (.iload_n 2, 1) := by decide +kernel
theorem d_Pr_targetOf_66 : decode b_Pr_targetOf 66 = .ok (.goto 4, 3) := by decide +kernel
theorem d_Pr_targetOf_69 : decode b_Pr_targetOf 69 = .ok (.iconst (-1), 1) := by decide +kernel
theorem d_Pr_targetOf_70 : decode b_Pr_targetOf 70 = .ok (.ireturn, 1) := by decide +kernel
theorem d_Sp_write_0 : decode b_Sp_write 0 = .ok (.iload_n 2, 1) := by decide +kernel
theorem d_Sp_write_1 : decode b_Sp_write 1 = .ok (.aload_n 0, 1) := by decide +kernel
theorem d_Sp_write_2 : decode b_Sp_write 2 = .ok (.getfield 9, 3) := by decide +kernel
theorem d_Sp_write_5 : decode b_Sp_write 5 = .ok (.imul, 1) := by decide +kernel
theorem d_Sp_write_6 : decode b_Sp_write 6 = .ok (.istore 4, 2) := by decide +kernel
theorem d_Sp_write_8 : decode b_Sp_write 8 = .ok (.iload_n 1, 1) := by decide +kernel
theorem d_Sp_write_9 : decode b_Sp_write 9 = .ok (.aload_n 0, 1) := by decide +kernel
theorem d_Sp_write_10 : decode b_Sp_write 10 = .ok (.getfield 15, 3) := by decide +kernel
theorem d_Sp_write_13 : decode b_Sp_write 13 = .ok (.iload 4, 2) := by decide +kernel
theorem d_Sp_write_15 : decode b_Sp_write 15 = .ok (.ishl, 1) := by decide +kernel
theorem d_Sp_write_16 : decode b_Sp_write 16 = .ok (.iconst (-1), 1) := by decide +kernel
theorem d_Sp_write_17 : decode b_Sp_write 17 = .ok (.ixor, 1) := by decide +kernel
theorem d_Sp_write_18 : decode b_Sp_write 18 = .ok (.iand, 1) := by decide +kernel
theorem d_Sp_write_19 : decode b_Sp_write 19 = .ok (.iload_n 3, 1) := by decide +kernel
theorem d_Sp_write_20 : decode b_Sp_write 20 = .ok (.aload_n 0, 1) := by decide +kernel
theorem d_Sp_write_21 : decode b_Sp_write 21 = .ok (.getfield 15, 3) := by decide +kernel
theorem d_Sp_write_24 : decode b_Sp_write 24 = .ok (.iand, 1) := by decide +kernel
theorem d_Sp_write_25 : decode b_Sp_write 25 = .ok (.iload 4, 2) := by decide +kernel
theorem d_Sp_write_27 : decode b_Sp_write 27 = .ok (.ishl, 1) := by decide +kernel
theorem d_Sp_write_28 : decode b_Sp_write 28 = .ok (.ior, 1) := by decide +kernel
theorem d_Sp_write_29 : decode b_Sp_write 29 = .ok (.ireturn, 1) := by decide +kernel
theorem d_Fo_valueIn_0 : decode b_Fo_valueIn 0 = .ok (.iconst 0, 1) := by decide +kernel
theorem d_Fo_valueIn_1 : decode b_Fo_valueIn 1 = .ok (.istore_n 2, 1) := by decide +kernel
theorem d_Fo_valueIn_2 : decode b_Fo_valueIn 2 = .ok (.iconst 0, 1) := by decide +kernel
theorem d_Fo_valueIn_3 : decode b_Fo_valueIn 3 = .ok (.istore_n 3, 1) := by decide +kernel
theorem d_Fo_valueIn_4 : decode b_Fo_valueIn 4 = .ok (.iload_n 3, 1) := by decide +kernel
theorem d_Fo_valueIn_5 : decode b_Fo_valueIn 5 = .ok (.aload_n 0, 1) := by decide +kernel
theorem d_Fo_valueIn_6 : decode b_Fo_valueIn 6 = .ok (.getfield 19, 3) := by decide +kernel
theorem d_Fo_valueIn_9 : decode b_Fo_valueIn 9 = .ok (.if_icmp .ge 126, 3) := by decide +kernel
theorem d_Fo_valueIn_12 : decode b_Fo_valueIn 12 = .ok (.aload_n 0, 1) := by decide +kernel
theorem d_Fo_valueIn_13 : decode b_Fo_valueIn 13 = .ok (.getfield 9, 3) := by decide +kernel
theorem d_Fo_valueIn_16 : decode b_Fo_valueIn 16 = .ok (.iload_n 3, 1) := by decide +kernel
theorem d_Fo_valueIn_17 : decode b_Fo_valueIn 17 = .ok (.caload, 1) := by decide +kernel
theorem d_Fo_valueIn_18 : decode b_Fo_valueIn 18 = .ok (.istore 4, 2) := by decide +kernel
theorem d_Fo_valueIn_20 : decode b_Fo_valueIn 20 = .ok (.iload 4, 2) := by decide +kernel
theorem d_Fo_valueIn_22 : decode b_Fo_valueIn 22 = .ok (.invokestatic 27, 3) := by decide +kernel
theorem d_Fo_valueIn_25 : decode b_Fo_valueIn 25 = .ok (.ifCond .eq 28, 3) := by decide +kernel
theorem d_Fo_valueIn_28 : decode b_Fo_valueIn 28 = .ok (.aload_n 0, 1) := by decide +kernel
theorem d_Fo_valueIn_29 : decode b_Fo_valueIn 29 = .ok (.getfield 15, 3) := by decide +kernel
theorem d_Fo_valueIn_32 : decode b_Fo_valueIn 32 = .ok (.iload_n 2, 1) := by decide +kernel
theorem d_Fo_valueIn_33 : decode b_Fo_valueIn 33 = .ok (.aload_n 0, 1) := by decide +kernel
theorem d_Fo_valueIn_34 : decode b_Fo_valueIn 34 = .ok (.getfield 23, 3) := by decide +kernel
theorem d_Fo_valueIn_37 : decode b_Fo_valueIn 37 = .ok (.iload_n 1, 1) := by decide +kernel
theorem d_Fo_valueIn_38 : decode b_Fo_valueIn 38 = .ok (.iload 4, 2) := by decide +kernel
theorem d_Fo_valueIn_40 : decode b_Fo_valueIn 40 = .ok (.bipush 120, 2) := by decide +kernel
theorem d_Fo_valueIn_42 : decode b_Fo_valueIn 42 = .ok (.isub, 1) := by decide +kernel
theorem d_Fo_valueIn_43 : decode b_Fo_valueIn 43 = .ok (.invokevirtual 31, 3) := by decide +kernel
theorem d_Fo_valueIn_46 : decode b_Fo_valueIn 46 = .ok (.iastore, 1) := by decide +kernel
theorem d_Fo_valueIn_47 : decode b_Fo_valueIn 47 = .ok (.iinc 2 1, 3) := by decide +kernel
theorem d_Fo_valueIn_50 : decode b_Fo_valueIn 50 = .ok (.goto 79, 3) := by decide +kernel
theorem d_Fo_valueIn_53 : decode b_Fo_valueIn 53 = .ok (.iload 4, 2) := by decide +kernel
theorem d_Fo_valueIn_55 : decode b_Fo_valueIn 55 = .ok (.invokestatic 37, 3) := by decide +kernel
theorem d_Fo_valueIn_58 : decode b_Fo_valueIn 58 = .ok (.ifCond .eq 28, 3) := by decide +kernel
theorem d_Fo_valueIn_61 : decode b_Fo_valueIn 61 = .ok (.aload_n 0, 1) := by decide +kernel
theorem d_Fo_valueIn_62 : decode b_Fo_valueIn 62 = .ok (.getfield 15, 3) := by decide +kernel
theorem d_Fo_valueIn_65 : decode b_Fo_valueIn 65 = .ok (.iload_n 2, 1) := by decide +kernel
theorem d_Fo_valueIn_66 : decode b_Fo_valueIn 66 = .ok (.iload 4, 2) := by decide +kernel
theorem d_Fo_valueIn_68 : decode b_Fo_valueIn 68 = .ok (.bipush 48, 2) := by decide +kernel
theorem d_Fo_valueIn_70 : decode b_Fo_valueIn 70 = .ok (.isub, 1) := by decide +kernel
theorem d_Fo_valueIn_71 : decode b_Fo_valueIn 71 = .ok (.aload_n 0, 1) := by decide +kernel
theorem d_Fo_valueIn_72 : decode b_Fo_valueIn 72 = .ok (.getfield 23, 3) := by decide +kernel
theorem d_Fo_valueIn_75 : decode b_Fo_valueIn 75 = .ok (.getfield 40, 3) := by decide +kernel
theorem d_Fo_valueIn_78 : decode b_Fo_valueIn 78 = .ok (.iand, 1) := by decide +kernel
theorem d_Fo_valueIn_79 : decode b_Fo_valueIn 79 = .ok (.iastore, 1) := by decide +kernel
theorem d_Fo_valueIn_80 : decode b_Fo_valueIn 80 = .ok (.iinc 2 1, 3) := by decide +kernel
theorem d_Fo_valueIn_83 : decode b_Fo_valueIn 83 = .ok (.goto 46, 3) := by decide +kernel
theorem d_Fo_valueIn_86 : decode b_Fo_valueIn 86 = .ok (.iload_n 2, 1) := by decide +kernel
theorem d_Fo_valueIn_87 : decode b_Fo_valueIn 87 = .ok (.iconst 2, 1) := by decide +kernel
theorem d_Fo_valueIn_88 : decode b_Fo_valueIn 88 = .ok (.if_icmp .lt 41, 3) := by decide +kernel
theorem d_Fo_valueIn_91 : decode b_Fo_valueIn 91 = .ok (.iinc 2 (-1), 3) := by decide +kernel
theorem d_Fo_valueIn_94 : decode b_Fo_valueIn 94 = .ok (.aload_n 0, 1) := by decide +kernel
theorem d_Fo_valueIn_95 : decode b_Fo_valueIn 95 = .ok (.getfield 15, 3) := by decide +kernel
theorem d_Fo_valueIn_98 : decode b_Fo_valueIn 98 = .ok (.iload_n 2, 1) := by decide +kernel
theorem d_Fo_valueIn_99 : decode b_Fo_valueIn 99 = .ok (.iconst 1, 1) := by decide +kernel
theorem d_Fo_valueIn_100 : decode b_Fo_valueIn 100 = .ok (.isub, 1) := by decide +kernel
theorem d_Fo_valueIn_101 : decode b_Fo_valueIn 101 = .ok (.iload 4, 2) := by decide +kernel
theorem d_Fo_valueIn_103 : decode b_Fo_valueIn 103 = .ok (.aload_n 0, 1) := by decide +kernel
theorem d_Fo_valueIn_104 : decode b_Fo_valueIn 104 = .ok (.getfield 15, 3) := by decide +kernel
theorem d_Fo_valueIn_107 : decode b_Fo_valueIn 107 = .ok (.iload_n 2, 1) := by decide +kernel
theorem d_Fo_valueIn_108 : decode b_Fo_valueIn 108 = .ok (.iconst 1, 1) := by decide +kernel
theorem d_Fo_valueIn_109 : decode b_Fo_valueIn 109 = .ok (.isub, 1) := by decide +kernel
theorem d_Fo_valueIn_110 : decode b_Fo_valueIn 110 = .ok (.iaload, 1) := by decide +kernel
theorem d_Fo_valueIn_111 : decode b_Fo_valueIn 111 = .ok (.aload_n 0, 1) := by decide +kernel
theorem d_Fo_valueIn_112 : decode b_Fo_valueIn 112 = .ok (.getfield 15, 3) := by decide +kernel
theorem d_Fo_valueIn_115 : decode b_Fo_valueIn 115 = .ok (.iload_n 2, 1) := by decide +kernel
theorem d_Fo_valueIn_116 : decode b_Fo_valueIn 116 = .ok (.iaload, 1) := by decide +kernel
theorem d_Fo_valueIn_117 : decode b_Fo_valueIn 117 = .ok (.invokestatic 43, 3) := by decide +kernel
theorem d_Fo_valueIn_120 : decode b_Fo_valueIn 120 = .ok (.aload_n 0, 1) := by decide +kernel
theorem d_Fo_valueIn_121 : decode b_Fo_valueIn 121 = .ok (.getfield 23, 3) := by decide +kernel
theorem d_Fo_valueIn_124 : decode b_Fo_valueIn 124 = .ok (.getfield 40, 3) := by decide +kernel
theorem d_Fo_valueIn_127 : decode b_Fo_valueIn 127 = .ok (.iand, 1) := by decide +kernel
theorem d_Fo_valueIn_128 : decode b_Fo_valueIn 128 = .ok (.iastore, 1) := by decide +kernel
theorem d_Fo_valueIn_129 : decode b_Fo_valueIn 129 = .ok (.iinc 3 1, 3) := by decide +kernel
theorem d_Fo_valueIn_132 : decode b_Fo_valueIn 132 = .ok (.goto (-128), 3) := by decide +kernel
theorem d_Fo_valueIn_135 : decode b_Fo_valueIn 135 = .ok (.aload_n 0, 1) := by decide +kernel
theorem d_Fo_valueIn_136 : decode b_Fo_valueIn 136 = .ok (.getfield 15, 3) := by decide +kernel
theorem d_Fo_valueIn_139 : decode b_Fo_valueIn 139 = .ok (.iconst 0, 1) := by decide +kernel
theorem d_Fo_valueIn_140 : decode b_Fo_valueIn 140 = .ok (.iaload, 1) := by decide +kernel
theorem d_Fo_valueIn_141 : decode b_Fo_valueIn 141 = .ok (.ireturn, 1) := by decide +kernel
theorem d_Sp_read_0 : decode b_Sp_read 0 = .ok (.iload_n 1, 1) := by decide +kernel
theorem d_Sp_read_1 : decode b_Sp_read 1 = .ok (.iload_n 2, 1) := by decide +kernel
theorem d_Sp_read_2 : decode b_Sp_read 2 = .ok (.aload_n 0, 1) := by decide +kernel
theorem d_Sp_read_3 : decode b_Sp_read 3 = .ok (.getfield 9, 3) := by decide +kernel
theorem d_Sp_read_6 : decode b_Sp_read 6 = .ok (.imul, 1) := by decide +kernel
theorem d_Sp_read_7 : decode b_Sp_read 7 = .ok (.ishr, 1) := by decide +kernel
theorem d_Sp_read_8 : decode b_Sp_read 8 = .ok (.aload_n 0, 1) := by decide +kernel
theorem d_Sp_read_9 : decode b_Sp_read 9 = .ok (.getfield 15, 3) := by decide +kernel
theorem d_Sp_read_12 : decode b_Sp_read 12 = .ok (.iand, 1) := by decide +kernel
theorem d_Sp_read_13 : decode b_Sp_read 13 = .ok (.ireturn, 1) := by decide +kernel
theorem d_Fo_combine_0 : decode b_Fo_combine 0 = .ok (.iload_n 0, 1) := by decide +kernel
theorem d_Fo_combine_1 : decode b_Fo_combine 1 = .ok (.lookupswitch 109 #[(38, 79), (42, 75), (43, 67), (45, 71), (60, 87), (61, 98), (94, 83)], 67) := by decide +kernel
theorem d_Fo_combine_68 : decode b_Fo_combine 68 = .ok (.iload_n 1, 1) := by decide +kernel
theorem d_Fo_combine_69 : decode b_Fo_combine 69 = .ok (.iload_n 2, 1) := by decide +kernel
theorem d_Fo_combine_70 : decode b_Fo_combine 70 = .ok (.iadd, 1) := by decide +kernel
theorem d_Fo_combine_71 : decode b_Fo_combine 71 = .ok (.ireturn, 1) := by decide +kernel
theorem d_Fo_combine_72 : decode b_Fo_combine 72 = .ok (.iload_n 1, 1) := by decide +kernel
theorem d_Fo_combine_73 : decode b_Fo_combine 73 = .ok (.iload_n 2, 1) := by decide +kernel
theorem d_Fo_combine_74 : decode b_Fo_combine 74 = .ok (.isub, 1) := by decide +kernel
theorem d_Fo_combine_75 : decode b_Fo_combine 75 = .ok (.ireturn, 1) := by decide +kernel
theorem d_Fo_combine_76 : decode b_Fo_combine 76 = .ok (.iload_n 1, 1) := by decide +kernel
theorem d_Fo_combine_77 : decode b_Fo_combine 77 = .ok (.iload_n 2, 1) := by decide +kernel
theorem d_Fo_combine_78 : decode b_Fo_combine 78 = .ok (.imul, 1) := by decide +kernel
theorem d_Fo_combine_79 : decode b_Fo_combine 79 = .ok (.ireturn, 1) := by decide +kernel
theorem d_Fo_combine_80 : decode b_Fo_combine 80 = .ok (.iload_n 1, 1) := by decide +kernel
theorem d_Fo_combine_81 : decode b_Fo_combine 81 = .ok (.iload_n 2, 1) := by decide +kernel
theorem d_Fo_combine_82 : decode b_Fo_combine 82 = .ok (.iand, 1) := by decide +kernel
theorem d_Fo_combine_83 : decode b_Fo_combine 83 = .ok (.ireturn, 1) := by decide +kernel
theorem d_Fo_combine_84 : decode b_Fo_combine 84 = .ok (.iload_n 1, 1) := by decide +kernel
theorem d_Fo_combine_85 : decode b_Fo_combine 85 = .ok (.iload_n 2, 1) := by decide +kernel
theorem d_Fo_combine_86 : decode b_Fo_combine 86 = .ok (.ixor, 1) := by decide +kernel
theorem d_Fo_combine_87 : decode b_Fo_combine 87 = .ok (.ireturn, 1) := by decide +kernel
theorem d_Fo_combine_88 : decode b_Fo_combine 88 = .ok (.iload_n 1, 1) := by decide +kernel
theorem d_Fo_combine_89 : decode b_Fo_combine 89 = .ok (.iload_n 2, 1) := by decide +kernel
theorem d_Fo_combine_90 : decode b_Fo_combine 90 = .ok (.if_icmp .ge 7, 3) := by decide +kernel
theorem d_Fo_combine_93 : decode b_Fo_combine 93 = .ok (.iconst 1, 1) := by decide +kernel
theorem d_Fo_combine_94 : decode b_Fo_combine 94 = .ok (.goto 4, 3) := by decide +kernel
theorem d_Fo_combine_97 : decode b_Fo_combine 97 = .ok (.iconst 0, 1) := by decide +kernel
theorem d_Fo_combine_98 : decode b_Fo_combine 98 = .ok (.ireturn, 1) := by decide +kernel
theorem d_Fo_combine_99 : decode b_Fo_combine 99 = .ok (.iload_n 1, 1) := by decide +kernel
theorem d_Fo_combine_100 : decode b_Fo_combine 100 = .ok (.iload_n 2, 1) := by decide +kernel
theorem d_Fo_combine_101 : decode b_Fo_combine 101 = .ok (.if_icmp .ne 7, 3) := by decide +kernel
theorem d_Fo_combine_104 : decode b_Fo_combine 104 = .ok (.iconst 1, 1) := by decide +kernel
theorem d_Fo_combine_105 : decode b_Fo_combine 105 = .ok (.goto 4, 3) := by decide +kernel
theorem d_Fo_combine_108 : decode b_Fo_combine 108 = .ok (.iconst 0, 1) := by decide +kernel
theorem d_Fo_combine_109 : decode b_Fo_combine 109 = .ok (.ireturn, 1) := by decide +kernel
theorem d_Fo_combine_110 : decode b_Fo_combine 110 = .ok (.iload_n 1, 1) := by decide +kernel
theorem d_Fo_combine_111 : decode b_Fo_combine 111 = .ok (.iload_n 2, 1) := by decide +kernel
theorem d_Fo_combine_112 : decode b_Fo_combine 112 = .ok (.if_icmp .eq 7, 3) := by decide +kernel
theorem d_Fo_combine_115 : decode b_Fo_combine 115 = .ok (.iconst 1, 1) := by decide +kernel
theorem d_Fo_combine_116 : decode b_Fo_combine 116 = .ok (.goto 4, 3) := by decide +kernel
theorem d_Fo_combine_119 : decode b_Fo_combine 119 = .ok (.iconst 0, 1) := by decide +kernel
theorem d_Fo_combine_120 : decode b_Fo_combine 120 = .ok (.ireturn, 1) := by decide +kernel
theorem d_Lw_predicate_0 : decode b_Lw_predicate 0 = .ok (.aload_n 1, 1) := by decide +kernel
theorem d_Lw_predicate_1 : decode b_Lw_predicate 1 = .ok (.iconst 0, 1) := by decide +kernel
theorem d_Lw_predicate_2 : decode b_Lw_predicate 2 = .ok (.aload_n 0, 1) := by decide +kernel
theorem d_Lw_predicate_3 : decode b_Lw_predicate 3 = .ok (.invokevirtual 17, 3) := by decide +kernel
theorem d_Lw_predicate_6 : decode b_Lw_predicate 6 = .ok (.i2l, 1) := by decide +kernel
theorem d_Lw_predicate_7 : decode b_Lw_predicate 7 = .ok (.lastore, 1) := by decide +kernel
theorem d_Lw_predicate_8 : decode b_Lw_predicate 8 = .ok (.goto 9, 3) := by decide +kernel
theorem d_Lw_predicate_11 : decode b_Lw_predicate 11 = .ok (.astore_n 2, 1) := by decide +kernel
theorem d_Lw_predicate_12 : decode b_Lw_predicate 12 = .ok (.iconst 1, 1) := by decide +kernel
theorem d_Lw_predicate_13 : decode b_Lw_predicate 13 = .ok (.ireturn, 1) := by decide +kernel
theorem d_Lw_predicate_14 : decode b_Lw_predicate 14 = .ok (.astore_n 2, 1) := by decide +kernel
theorem d_Lw_predicate_15 : decode b_Lw_predicate 15 = .ok (.iconst 2, 1) := by decide +kernel
theorem d_Lw_predicate_16 : decode b_Lw_predicate 16 = .ok (.ireturn, 1) := by decide +kernel
theorem d_Lw_predicate_17 : decode b_Lw_predicate 17 = .ok (.iconst 0, 1) := by decide +kernel
theorem d_Lw_predicate_18 : decode b_Lw_predicate 18 = .ok (.ireturn, 1) := by decide +kernel
theorem d_PP_predicate_0 : decode b_PP_predicate 0 = .ok (.aload_n 0, 1) := by decide +kernel
theorem d_PP_predicate_1 : decode b_PP_predicate 1 = .ok (.getfield 50, 3) := by decide +kernel
theorem d_PP_predicate_4 : decode b_PP_predicate 4 = .ok (.iconst 0, 1) := by decide +kernel
theorem d_PP_predicate_5 : decode b_PP_predicate 5 = .ok (.invokevirtual 122, 3) := by decide +kernel
theorem d_PP_predicate_8 : decode b_PP_predicate 8 = .ok (.ifCond .ne 13, 3) := by decide +kernel
theorem d_PP_predicate_11 : decode b_PP_predicate 11 = .ok (.new 99, 3) := by decide +kernel
theorem d_PP_predicate_14 : decode b_PP_predicate 14 = .ok (.dup, 1) := by decide +kernel
theorem d_PP_predicate_15 : decode b_PP_predicate 15 = .ok (.ldc 126, 2) := by decide +kernel
theorem d_PP_predicate_17 : decode b_PP_predicate 17 = .ok (.invokespecial 103, 3) := by decide +kernel
theorem d_PP_predicate_20 : decode b_PP_predicate 20 = .ok (.athrow, 1) := by decide +kernel
theorem d_PP_predicate_21 : decode b_PP_predicate 21 = .ok (.aload_n 0, 1) := by decide +kernel
theorem d_PP_predicate_22 : decode b_PP_predicate 22 = .ok (.getfield 58, 3) := by decide +kernel
theorem d_PP_predicate_25 : decode b_PP_predicate 25 = .ok (.invokevirtual 128, 3) := by decide +kernel
theorem d_PP_predicate_28 : decode b_PP_predicate 28 = .ok (.ifCond .eq 13, 3) := by decide +kernel
theorem d_PP_predicate_31 : decode b_PP_predicate 31 = .ok (.new 110, 3) := by decide +kernel
theorem d_PP_predicate_34 : decode b_PP_predicate 34 = .ok (.dup, 1) := by decide +kernel
theorem d_PP_predicate_35 : decode b_PP_predicate 35 = .ok (.ldc 129, 2) := by decide +kernel
theorem d_PP_predicate_37 : decode b_PP_predicate 37 = .ok (.invokespecial 114, 3) := by decide +kernel
theorem d_PP_predicate_40 : decode b_PP_predicate 40 = .ok (.athrow, 1) := by decide +kernel
theorem d_PP_predicate_41 : decode b_PP_predicate 41 = .ok (.aload_n 0, 1) := by decide +kernel
theorem d_PP_predicate_42 : decode b_PP_predicate 42 = .ok (.getfield 58, 3) := by decide +kernel
theorem d_PP_predicate_45 : decode b_PP_predicate 45 = .ok (.getfield 131, 3) := by decide +kernel
theorem d_PP_predicate_48 : decode b_PP_predicate 48 = .ok (.istore_n 1, 1) := by decide +kernel
theorem d_PP_predicate_49 : decode b_PP_predicate 49 = .ok (.iconst 0, 1) := by decide +kernel
theorem d_PP_predicate_50 : decode b_PP_predicate 50 = .ok (.istore_n 2, 1) := by decide +kernel
theorem d_PP_predicate_51 : decode b_PP_predicate 51 = .ok (.iload_n 2, 1) := by decide +kernel
theorem d_PP_predicate_52 : decode b_PP_predicate 52 = .ok (.aload_n 0, 1) := by decide +kernel
theorem d_PP_predicate_53 : decode b_PP_predicate 53 = .ok (.getfield 31, 3) := by decide +kernel
theorem d_PP_predicate_56 : decode b_PP_predicate 56 = .ok (.getfield 134, 3) := by decide +kernel
theorem d_PP_predicate_59 : decode b_PP_predicate 59 = .ok (.if_icmp .ge 28, 3) := by decide +kernel
theorem d_PP_predicate_62 : decode b_PP_predicate 62 = .ok (.aload_n 0, 1) := by decide +kernel
theorem d_PP_predicate_63 : decode b_PP_predicate 63 = .ok (.getfield 41, 3) := by decide +kernel
theorem d_PP_predicate_66 : decode b_PP_predicate 66 = .ok (.iload_n 2, 1) := by decide +kernel
theorem d_PP_predicate_67 : decode b_PP_predicate 67 = .ok (.invokevirtual 137, 3) := by decide +kernel
theorem d_PP_predicate_70 : decode b_PP_predicate 70 = .ok (.ifCond .eq 11, 3) := by decide +kernel
theorem d_PP_predicate_73 : decode b_PP_predicate 73 = .ok (.aload_n 0, 1) := by decide +kernel
theorem d_PP_predicate_74 : decode b_PP_predicate 74 = .ok (.getfield 58, 3) := by decide +kernel
theorem d_PP_predicate_77 : decode b_PP_predicate 77 = .ok (.iload_n 2, 1) := by decide +kernel
theorem d_PP_predicate_78 : decode b_PP_predicate 78 = .ok (.invokevirtual 141, 3) := by decide +kernel
theorem d_PP_predicate_81 : decode b_PP_predicate 81 = .ok (.iinc 2 1, 3) := by decide +kernel
theorem d_PP_predicate_84 : decode b_PP_predicate 84 = .ok (.goto (-33), 3) := by decide +kernel
theorem d_PP_predicate_87 : decode b_PP_predicate 87 = .ok (.aload_n 0, 1) := by decide +kernel
theorem d_PP_predicate_88 : decode b_PP_predicate 88 = .ok (.getfield 58, 3) := by decide +kernel
theorem d_PP_predicate_91 : decode b_PP_predicate 91 = .ok (.invokevirtual 144, 3) := by decide +kernel
theorem d_PP_predicate_94 : decode b_PP_predicate 94 = .ok (.aload_n 0, 1) := by decide +kernel
theorem d_PP_predicate_95 : decode b_PP_predicate 95 = .ok (.getfield 37, 3) := by decide +kernel
theorem d_PP_predicate_98 : decode b_PP_predicate 98 = .ok (.invokevirtual 92, 3) := by decide +kernel
theorem d_PP_predicate_101 : decode b_PP_predicate 101 = .ok (.aload_n 0, 1) := by decide +kernel
theorem d_PP_predicate_102 : decode b_PP_predicate 102 = .ok (.invokevirtual 119, 3) := by decide +kernel
theorem d_PP_predicate_105 : decode b_PP_predicate 105 = .ok (.iload_n 1, 1) := by decide +kernel
theorem d_PP_predicate_106 : decode b_PP_predicate 106 = .ok (.ireturn, 1) := by decide +kernel
theorem d_Gr_isFull_0 : decode b_Gr_isFull 0 = .ok (.aload_n 0, 1) := by decide +kernel
theorem d_Gr_isFull_1 : decode b_Gr_isFull 1 = .ok (.getfield 9, 3) := by decide +kernel
theorem d_Gr_isFull_4 : decode b_Gr_isFull 4 = .ok (.bipush 12, 2) := by decide +kernel
theorem d_Gr_isFull_6 : decode b_Gr_isFull 6 = .ok (.if_icmp .lt 7, 3) := by decide +kernel
theorem d_Gr_isFull_9 : decode b_Gr_isFull 9 = .ok (.iconst 1, 1) := by decide +kernel
theorem d_Gr_isFull_10 : decode b_Gr_isFull 10 = .ok (.goto 4, 3) := by decide +kernel
theorem d_Gr_isFull_13 : decode b_Gr_isFull 13 = .ok (.iconst 0, 1) := by decide +kernel
theorem d_Gr_isFull_14 : decode b_Gr_isFull 14 = .ok (.ireturn, 1) := by decide +kernel
theorem d_Gr_include_0 : decode b_Gr_include 0 = .ok (.aload_n 0, 1) := by decide +kernel
theorem d_Gr_include_1 : decode b_Gr_include 1 = .ok (.getfield 31, 3) := by decide +kernel
theorem d_Gr_include_4 : decode b_Gr_include 4 = .ok (.iload_n 1, 1) := by decide +kernel
theorem d_Gr_include_5 : decode b_Gr_include 5 = .ok (.dup2, 1) := by decide +kernel
theorem d_Gr_include_6 : decode b_Gr_include 6 = .ok (.iaload, 1) := by decide +kernel
theorem d_Gr_include_7 : decode b_Gr_include 7 = .ok (.iconst 1, 1) := by decide +kernel
theorem d_Gr_include_8 : decode b_Gr_include 8 = .ok (.aload_n 0, 1) := by decide +kernel
theorem d_Gr_include_9 : decode b_Gr_include 9 = .ok (.getfield 9, 3) := by decide +kernel
theorem d_Gr_include_12 : decode b_Gr_include 12 = .ok (.ishl, 1) := by decide +kernel
theorem d_Gr_include_13 : decode b_Gr_include 13 = .ok (.ior, 1) := by decide +kernel
theorem d_Gr_include_14 : decode b_Gr_include 14 = .ok (.iastore, 1) := by decide +kernel
theorem d_Gr_include_15 : decode b_Gr_include 15 = .ok (.return_, 1) := by decide +kernel
theorem d_Gr_endPredicate_0 : decode b_Gr_endPredicate 0 = .ok (.aload_n 0, 1) := by decide +kernel
theorem d_Gr_endPredicate_1 : decode b_Gr_endPredicate 1 = .ok (.dup, 1) := by decide +kernel
theorem d_Gr_endPredicate_2 : decode b_Gr_endPredicate 2 = .ok (.getfield 9, 3) := by decide +kernel
theorem d_Gr_endPredicate_5 : decode b_Gr_endPredicate 5 = .ok (.iconst 1, 1) := by decide +kernel
theorem d_Gr_endPredicate_6 : decode b_Gr_endPredicate 6 = .ok (.iadd, 1) := by decide +kernel
theorem d_Gr_endPredicate_7 : decode b_Gr_endPredicate 7 = .ok (.putfield 9, 3) := by decide +kernel
theorem d_Gr_endPredicate_10 : decode b_Gr_endPredicate 10 = .ok (.aload_n 0, 1) := by decide +kernel
theorem d_Gr_endPredicate_11 : decode b_Gr_endPredicate 11 = .ok (.invokevirtual 43, 3) := by decide +kernel
theorem d_Gr_endPredicate_14 : decode b_Gr_endPredicate 14 = .ok (.aload_n 0, 1) := by decide +kernel
theorem d_Gr_endPredicate_15 : decode b_Gr_endPredicate 15 = .ok (.invokevirtual 46, 3) := by decide +kernel
theorem d_Gr_endPredicate_18 : decode b_Gr_endPredicate 18 = .ok (.return_, 1) := by decide +kernel
theorem d_Lw_prove_0 : decode b_Lw_prove 0 = .ok (.aload_n 2, 1) := by decide +kernel
theorem d_Lw_prove_1 : decode b_Lw_prove 1 = .ok (.iconst 0, 1) := by decide +kernel
theorem d_Lw_prove_2 : decode b_Lw_prove 2 = .ok (.aload_n 0, 1) := by decide +kernel
theorem d_Lw_prove_3 : decode b_Lw_prove 3 = .ok (.iload_n 1, 1) := by decide +kernel
theorem d_Lw_prove_4 : decode b_Lw_prove 4 = .ok (.invokevirtual 20, 3) := by decide +kernel
theorem d_Lw_prove_7 : decode b_Lw_prove 7 = .ok (.i2l, 1) := by decide +kernel
theorem d_Lw_prove_8 : decode b_Lw_prove 8 = .ok (.lastore, 1) := by decide +kernel
theorem d_Lw_prove_9 : decode b_Lw_prove 9 = .ok (.goto 6, 3) := by decide +kernel
theorem d_Lw_prove_12 : decode b_Lw_prove 12 = .ok (.astore_n 3, 1) := by decide +kernel
theorem d_Lw_prove_13 : decode b_Lw_prove 13 = .ok (.iconst 1, 1) := by decide +kernel
theorem d_Lw_prove_14 : decode b_Lw_prove 14 = .ok (.ireturn, 1) := by decide +kernel
theorem d_Lw_prove_15 : decode b_Lw_prove 15 = .ok (.iconst 0, 1) := by decide +kernel
theorem d_Lw_prove_16 : decode b_Lw_prove 16 = .ok (.ireturn, 1) := by decide +kernel
theorem d_PP_prove_0 : decode b_PP_prove 0 = .ok (.iload_n 1, 1) := by decide +kernel
theorem d_PP_prove_1 : decode b_PP_prove 1 = .ok (.iconst 1, 1) := by decide +kernel
theorem d_PP_prove_2 : decode b_PP_prove 2 = .ok (.if_icmp .lt 9, 3) := by decide +kernel
theorem d_PP_prove_5 : decode b_PP_prove 5 = .ok (.iload_n 1, 1) := by decide +kernel
theorem d_PP_prove_6 : decode b_PP_prove 6 = .ok (.bipush 40, 2) := by decide +kernel
theorem d_PP_prove_8 : decode b_PP_prove 8 = .ok (.if_icmp .le 13, 3) := by decide +kernel
theorem d_PP_prove_11 : decode b_PP_prove 11 = .ok (.new 99, 3) := by decide +kernel
theorem d_PP_prove_14 : decode b_PP_prove 14 = .ok (.dup, 1) := by decide +kernel
theorem d_PP_prove_15 : decode b_PP_prove 15 = .ok (.ldc 151, 2) := by decide +kernel
theorem d_PP_prove_17 : decode b_PP_prove 17 = .ok (.invokespecial 103, 3) := by decide +kernel
theorem d_PP_prove_20 : decode b_PP_prove 20 = .ok (.athrow, 1) := by decide +kernel
theorem d_PP_prove_21 : decode b_PP_prove 21 = .ok (.aload_n 0, 1) := by decide +kernel
theorem d_PP_prove_22 : decode b_PP_prove 22 = .ok (.iconst 0, 1) := by decide +kernel
theorem d_PP_prove_23 : decode b_PP_prove 23 = .ok (.putfield 84, 3) := by decide +kernel
theorem d_PP_prove_26 : decode b_PP_prove 26 = .ok (.iconst 0, 1) := by decide +kernel
theorem d_PP_prove_27 : decode b_PP_prove 27 = .ok (.istore_n 2, 1) := by decide +kernel
theorem d_PP_prove_28 : decode b_PP_prove 28 = .ok (.iload_n 2, 1) := by decide +kernel
theorem d_PP_prove_29 : decode b_PP_prove 29 = .ok (.iload_n 1, 1) := by decide +kernel
theorem d_PP_prove_30 : decode b_PP_prove 30 = .ok (.if_icmp .ge 24, 3) := by decide +kernel
theorem d_PP_prove_33 : decode b_PP_prove 33 = .ok (.aload_n 0, 1) := by decide +kernel
theorem d_PP_prove_34 : decode b_PP_prove 34 = .ok (.getfield 84, 3) := by decide +kernel
theorem d_PP_prove_37 : decode b_PP_prove 37 = .ok (.ifCond .ne 17, 3) := by decide +kernel
theorem d_PP_prove_40 : decode b_PP_prove 40 = .ok (.aload_n 0, 1) := by decide +kernel
theorem d_PP_prove_41 : decode b_PP_prove 41 = .ok (.aload_n 0, 1) := by decide +kernel
theorem d_PP_prove_42 : decode b_PP_prove 42 = .ok (.invokevirtual 153, 3) := by decide +kernel
theorem d_PP_prove_45 : decode b_PP_prove 45 = .ok (.putfield 84, 3) := by decide +kernel
theorem d_PP_prove_48 : decode b_PP_prove 48 = .ok (.iinc 2 1, 3) := by decide +kernel
theorem d_PP_prove_51 : decode b_PP_prove 51 = .ok (.goto (-23), 3) := by decide +kernel
theorem d_PP_prove_54 : decode b_PP_prove 54 = .ok (.aload_n 0, 1) := by decide +kernel
theorem d_PP_prove_55 : decode b_PP_prove 55 = .ok (.getfield 84, 3) := by decide +kernel
theorem d_PP_prove_58 : decode b_PP_prove 58 = .ok (.ireturn, 1) := by decide +kernel
theorem d_PP_makeRound_0 : decode b_PP_makeRound 0 = .ok (.aload_n 0, 1) := by decide +kernel
theorem d_PP_makeRound_1 : decode b_PP_makeRound 1 = .ok (.getfield 71, 3) := by decide +kernel
theorem d_PP_makeRound_4 : decode b_PP_makeRound 4 = .ok (.invokevirtual 210, 3) := by decide +kernel
theorem d_PP_makeRound_7 : decode b_PP_makeRound 7 = .ok (.aload_n 0, 1) := by decide +kernel
theorem d_PP_makeRound_8 : decode b_PP_makeRound 8 = .ok (.getfield 62, 3) := by decide +kernel
theorem d_PP_makeRound_11 : decode b_PP_makeRound 11 = .ok (.invokevirtual 211, 3) := by decide +kernel
theorem d_PP_makeRound_14 : decode b_PP_makeRound 14 = .ok (.aload_n 0, 1) := by decide +kernel
theorem d_PP_makeRound_15 : decode b_PP_makeRound 15 = .ok (.getfield 62, 3) := by decide +kernel
theorem d_PP_makeRound_18 : decode b_PP_makeRound 18 = .ok (.getfield 214, 3) := by decide +kernel
theorem d_PP_makeRound_21 : decode b_PP_makeRound 21 = .ok (.ifCond .eq 5, 3) := by decide +kernel
theorem d_PP_makeRound_24 : decode b_PP_makeRound 24 = .ok (.iconst 3, 1) := by decide +kernel
theorem d_PP_makeRound_25 : decode b_PP_makeRound 25 = .ok (.ireturn, 1) := by decide +kernel
theorem d_PP_makeRound_26 : decode b_PP_makeRound 26 = .ok (.aload_n 0, 1) := by decide +kernel
theorem d_PP_makeRound_27 : decode b_PP_makeRound 27 = .ok (.getfield 62, 3) := by decide +kernel
theorem d_PP_makeRound_30 : decode b_PP_makeRound 30 = .ok (.getfield 191, 3) := by decide +kernel
theorem d_PP_makeRound_33 : decode b_PP_makeRound 33 = .ok (.ifCond .ge 5, 3) := by decide +kernel
theorem d_PP_makeRound_36 : decode b_PP_makeRound 36 = .ok (.iconst 1, 1) := by decide +kernel
theorem d_PP_makeRound_37 : decode b_PP_makeRound 37 = .ok (.ireturn, 1) := by decide +kernel
theorem d_PP_makeRound_38 : decode b_PP_makeRound 38 = .ok (.aload_n 0, 1) := by decide +kernel
theorem d_PP_makeRound_39 : decode b_PP_makeRound 39 = .ok (.getfield 71, 3) := by decide +kernel
theorem d_PP_makeRound_42 : decode b_PP_makeRound 42 = .ok (.invokevirtual 218, 3) := by decide +kernel
theorem d_PP_makeRound_45 : decode b_PP_makeRound 45 = .ok (.ifCond .eq 5, 3) := by decide +kernel
theorem d_PP_makeRound_48 : decode b_PP_makeRound 48 = .ok (.iconst 2, 1) := by decide +kernel
theorem d_PP_makeRound_49 : decode b_PP_makeRound 49 = .ok (.ireturn, 1) := by decide +kernel
theorem d_PP_makeRound_50 : decode b_PP_makeRound 50 = .ok (.aload_n 0, 1) := by decide +kernel
theorem d_PP_makeRound_51 : decode b_PP_makeRound 51 = .ok (.getfield 80, 3) := by decide +kernel
theorem d_PP_makeRound_54 : decode b_PP_makeRound 54 = .ok (.invokevirtual 221, 3) := by decide +kernel
theorem d_PP_makeRound_57 : decode b_PP_makeRound 57 = .ok (.ifCond .eq 7, 3) := by decide +kernel
theorem d_PP_makeRound_60 : decode b_PP_makeRound 60 = .ok (.iconst 0, 1) := by decide +kernel
theorem d_PP_makeRound_61 : decode b_PP_makeRound 61 = .ok (.goto 4, 3) := by decide +kernel
theorem d_PP_makeRound_64 : decode b_PP_makeRound 64 = .ok (.iconst 3, 1) := by decide +kernel
theorem d_PP_makeRound_65 : decode b_PP_makeRound 65 = .ok (.ireturn, 1) := by decide +kernel
theorem d_Se_run_0 : decode b_Se_run 0 = .ok (.aload_n 0, 1) := by decide +kernel
theorem d_Se_run_1 : decode b_Se_run 1 = .ok (.invokevirtual 68, 3) := by decide +kernel
theorem d_Se_run_4 : decode b_Se_run 4 = .ok (.aload_n 0, 1) := by decide +kernel
theorem d_Se_run_5 : decode b_Se_run 5 = .ok (.getfield 61, 3) := by decide +kernel
theorem d_Se_run_8 : decode b_Se_run 8 = .ok (.iconst 0, 1) := by decide +kernel
theorem d_Se_run_9 : decode b_Se_run 9 = .ok (.invokestatic 71, 3) := by decide +kernel
theorem d_Se_run_12 : decode b_Se_run 12 = .ok (.aload_n 0, 1) := by decide +kernel
theorem d_Se_run_13 : decode b_Se_run 13 = .ok (.iconst 0, 1) := by decide +kernel
theorem d_Se_run_14 : decode b_Se_run 14 = .ok (.aload_n 0, 1) := by decide +kernel
theorem d_Se_run_15 : decode b_Se_run 15 = .ok (.getfield 52, 3) := by decide +kernel
theorem d_Se_run_18 : decode b_Se_run 18 = .ok (.getfield 77, 3) := by decide +kernel
theorem d_Se_run_21 : decode b_Se_run 21 = .ok (.iconst 0, 1) := by decide +kernel
theorem d_Se_run_22 : decode b_Se_run 22 = .ok (.iaload, 1) := by decide +kernel
theorem d_Se_run_23 : decode b_Se_run 23 = .ok (.iconst (-1), 1) := by decide +kernel
theorem d_Se_run_24 : decode b_Se_run 24 = .ok (.iconst (-1), 1) := by decide +kernel
theorem d_Se_run_25 : decode b_Se_run 25 = .ok (.invokevirtual 82, 3) := by decide +kernel
theorem d_Se_run_28 : decode b_Se_run 28 = .ok (.iconst 0, 1) := by decide +kernel
theorem d_Se_run_29 : decode b_Se_run 29 = .ok (.istore_n 1, 1) := by decide +kernel
theorem d_Se_run_30 : decode b_Se_run 30 = .ok (.iconst 0, 1) := by decide +kernel
theorem d_Se_run_31 : decode b_Se_run 31 = .ok (.istore_n 2, 1) := by decide +kernel
theorem d_Se_run_32 : decode b_Se_run 32 = .ok (.iload_n 2, 1) := by decide +kernel
theorem d_Se_run_33 : decode b_Se_run 33 = .ok (.aload_n 0, 1) := by decide +kernel
theorem d_Se_run_34 : decode b_Se_run 34 = .ok (.getfield 9, 3) := by decide +kernel
theorem d_Se_run_37 : decode b_Se_run 37 = .ok (.if_icmp .ge 68, 3) := by decide +kernel
theorem d_Se_run_40 : decode b_Se_run 40 = .ok (.iload_n 2, 1) := by decide +kernel
theorem d_Se_run_41 : decode b_Se_run 41 = .ok (.sipush 200, 3) := by decide +kernel
theorem d_Se_run_44 : decode b_Se_run 44 = .ok (.if_icmp .ge 61, 3) := by decide +kernel
theorem d_Se_run_47 : decode b_Se_run 47 = .ok (.iload_n 1, 1) := by decide +kernel
theorem d_Se_run_48 : decode b_Se_run 48 = .ok (.ifCond .ne 57, 3) := by decide +kernel
theorem d_Se_run_51 : decode b_Se_run 51 = .ok (.iconst 0, 1) := by decide +kernel
theorem d_Se_run_52 : decode b_Se_run 52 = .ok (.istore_n 3, 1) := by decide +kernel
theorem d_Se_run_53 : decode b_Se_run 53 = .ok (.iload_n 3, 1) := by decide +kernel
theorem d_Se_run_54 : decode b_Se_run 54 = .ok (.aload_n 0, 1) := by decide +kernel
theorem d_Se_run_55 : decode b_Se_run 55 = .ok (.getfield 48, 3) := by decide +kernel
theorem d_Se_run_58 : decode b_Se_run 58 = .ok (.getfield 86, 3) := by decide +kernel
theorem d_Se_run_61 : decode b_Se_run 61 = .ok (.if_icmp .ge 38, 3) := by decide +kernel
theorem d_Se_run_64 : decode b_Se_run 64 = .ok (.iload_n 1, 1) := by decide +kernel
theorem d_Se_run_65 : decode b_Se_run 65 = .ok (.ifCond .ne 34, 3) := by decide +kernel
theorem d_Se_run_68 : decode b_Se_run 68 = .ok (.aload_n 0, 1) := by decide +kernel
theorem d_Se_run_69 : decode b_Se_run 69 = .ok (.getfield 48, 3) := by decide +kernel
theorem d_Se_run_72 : decode b_Se_run 72 = .ok (.getfield 89, 3) := by decide +kernel
theorem d_Se_run_75 : decode b_Se_run 75 = .ok (.iload_n 3, 1) := by decide +kernel
theorem d_Se_run_76 : decode b_Se_run 76 = .ok (.iaload, 1) := by decide +kernel
theorem d_Se_run_77 : decode b_Se_run 77 = .ok (.aload_n 0, 1) := by decide +kernel
theorem d_Se_run_78 : decode b_Se_run 78 = .ok (.getfield 15, 3) := by decide +kernel
theorem d_Se_run_81 : decode b_Se_run 81 = .ok (.iload_n 2, 1) := by decide +kernel
theorem d_Se_run_82 : decode b_Se_run 82 = .ok (.iaload, 1) := by decide +kernel
theorem d_Se_run_83 : decode b_Se_run 83 = .ok (.if_icmp .ne 10, 3) := by decide +kernel
theorem d_Se_run_86 : decode b_Se_run 86 = .ok (.aload_n 0, 1) := by decide +kernel
theorem d_Se_run_87 : decode b_Se_run 87 = .ok (.iload_n 2, 1) := by decide +kernel
theorem d_Se_run_88 : decode b_Se_run 88 = .ok (.iload_n 3, 1) := by decide +kernel
theorem d_Se_run_89 : decode b_Se_run 89 = .ok (.invokevirtual 92, 3) := by decide +kernel
theorem d_Se_run_92 : decode b_Se_run 92 = .ok (.istore_n 1, 1) := by decide +kernel
theorem d_Se_run_93 : decode b_Se_run 93 = .ok (.iinc 3 1, 3) := by decide +kernel
theorem d_Se_run_96 : decode b_Se_run 96 = .ok (.goto (-43), 3) := by decide +kernel
theorem d_Se_run_99 : decode b_Se_run 99 = .ok (.iinc 2 1, 3) := by decide +kernel
theorem d_Se_run_102 : decode b_Se_run 102 = .ok (.goto (-70), 3) := by decide +kernel
theorem d_Se_run_105 : decode b_Se_run 105 = .ok (.return_, 1) := by decide +kernel
theorem d_Ar_fill_aBB_0 : decode b_Ar_fill_aBB 0 = .ok (.iconst 0, 1) := by decide +kernel
theorem d_Ar_fill_aBB_1 : decode b_Ar_fill_aBB 1 = .ok (.istore_n 2, 1) := by decide +kernel
theorem d_Ar_fill_aBB_2 : decode b_Ar_fill_aBB 2 = .ok (.aload_n 0, 1) := by decide +kernel
theorem d_Ar_fill_aBB_3 : decode b_Ar_fill_aBB 3 = .ok (.arraylength, 1) := by decide +kernel
theorem d_Ar_fill_aBB_4 : decode b_Ar_fill_aBB 4 = .ok (.istore_n 3, 1) := by decide +kernel
theorem d_Ar_fill_aBB_5 : decode b_Ar_fill_aBB 5 = .ok (.iload_n 2, 1) := by decide +kernel
theorem d_Ar_fill_aBB_6 : decode b_Ar_fill_aBB 6 = .ok (.iload_n 3, 1) := by decide +kernel
theorem d_Ar_fill_aBB_7 : decode b_Ar_fill_aBB 7 = .ok (.if_icmp .ge 13, 3) := by decide +kernel
theorem d_Ar_fill_aBB_10 : decode b_Ar_fill_aBB 10 = .ok (.aload_n 0, 1) := by decide +kernel
theorem d_Ar_fill_aBB_11 : decode b_Ar_fill_aBB 11 = .ok (.iload_n 2, 1) := by decide +kernel
theorem d_Ar_fill_aBB_12 : decode b_Ar_fill_aBB 12 = .ok (.iload_n 1, 1) := by decide +kernel
theorem d_Ar_fill_aBB_13 : decode b_Ar_fill_aBB 13 = .ok (.bastore, 1) := by decide +kernel
theorem d_Ar_fill_aBB_14 : decode b_Ar_fill_aBB 14 = .ok (.iinc 2 1, 3) := by decide +kernel
theorem d_Ar_fill_aBB_17 : decode b_Ar_fill_aBB 17 = .ok (.goto (-12), 3) := by decide +kernel
theorem d_Ar_fill_aBB_20 : decode b_Ar_fill_aBB 20 = .ok (.return_, 1) := by decide +kernel
theorem d_Se_addNode_0 : decode b_Se_addNode 0 = .ok (.aload_n 0, 1) := by decide +kernel
theorem d_Se_addNode_1 : decode b_Se_addNode 1 = .ok (.getfield 15, 3) := by decide +kernel
theorem d_Se_addNode_4 : decode b_Se_addNode 4 = .ok (.aload_n 0, 1) := by decide +kernel
theorem d_Se_addNode_5 : decode b_Se_addNode 5 = .ok (.getfield 9, 3) := by decide +kernel
theorem d_Se_addNode_8 : decode b_Se_addNode 8 = .ok (.iload_n 1, 1) := by decide +kernel
theorem d_Se_addNode_9 : decode b_Se_addNode 9 = .ok (.iastore, 1) := by decide +kernel
theorem d_Se_addNode_10 : decode b_Se_addNode 10 = .ok (.aload_n 0, 1) := by decide +kernel
theorem d_Se_addNode_11 : decode b_Se_addNode 11 = .ok (.getfield 28, 3) := by decide +kernel
theorem d_Se_addNode_14 : decode b_Se_addNode 14 = .ok (.aload_n 0, 1) := by decide +kernel
theorem d_Se_addNode_15 : decode b_Se_addNode 15 = .ok (.getfield 9, 3) := by decide +kernel
theorem d_Se_addNode_18 : decode b_Se_addNode 18 = .ok (.iload_n 2, 1) := by decide +kernel
theorem d_Se_addNode_19 : decode b_Se_addNode 19 = .ok (.iastore, 1) := by decide +kernel
theorem d_Se_addNode_20 : decode b_Se_addNode 20 = .ok (.aload_n 0, 1) := by decide +kernel
theorem d_Se_addNode_21 : decode b_Se_addNode 21 = .ok (.getfield 19, 3) := by decide +kernel
theorem d_Se_addNode_24 : decode b_Se_addNode 24 = .ok (.aload_n 0, 1) := by decide +kernel
theorem d_Se_addNode_25 : decode b_Se_addNode 25 = .ok (.getfield 9, 3) := by decide +kernel
theorem d_Se_addNode_28 : decode b_Se_addNode 28 = .ok (.aload_n 0, 1) := by decide +kernel
theorem d_Se_addNode_29 : decode b_Se_addNode 29 = .ok (.getfield 52, 3) := by decide +kernel
theorem d_Se_addNode_32 : decode b_Se_addNode 32 = .ok (.iload_n 2, 1) := by decide +kernel
theorem d_Se_addNode_33 : decode b_Se_addNode 33 = .ok (.invokevirtual 127, 3) := by decide +kernel
theorem d_Se_addNode_36 : decode b_Se_addNode 36 = .ok (.iastore, 1) := by decide +kernel
theorem d_Se_addNode_37 : decode b_Se_addNode 37 = .ok (.aload_n 0, 1) := by decide +kernel
theorem d_Se_addNode_38 : decode b_Se_addNode 38 = .ok (.getfield 22, 3) := by decide +kernel
theorem d_Se_addNode_41 : decode b_Se_addNode 41 = .ok (.aload_n 0, 1) := by decide +kernel
theorem d_Se_addNode_42 : decode b_Se_addNode 42 = .ok (.getfield 9, 3) := by decide +kernel
theorem d_Se_addNode_45 : decode b_Se_addNode 45 = .ok (.iload_n 3, 1) := by decide +kernel
theorem d_Se_addNode_46 : decode b_Se_addNode 46 = .ok (.iastore, 1) := by decide +kernel
theorem d_Se_addNode_47 : decode b_Se_addNode 47 = .ok (.aload_n 0, 1) := by decide +kernel
theorem d_Se_addNode_48 : decode b_Se_addNode 48 = .ok (.getfield 25, 3) := by decide +kernel
theorem d_Se_addNode_51 : decode b_Se_addNode 51 = .ok (.aload_n 0, 1) := by decide +kernel
theorem d_Se_addNode_52 : decode b_Se_addNode 52 = .ok (.getfield 9, 3) := by decide +kernel
theorem d_Se_addNode_55 : decode b_Se_addNode 55 = .ok (.iload 4, 2) := by decide +kernel
theorem d_Se_addNode_57 : decode b_Se_addNode 57 = .ok (.iastore, 1) := by decide +kernel
theorem d_Se_addNode_58 : decode b_Se_addNode 58 = .ok (.aload_n 0, 1) := by decide +kernel
theorem d_Se_addNode_59 : decode b_Se_addNode 59 = .ok (.getfield 31, 3) := by decide +kernel
theorem d_Se_addNode_62 : decode b_Se_addNode 62 = .ok (.aload_n 0, 1) := by decide +kernel
theorem d_Se_addNode_63 : decode b_Se_addNode 63 = .ok (.getfield 9, 3) := by decide +kernel
theorem d_Se_addNode_66 : decode b_Se_addNode 66 = .ok (.iload_n 3, 1) := by decide +kernel
theorem d_Se_addNode_67 : decode b_Se_addNode 67 = .ok (.ifCond .ge 7, 3) := by decide +kernel
theorem d_Se_addNode_70 : decode b_Se_addNode 70 = .ok (.iconst 0, 1) := by decide +kernel
theorem d_Se_addNode_71 : decode b_Se_addNode 71 = .ok (.goto 11, 3) := by decide +kernel
theorem d_Se_addNode_74 : decode b_Se_addNode 74 = .ok (.aload_n 0, 1) := by decide +kernel
theorem d_Se_addNode_75 : decode b_Se_addNode 75 = .ok (.getfield 31, 3) := by decide +kernel
theorem d_Se_addNode_78 : decode b_Se_addNode 78 = .ok (.iload_n 3, 1) := by decide +kernel
theorem d_Se_addNode_79 : decode b_Se_addNode 79 = .ok (.iaload, 1) := by decide +kernel
theorem d_Se_addNode_80 : decode b_Se_addNode 80 = .ok (.iconst 1, 1) := by decide +kernel
theorem d_Se_addNode_81 : decode b_Se_addNode 81 = .ok (.iadd, 1) := by decide +kernel
theorem d_Se_addNode_82 : decode b_Se_addNode 82 = .ok (.iastore, 1) := by decide +kernel
theorem d_Se_addNode_83 : decode b_Se_addNode 83 = .ok (.aload_n 0, 1) := by decide +kernel
theorem d_Se_addNode_84 : decode b_Se_addNode 84 = .ok (.getfield 61, 3) := by decide +kernel
theorem d_Se_addNode_87 : decode b_Se_addNode 87 = .ok (.iload_n 1, 1) := by decide +kernel
theorem d_Se_addNode_88 : decode b_Se_addNode 88 = .ok (.aload_n 0, 1) := by decide +kernel
theorem d_Se_addNode_89 : decode b_Se_addNode 89 = .ok (.getfield 44, 3) := by decide +kernel
theorem d_Se_addNode_92 : decode b_Se_addNode 92 = .ok (.getfield 56, 3) := by decide +kernel
theorem d_Se_addNode_95 : decode b_Se_addNode 95 = .ok (.imul, 1) := by decide +kernel
theorem d_Se_addNode_96 : decode b_Se_addNode 96 = .ok (.iload_n 2, 1) := by decide +kernel
theorem d_Se_addNode_97 : decode b_Se_addNode 97 = .ok (.iadd, 1) := by decide +kernel
theorem d_Se_addNode_98 : decode b_Se_addNode 98 = .ok (.iconst 1, 1) := by decide +kernel
theorem d_Se_addNode_99 : decode b_Se_addNode 99 = .ok (.bastore, 1) := by decide +kernel
theorem d_Se_addNode_100 : decode b_Se_addNode 100 = .ok (.aload_n 0, 1) := by decide +kernel
theorem d_Se_addNode_101 : decode b_Se_addNode 101 = .ok (.dup, 1) := by decide +kernel
theorem d_Se_addNode_102 : decode b_Se_addNode 102 = .ok (.getfield 9, 3) := by decide +kernel
theorem d_Se_addNode_105 : decode b_Se_addNode 105 = .ok (.iconst 1, 1) := by decide +kernel
theorem d_Se_addNode_106 : decode b_Se_addNode 106 = .ok (.iadd, 1) := by decide +kernel
theorem d_Se_addNode_107 : decode b_Se_addNode 107 = .ok (.putfield 9, 3) := by decide +kernel
theorem d_Se_addNode_110 : decode b_Se_addNode 110 = .ok (.return_, 1) := by decide +kernel
theorem d_Gr_signatureOf_0 : decode b_Gr_signatureOf 0 = .ok (.aload_n 0, 1) := by decide +kernel
theorem d_Gr_signatureOf_1 : decode b_Gr_signatureOf 1 = .ok (.getfield 31, 3) := by decide +kernel
theorem d_Gr_signatureOf_4 : decode b_Gr_signatureOf 4 = .ok (.aload_n 0, 1) := by decide +kernel
theorem d_Gr_signatureOf_5 : decode b_Gr_signatureOf 5 = .ok (.getfield 37, 3) := by decide +kernel
theorem d_Gr_signatureOf_8 : decode b_Gr_signatureOf 8 = .ok (.aload_n 0, 1) := by decide +kernel
theorem d_Gr_signatureOf_9 : decode b_Gr_signatureOf 9 = .ok (.getfield 40, 3) := by decide +kernel
theorem d_Gr_signatureOf_12 : decode b_Gr_signatureOf 12 = .ok (.iload_n 1, 1) := by decide +kernel
theorem d_Gr_signatureOf_13 : decode b_Gr_signatureOf 13 = .ok (.iaload, 1) := by decide +kernel
theorem d_Gr_signatureOf_14 : decode b_Gr_signatureOf 14 = .ok (.iaload, 1) := by decide +kernel
theorem d_Gr_signatureOf_15 : decode b_Gr_signatureOf 15 = .ok (.iaload, 1) := by decide +kernel
theorem d_Gr_signatureOf_16 : decode b_Gr_signatureOf 16 = .ok (.ireturn, 1) := by decide +kernel
theorem d_Se_take_0 : decode b_Se_take 0 = .ok (.aload_n 0, 1) := by decide +kernel
theorem d_Se_take_1 : decode b_Se_take 1 = .ok (.aload_n 0, 1) := by decide +kernel
theorem d_Se_take_2 : decode b_Se_take 2 = .ok (.getfield 28, 3) := by decide +kernel
theorem d_Se_take_5 : decode b_Se_take 5 = .ok (.iload_n 1, 1) := by decide +kernel
theorem d_Se_take_6 : decode b_Se_take 6 = .ok (.iaload, 1) := by decide +kernel
theorem d_Se_take_7 : decode b_Se_take 7 = .ok (.iload_n 2, 1) := by decide +kernel
theorem d_Se_take_8 : decode b_Se_take 8 = .ok (.invokevirtual 96, 3) := by decide +kernel
theorem d_Se_take_11 : decode b_Se_take 11 = .ok (.aload_n 0, 1) := by decide +kernel
theorem d_Se_take_12 : decode b_Se_take 12 = .ok (.getfield 48, 3) := by decide +kernel
theorem d_Se_take_15 : decode b_Se_take 15 = .ok (.getfield 100, 3) := by decide +kernel
theorem d_Se_take_18 : decode b_Se_take 18 = .ok (.iload_n 2, 1) := by decide +kernel
theorem d_Se_take_19 : decode b_Se_take 19 = .ok (.iaload, 1) := by decide +kernel
theorem d_Se_take_20 : decode b_Se_take 20 = .ok (.istore_n 3, 1) := by decide +kernel
theorem d_Se_take_21 : decode b_Se_take 21 = .ok (.iconst 0, 1) := by decide +kernel
theorem d_Se_take_22 : decode b_Se_take 22 = .ok (.istore 4, 2) := by decide +kernel
theorem d_Se_take_24 : decode b_Se_take 24 = .ok (.iload 4, 2) := by decide +kernel
theorem d_Se_take_26 : decode b_Se_take 26 = .ok (.aload_n 0, 1) := by decide +kernel
theorem d_Se_take_27 : decode b_Se_take 27 = .ok (.getfield 52, 3) := by decide +kernel
theorem d_Se_take_30 : decode b_Se_take 30 = .ok (.getfield 103, 3) := by decide +kernel
theorem d_Se_take_33 : decode b_Se_take 33 = .ok (.if_icmp .ge 85, 3) := by decide +kernel
theorem d_Se_take_36 : decode b_Se_take 36 = .ok (.aload_n 0, 1) := by decide +kernel
theorem d_Se_take_37 : decode b_Se_take 37 = .ok (.getfield 65, 3) := by decide +kernel
theorem d_Se_take_40 : decode b_Se_take 40 = .ok (.iload 4, 2) := by decide +kernel
theorem d_Se_take_42 : decode b_Se_take 42 = .ok (.baload, 1) := by decide +kernel
theorem d_Se_take_43 : decode b_Se_take 43 = .ok (.ifCond .eq 69, 3) := by decide +kernel
theorem d_Se_take_46 : decode b_Se_take 46 = .ok (.aload_n 0, 1) := by decide +kernel
theorem d_Se_take_47 : decode b_Se_take 47 = .ok (.getfield 61, 3) := by decide +kernel
theorem d_Se_take_50 : decode b_Se_take 50 = .ok (.iload_n 3, 1) := by decide +kernel
theorem d_Se_take_51 : decode b_Se_take 51 = .ok (.aload_n 0, 1) := by decide +kernel
theorem d_Se_take_52 : decode b_Se_take 52 = .ok (.getfield 44, 3) := by decide +kernel
theorem d_Se_take_55 : decode b_Se_take 55 = .ok (.getfield 56, 3) := by decide +kernel
theorem d_Se_take_58 : decode b_Se_take 58 = .ok (.imul, 1) := by decide +kernel
theorem d_Se_take_59 : decode b_Se_take 59 = .ok (.iload 4, 2) := by decide +kernel
theorem d_Se_take_61 : decode b_Se_take 61 = .ok (.iadd, 1) := by decide +kernel
theorem d_Se_take_62 : decode b_Se_take 62 = .ok (.baload, 1) := by decide +kernel
theorem d_Se_take_63 : decode b_Se_take 63 = .ok (.ifCond .eq 6, 3) := by decide +kernel
theorem d_Se_take_66 : decode b_Se_take 66 = .ok (.goto 46, 3) := by decide +kernel
theorem d_Se_take_69 : decode b_Se_take 69 = .ok (.aload_n 0, 1) := by decide +kernel
theorem d_Se_take_70 : decode b_Se_take 70 = .ok (.getfield 9, 3) := by decide +kernel
theorem d_Se_take_73 : decode b_Se_take 73 = .ok (.sipush 200, 3) := by decide +kernel
theorem d_Se_take_76 : decode b_Se_take 76 = .ok (.if_icmp .lt 10, 3) := by decide +kernel
theorem d_Se_take_79 : decode b_Se_take 79 = .ok (.aload_n 0, 1) := by decide +kernel
theorem d_Se_take_80 : decode b_Se_take 80 = .ok (.iconst 1, 1) := by decide +kernel
theorem d_Se_take_81 : decode b_Se_take 81 = .ok (.putfield 34, 3) := by decide +kernel
theorem d_Se_take_84 : decode b_Se_take 84 = .ok (.iconst 1, 1) := by decide +kernel
theorem d_Se_take_85 : decode b_Se_take 85 = .ok (.ireturn, 1) := by decide +kernel
theorem d_Se_take_86 : decode b_Se_take 86 = .ok (.aload_n 0, 1) := by decide +kernel
theorem d_Se_take_87 : decode b_Se_take 87 = .ok (.iload_n 3, 1) := by decide +kernel
theorem d_Se_take_88 : decode b_Se_take 88 = .ok (.iload 4, 2) := by decide +kernel
theorem d_Se_take_90 : decode b_Se_take 90 = .ok (.iload_n 1, 1) := by decide +kernel
theorem d_Se_take_91 : decode b_Se_take 91 = .ok (.iload_n 2, 1) := by decide +kernel
theorem d_Se_take_92 : decode b_Se_take 92 = .ok (.invokevirtual 82, 3) := by decide +kernel
theorem d_Se_take_95 : decode b_Se_take 95 = .ok (.iload_n 3, 1) := by decide +kernel
theorem d_Se_take_96 : decode b_Se_take 96 = .ok (.iconst 1, 1) := by decide +kernel
theorem d_Se_take_97 : decode b_Se_take 97 = .ok (.if_icmp .ne 15, 3) := by decide +kernel
theorem d_Se_take_100 : decode b_Se_take 100 = .ok (.aload_n 0, 1) := by decide +kernel
theorem d_Se_take_101 : decode b_Se_take 101 = .ok (.aload_n 0, 1) := by decide +kernel
theorem d_Se_take_102 : decode b_Se_take 102 = .ok (.getfield 9, 3) := by decide +kernel
theorem d_Se_take_105 : decode b_Se_take 105 = .ok (.iconst 1, 1) := by decide +kernel
theorem d_Se_take_106 : decode b_Se_take 106 = .ok (.isub, 1) := by decide +kernel
theorem d_Se_take_107 : decode b_Se_take 107 = .ok (.invokevirtual 106, 3) := by decide +kernel
theorem d_Se_take_110 : decode b_Se_take 110 = .ok (.iconst 1, 1) := by decide +kernel
theorem d_Se_take_111 : decode b_Se_take 111 = .ok (.ireturn, 1) := by decide +kernel
theorem d_Se_take_112 : decode b_Se_take 112 = .ok (.iinc 4 1, 3) := by decide +kernel
theorem d_Se_take_115 : decode b_Se_take 115 = .ok (.goto (-91), 3) := by decide +kernel
theorem d_Se_take_118 : decode b_Se_take 118 = .ok (.iconst 0, 1) := by decide +kernel
theorem d_Se_take_119 : decode b_Se_take 119 = .ok (.ireturn, 1) := by decide +kernel
theorem d_Se_markReached_0 : decode b_Se_markReached 0 = .ok (.aload_n 0, 1) := by decide +kernel
theorem d_Se_markReached_1 : decode b_Se_markReached 1 = .ok (.getfield 65, 3) := by decide +kernel
theorem d_Se_markReached_4 : decode b_Se_markReached 4 = .ok (.iconst 0, 1) := by decide +kernel
theorem d_Se_markReached_5 : decode b_Se_markReached 5 = .ok (.aload_n 0, 1) := by decide +kernel
theorem d_Se_markReached_6 : decode b_Se_markReached 6 = .ok (.getfield 52, 3) := by decide +kernel
theorem d_Se_markReached_9 : decode b_Se_markReached 9 = .ok (.getfield 103, 3) := by decide +kernel
theorem d_Se_markReached_12 : decode b_Se_markReached 12 = .ok (.iconst 0, 1) := by decide +kernel
theorem d_Se_markReached_13 : decode b_Se_markReached 13 = .ok (.invokestatic 110, 3) := by decide +kernel
theorem d_Se_markReached_16 : decode b_Se_markReached 16 = .ok (.aload_n 0, 1) := by decide +kernel
theorem d_Se_markReached_17 : decode b_Se_markReached 17 = .ok (.getfield 48, 3) := by decide +kernel
theorem d_Se_markReached_20 : decode b_Se_markReached 20 = .ok (.iload_n 2, 1) := by decide +kernel
theorem d_Se_markReached_21 : decode b_Se_markReached 21 = .ok (.invokevirtual 113, 3) := by decide +kernel
theorem d_Se_markReached_24 : decode b_Se_markReached 24 = .ok (.istore_n 3, 1) := by decide +kernel
theorem d_Se_markReached_25 : decode b_Se_markReached 25 = .ok (.aload_n 0, 1) := by decide +kernel
theorem d_Se_markReached_26 : decode b_Se_markReached 26 = .ok (.getfield 52, 3) := by decide +kernel
theorem d_Se_markReached_29 : decode b_Se_markReached 29 = .ok (.getfield 117, 3) := by decide +kernel
theorem d_Se_markReached_32 : decode b_Se_markReached 32 = .ok (.iload_n 1, 1) := by decide +kernel
theorem d_Se_markReached_33 : decode b_Se_markReached 33 = .ok (.iaload, 1) := by decide +kernel
theorem d_Se_markReached_34 : decode b_Se_markReached 34 = .ok (.istore 4, 2) := by decide +kernel
theorem d_Se_markReached_36 : decode b_Se_markReached 36 = .ok (.iload 4, 2) := by decide +kernel
theorem d_Se_markReached_38 : decode b_Se_markReached 38 = .ok (.aload_n 0, 1) := by decide +kernel
theorem d_Se_markReached_39 : decode b_Se_markReached 39 = .ok (.getfield 52, 3) := by decide +kernel
theorem d_Se_markReached_42 : decode b_Se_markReached 42 = .ok (.getfield 117, 3) := by decide +kernel
theorem d_Se_markReached_45 : decode b_Se_markReached 45 = .ok (.iload_n 1, 1) := by decide +kernel
theorem d_Se_markReached_46 : decode b_Se_markReached 46 = .ok (.iconst 1, 1) := by decide +kernel
theorem d_Se_markReached_47 : decode b_Se_markReached 47 = .ok (.iadd, 1) := by decide +kernel
theorem d_Se_markReached_48 : decode b_Se_markReached 48 = .ok (.iaload, 1) := by decide +kernel
theorem d_Se_markReached_49 : decode b_Se_markReached 49 = .ok (.if_icmp .ge 67, 3) := by decide +kernel
theorem d_Se_markReached_52 : decode b_Se_markReached 52 = .ok (.iconst 0, 1) := by decide +kernel
theorem d_Se_markReached_53 : decode b_Se_markReached 53 = .ok (.istore 5, 2) := by decide +kernel
theorem d_Se_markReached_55 : decode b_Se_markReached 55 = .ok (.iload 5, 2) := by decide +kernel
theorem d_Se_markReached_57 : decode b_Se_markReached 57 = .ok (.iload_n 3, 1) := by decide +kernel
theorem d_Se_markReached_58 : decode b_Se_markReached 58 = .ok (.if_icmp .ge 52, 3) := by decide +kernel
theorem d_Se_markReached_61 : decode b_Se_markReached 61 = .ok (.aload_n 0, 1) := by decide +kernel
theorem d_Se_markReached_62 : decode b_Se_markReached 62 = .ok (.getfield 48, 3) := by decide +kernel
theorem d_Se_markReached_65 : decode b_Se_markReached 65 = .ok (.iload_n 2, 1) := by decide +kernel
theorem d_Se_markReached_66 : decode b_Se_markReached 66 = .ok (.aload_n 0, 1) := by decide +kernel
theorem d_Se_markReached_67 : decode b_Se_markReached 67 = .ok (.getfield 52, 3) := by decide +kernel
theorem d_Se_markReached_70 : decode b_Se_markReached 70 = .ok (.getfield 120, 3) := by decide +kernel
theorem d_Se_markReached_73 : decode b_Se_markReached 73 = .ok (.iload 4, 2) := by decide +kernel
theorem d_Se_markReached_75 : decode b_Se_markReached 75 = .ok (.iaload, 1) := by decide +kernel
theorem d_Se_markReached_76 : decode b_Se_markReached 76 = .ok (.iload 5, 2) := by decide +kernel
theorem d_Se_markReached_78 : decode b_Se_markReached 78 = .ok (.invokevirtual 123, 3) := by decide +kernel
theorem d_Se_markReached_81 : decode b_Se_markReached 81 = .ok (.istore 6, 2) := by decide +kernel
theorem d_Se_markReached_83 : decode b_Se_markReached 83 = .ok (.iload 6, 2) := by decide +kernel
theorem d_Se_markReached_85 : decode b_Se_markReached 85 = .ok (.ifCond .lt 19, 3) := by decide +kernel
theorem d_Se_markReached_88 : decode b_Se_markReached 88 = .ok (.aload_n 0, 1) := by decide +kernel
theorem d_Se_markReached_89 : decode b_Se_markReached 89 = .ok (.getfield 65, 3) := by decide +kernel
theorem d_Se_markReached_92 : decode b_Se_markReached 92 = .ok (.aload_n 0, 1) := by decide +kernel
theorem d_Se_markReached_93 : decode b_Se_markReached 93 = .ok (.getfield 52, 3) := by decide +kernel
theorem d_Se_markReached_96 : decode b_Se_markReached 96 = .ok (.getfield 77, 3) := by decide +kernel
theorem d_Se_markReached_99 : decode b_Se_markReached 99 = .ok (.iload 6, 2) := by decide +kernel
theorem d_Se_markReached_101 : decode b_Se_markReached 101 = .ok (.iaload, 1) := by decide +kernel
theorem d_Se_markReached_102 : decode b_Se_markReached 102 = .ok (.iconst 1, 1) := by decide +kernel
theorem d_Se_markReached_103 : decode b_Se_markReached 103 = .ok (.bastore, 1) := by decide +kernel
theorem d_Se_markReached_104 : decode b_Se_markReached 104 = .ok (.iinc 5 1, 3) := by decide +kernel
theorem d_Se_markReached_107 : decode b_Se_markReached 107 = .ok (.goto (-52), 3) := by decide +kernel
theorem d_Se_markReached_110 : decode b_Se_markReached 110 = .ok (.iinc 4 1, 3) := by decide +kernel
theorem d_Se_markReached_113 : decode b_Se_markReached 113 = .ok (.goto (-77), 3) := by decide +kernel
theorem d_Se_markReached_116 : decode b_Se_markReached 116 = .ok (.return_, 1) := by decide +kernel
theorem d_Ar_fill_aBIIB_0 : decode b_Ar_fill_aBIIB 0 = .ok (.aload_n 0, 1) := by decide +kernel
theorem d_Ar_fill_aBIIB_1 : decode b_Ar_fill_aBIIB 1 = .ok (.arraylength, 1) := by decide +kernel
theorem d_Ar_fill_aBIIB_2 : decode b_Ar_fill_aBIIB 2 = .ok (.iload_n 1, 1) := by decide +kernel
theorem d_Ar_fill_aBIIB_3 : decode b_Ar_fill_aBIIB 3 = .ok (.iload_n 2, 1) := by decide +kernel
theorem d_Ar_fill_aBIIB_4 : decode b_Ar_fill_aBIIB 4 = .ok (.invokestatic 13, 3) := by decide +kernel
theorem d_Ar_fill_aBIIB_7 : decode b_Ar_fill_aBIIB 7 = .ok (.iload_n 1, 1) := by decide +kernel
theorem d_Ar_fill_aBIIB_8 : decode b_Ar_fill_aBIIB 8 = .ok (.istore 4, 2) := by decide +kernel
theorem d_Ar_fill_aBIIB_10 : decode b_Ar_fill_aBIIB 10 = .ok (.iload 4, 2) := by decide +kernel
theorem d_Ar_fill_aBIIB_12 : decode b_Ar_fill_aBIIB 12 = .ok (.iload_n 2, 1) := by decide +kernel
theorem d_Ar_fill_aBIIB_13 : decode b_Ar_fill_aBIIB 13 = .ok (.if_icmp .ge 14, 3) := by decide +kernel
theorem d_Ar_fill_aBIIB_16 : decode b_Ar_fill_aBIIB 16 = .ok (.aload_n 0, 1) := by decide +kernel
theorem d_Ar_fill_aBIIB_17 : decode b_Ar_fill_aBIIB 17 = .ok (.iload 4, 2) := by decide +kernel
theorem d_Ar_fill_aBIIB_19 : decode b_Ar_fill_aBIIB 19 = .ok (.iload_n 3, 1) := by decide +kernel
theorem d_Ar_fill_aBIIB_20 : decode b_Ar_fill_aBIIB 20 = .ok (.bastore, 1) := by decide +kernel
theorem d_Ar_fill_aBIIB_21 : decode b_Ar_fill_aBIIB 21 = .ok (.iinc 4 1, 3) := by decide +kernel
theorem d_Ar_fill_aBIIB_24 : decode b_Ar_fill_aBIIB 24 = .ok (.goto (-14), 3) := by decide +kernel
theorem d_Ar_fill_aBIIB_27 : decode b_Ar_fill_aBIIB 27 = .ok (.return_, 1) := by decide +kernel
end
section
theorem d_Pr_choices_0 : decode b_Pr_choices 0 = .ok (.aload_n 0, 1) := by decide +kernel
theorem d_Pr_choices_1 : decode b_Pr_choices 1 = .ok (.getfield 18, 3) := by decide +kernel
theorem d_Pr_choices_4 : decode b_Pr_choices 4 = .ok (.iload_n 1, 1) := by decide +kernel
theorem d_Pr_choices_5 : decode b_Pr_choices 5 = .ok (.iaload, 1) := by decide +kernel
theorem d_Pr_choices_6 : decode b_Pr_choices 6 = .ok (.iconst 2, 1) := by decide +kernel
theorem d_Pr_choices_7 : decode b_Pr_choices 7 = .ok (.if_icmp .ne 15, 3) := by decide +kernel
theorem d_Pr_choices_10 : decode b_Pr_choices 10 = .ok (.aload_n 0, 1) := by decide +kernel
theorem d_Pr_choices_11 : decode b_Pr_choices 11 = .ok (.getfield 28, 3) := by decide +kernel
theorem d_Pr_choices_14 : decode b_Pr_choices 14 = .ok (.getfield 62, 3) := by decide +kernel
theorem d_Pr_choices_17 : decode b_Pr_choices 17 = .ok (.iconst 1, 1) := by decide +kernel
theorem d_Pr_choices_18 : decode b_Pr_choices 18 = .ok (.iadd, 1) := by decide +kernel
theorem d_Pr_choices_19 : decode b_Pr_choices 19 = .ok (.goto 4, 3) := by decide +kernel
theorem d_Pr_choices_22 : decode b_Pr_choices 22 = .ok (.iconst 1, 1) := by decide +kernel
theorem d_Pr_choices_23 : decode b_Pr_choices 23 = .ok (.ireturn, 1) := by decide +kernel
theorem d_Pr_step_0 : decode b_Pr_step 0 = .ok (.aload_n 0, 1) := by decide +kernel
theorem d_Pr_step_1 : decode b_Pr_step 1 = .ok (.getfield 39, 3) := by decide +kernel
theorem d_Pr_step_4 : decode b_Pr_step 4 = .ok (.iload_n 1, 1) := by decide +kernel
theorem d_Pr_step_5 : decode b_Pr_step 5 = .ok (.aaload, 1) := by decide +kernel
theorem d_Pr_step_6 : decode b_Pr_step 6 = .ok (.iload_n 2, 1) := by decide +kernel
theorem d_Pr_step_7 : decode b_Pr_step 7 = .ok (.iaload, 1) := by decide +kernel
theorem d_Pr_step_8 : decode b_Pr_step 8 = .ok (.istore 4, 2) := by decide +kernel
theorem d_Pr_step_10 : decode b_Pr_step 10 = .ok (.aload_n 0, 1) := by decide +kernel
theorem d_Pr_step_11 : decode b_Pr_step 11 = .ok (.getfield 18, 3) := by decide +kernel
theorem d_Pr_step_14 : decode b_Pr_step 14 = .ok (.iload_n 1, 1) := by decide +kernel
theorem d_Pr_step_15 : decode b_Pr_step 15 = .ok (.iaload, 1) := by decide +kernel
theorem d_Pr_step_16 : decode b_Pr_step 16 = .ok (.iconst 2, 1) := by decide +kernel
theorem d_Pr_step_17 : decode b_Pr_step 17 = .ok (.if_icmp .ne 22, 3) := by decide +kernel
theorem d_Pr_step_20 : decode b_Pr_step 20 = .ok (.aload_n 0, 1) := by decide +kernel
theorem d_Pr_step_21 : decode b_Pr_step 21 = .ok (.getfield 28, 3) := by decide +kernel
theorem d_Pr_step_24 : decode b_Pr_step 24 = .ok (.iload 4, 2) := by decide +kernel
theorem d_Pr_step_26 : decode b_Pr_step 26 = .ok (.aload_n 0, 1) := by decide +kernel
theorem d_Pr_step_27 : decode b_Pr_step 27 = .ok (.getfield 21, 3) := by decide +kernel
theorem d_Pr_step_30 : decode b_Pr_step 30 = .ok (.iload_n 1, 1) := by decide +kernel
theorem d_Pr_step_31 : decode b_Pr_step 31 = .ok (.iaload, 1) := by decide +kernel
theorem d_Pr_step_32 : decode b_Pr_step 32 = .ok (.iload_n 3, 1) := by decide +kernel
theorem d_Pr_step_33 : decode b_Pr_step 33 = .ok (.invokevirtual 52, 3) := by decide +kernel
theorem d_Pr_step_36 : decode b_Pr_step 36 = .ok (.goto 5, 3) := by decide +kernel
theorem d_Pr_step_39 : decode b_Pr_step 39 = .ok (.iload 4, 2) := by decide +kernel
theorem d_Pr_step_41 : decode b_Pr_step 41 = .ok (.ireturn, 1) := by decide +kernel
theorem d_Se_tracePath_0 : decode b_Se_tracePath 0 = .ok (.aload_n 0, 1) := by decide +kernel
theorem d_Se_tracePath_1 : decode b_Se_tracePath 1 = .ok (.aload_n 0, 1) := by decide +kernel
theorem d_Se_tracePath_2 : decode b_Se_tracePath 2 = .ok (.getfield 31, 3) := by decide +kernel
theorem d_Se_tracePath_5 : decode b_Se_tracePath 5 = .ok (.iload_n 1, 1) := by decide +kernel
theorem d_Se_tracePath_6 : decode b_Se_tracePath 6 = .ok (.iaload, 1) := by decide +kernel
theorem d_Se_tracePath_7 : decode b_Se_tracePath 7 = .ok (.putfield 38, 3) := by decide +kernel
theorem d_Se_tracePath_10 : decode b_Se_tracePath 10 = .ok (.iload_n 1, 1) := by decide +kernel
theorem d_Se_tracePath_11 : decode b_Se_tracePath 11 = .ok (.istore_n 2, 1) := by decide +kernel
theorem d_Se_tracePath_12 : decode b_Se_tracePath 12 = .ok (.aload_n 0, 1) := by decide +kernel
theorem d_Se_tracePath_13 : decode b_Se_tracePath 13 = .ok (.getfield 38, 3) := by decide +kernel
theorem d_Se_tracePath_16 : decode b_Se_tracePath 16 = .ok (.iconst 1, 1) := by decide +kernel
theorem d_Se_tracePath_17 : decode b_Se_tracePath 17 = .ok (.isub, 1) := by decide +kernel
theorem d_Se_tracePath_18 : decode b_Se_tracePath 18 = .ok (.istore_n 3, 1) := by decide +kernel
theorem d_Se_tracePath_19 : decode b_Se_tracePath 19 = .ok (.iload_n 3, 1) := by decide +kernel
theorem d_Se_tracePath_20 : decode b_Se_tracePath 20 = .ok (.ifCond .lt 28, 3) := by decide +kernel
theorem d_Se_tracePath_23 : decode b_Se_tracePath 23 = .ok (.aload_n 0, 1) := by decide +kernel
theorem d_Se_tracePath_24 : decode b_Se_tracePath 24 = .ok (.getfield 41, 3) := by decide +kernel
theorem d_Se_tracePath_27 : decode b_Se_tracePath 27 = .ok (.iload_n 3, 1) := by decide +kernel
theorem d_Se_tracePath_28 : decode b_Se_tracePath 28 = .ok (.aload_n 0, 1) := by decide +kernel
theorem d_Se_tracePath_29 : decode b_Se_tracePath 29 = .ok (.getfield 25, 3) := by decide +kernel
theorem d_Se_tracePath_32 : decode b_Se_tracePath 32 = .ok (.iload_n 2, 1) := by decide +kernel
theorem d_Se_tracePath_33 : decode b_Se_tracePath 33 = .ok (.iaload, 1) := by decide +kernel
theorem d_Se_tracePath_34 : decode b_Se_tracePath 34 = .ok (.iastore, 1) := by decide +kernel
theorem d_Se_tracePath_35 : decode b_Se_tracePath 35 = .ok (.aload_n 0, 1) := by decide +kernel
theorem d_Se_tracePath_36 : decode b_Se_tracePath 36 = .ok (.getfield 22, 3) := by decide +kernel
theorem d_Se_tracePath_39 : decode b_Se_tracePath 39 = .ok (.iload_n 2, 1) := by decide +kernel
theorem d_Se_tracePath_40 : decode b_Se_tracePath 40 = .ok (.iaload, 1) := by decide +kernel
theorem d_Se_tracePath_41 : decode b_Se_tracePath 41 = .ok (.istore_n 2, 1) := by decide +kernel
theorem d_Se_tracePath_42 : decode b_Se_tracePath 42 = .ok (.iinc 3 (-1), 3) := by decide +kernel
theorem d_Se_tracePath_45 : decode b_Se_tracePath 45 = .ok (.goto (-26), 3) := by decide +kernel
theorem d_Se_tracePath_48 : decode b_Se_tracePath 48 = .ok (.return_, 1) := by decide +kernel
theorem d_Re_succeeds_0 : decode b_Re_succeeds 0 = .ok (.aload_n 0, 1) := by decide +kernel
theorem d_Re_succeeds_1 : decode b_Re_succeeds 1 = .ok (.getfield 38, 3) := by decide +kernel
theorem d_Re_succeeds_4 : decode b_Re_succeeds 4 = .ok (.aload_n 0, 1) := by decide +kernel
theorem d_Re_succeeds_5 : decode b_Re_succeeds 5 = .ok (.getfield 27, 3) := by decide +kernel
theorem d_Re_succeeds_8 : decode b_Re_succeeds 8 = .ok (.getfield 41, 3) := by decide +kernel
theorem d_Re_succeeds_11 : decode b_Re_succeeds 11 = .ok (.aaload, 1) := by decide +kernel
theorem d_Re_succeeds_12 : decode b_Re_succeeds 12 = .ok (.ldc2_w 46, 3) := by decide +kernel
theorem d_Re_succeeds_15 : decode b_Re_succeeds 15 = .ok (.invokestatic 48, 3) := by decide +kernel
theorem d_Re_succeeds_18 : decode b_Re_succeeds 18 = .ok (.aload_n 0, 1) := by decide +kernel
theorem d_Re_succeeds_19 : decode b_Re_succeeds 19 = .ok (.getfield 27, 3) := by decide +kernel
theorem d_Re_succeeds_22 : decode b_Re_succeeds 22 = .ok (.getfield 41, 3) := by decide +kernel
theorem d_Re_succeeds_25 : decode b_Re_succeeds 25 = .ok (.iconst 1, 1) := by decide +kernel
theorem d_Re_succeeds_26 : decode b_Re_succeeds 26 = .ok (.isub, 1) := by decide +kernel
theorem d_Re_succeeds_27 : decode b_Re_succeeds 27 = .ok (.istore_n 1, 1) := by decide +kernel
theorem d_Re_succeeds_28 : decode b_Re_succeeds 28 = .ok (.iload_n 1, 1) := by decide +kernel
theorem d_Re_succeeds_29 : decode b_Re_succeeds 29 = .ok (.ifCond .lt 14, 3) := by decide +kernel
theorem d_Re_succeeds_32 : decode b_Re_succeeds 32 = .ok (.aload_n 0, 1) := by decide +kernel
theorem d_Re_succeeds_33 : decode b_Re_succeeds 33 = .ok (.iload_n 1, 1) := by decide +kernel
theorem d_Re_succeeds_34 : decode b_Re_succeeds 34 = .ok (.invokevirtual 54, 3) := by decide +kernel
theorem d_Re_succeeds_37 : decode b_Re_succeeds 37 = .ok (.iinc 1 (-1), 3) := by decide +kernel
theorem d_Re_succeeds_40 : decode b_Re_succeeds 40 = .ok (.goto (-12), 3) := by decide +kernel
theorem d_Re_succeeds_43 : decode b_Re_succeeds 43 = .ok (.aload_n 0, 1) := by decide +kernel
theorem d_Re_succeeds_44 : decode b_Re_succeeds 44 = .ok (.iconst 0, 1) := by decide +kernel
theorem d_Re_succeeds_45 : decode b_Re_succeeds 45 = .ok (.iconst 0, 1) := by decide +kernel
theorem d_Re_succeeds_46 : decode b_Re_succeeds 46 = .ok (.invokevirtual 58, 3) := by decide +kernel
theorem d_Re_succeeds_49 : decode b_Re_succeeds 49 = .ok (.ifCond .ne 5, 3) := by decide +kernel
theorem d_Re_succeeds_52 : decode b_Re_succeeds 52 = .ok (.iconst 0, 1) := by decide +kernel
theorem d_Re_succeeds_53 : decode b_Re_succeeds 53 = .ok (.ireturn, 1) := by decide +kernel
theorem d_Re_succeeds_54 : decode b_Re_succeeds 54 = .ok (.aload_n 0, 1) := by decide +kernel
theorem d_Re_succeeds_55 : decode b_Re_succeeds 55 = .ok (.invokevirtual 62, 3) := by decide +kernel
theorem d_Re_succeeds_58 : decode b_Re_succeeds 58 = .ok (.iconst 1, 1) := by decide +kernel
theorem d_Re_succeeds_59 : decode b_Re_succeeds 59 = .ok (.ireturn, 1) := by decide +kernel
theorem d_Ar_fill_aJJ_0 : decode b_Ar_fill_aJJ 0 = .ok (.iconst 0, 1) := by decide +kernel
theorem d_Ar_fill_aJJ_1 : decode b_Ar_fill_aJJ 1 = .ok (.istore_n 3, 1) := by decide +kernel
theorem d_Ar_fill_aJJ_2 : decode b_Ar_fill_aJJ 2 = .ok (.aload_n 0, 1) := by decide +kernel
theorem d_Ar_fill_aJJ_3 : decode b_Ar_fill_aJJ 3 = .ok (.arraylength, 1) := by decide +kernel
theorem d_Ar_fill_aJJ_4 : decode b_Ar_fill_aJJ 4 = .ok (.istore 4, 2) := by decide +kernel
theorem d_Ar_fill_aJJ_6 : decode b_Ar_fill_aJJ 6 = .ok (.iload_n 3, 1) := by decide +kernel
theorem d_Ar_fill_aJJ_7 : decode b_Ar_fill_aJJ 7 = .ok (.iload 4, 2) := by decide +kernel
theorem d_Ar_fill_aJJ_9 : decode b_Ar_fill_aJJ 9 = .ok (.if_icmp .ge 13, 3) := by decide +kernel
theorem d_Ar_fill_aJJ_12 : decode b_Ar_fill_aJJ 12 = .ok (.aload_n 0, 1) := by decide +kernel
theorem d_Ar_fill_aJJ_13 : decode b_Ar_fill_aJJ 13 = .ok (.iload_n 3, 1) := by decide +kernel
theorem d_Ar_fill_aJJ_14 : decode b_Ar_fill_aJJ 14 = .ok (.lload_n 1, 1) := by decide +kernel
theorem d_Ar_fill_aJJ_15 : decode b_Ar_fill_aJJ 15 = .ok (.lastore, 1) := by decide +kernel
theorem d_Ar_fill_aJJ_16 : decode b_Ar_fill_aJJ 16 = .ok (.iinc 3 1, 3) := by decide +kernel
theorem d_Ar_fill_aJJ_19 : decode b_Ar_fill_aJJ 19 = .ok (.goto (-13), 3) := by decide +kernel
theorem d_Ar_fill_aJJ_22 : decode b_Ar_fill_aJJ 22 = .ok (.return_, 1) := by decide +kernel
theorem d_Re_openBefore_0 : decode b_Re_openBefore 0 = .ok (.aload_n 0, 1) := by decide +kernel
theorem d_Re_openBefore_1 : decode b_Re_openBefore 1 = .ok (.getfield 38, 3) := by decide +kernel
theorem d_Re_openBefore_4 : decode b_Re_openBefore 4 = .ok (.iload_n 1, 1) := by decide +kernel
theorem d_Re_openBefore_5 : decode b_Re_openBefore 5 = .ok (.aaload, 1) := by decide +kernel
theorem d_Re_openBefore_6 : decode b_Re_openBefore 6 = .ok (.lconst 0, 1) := by decide +kernel
theorem d_Re_openBefore_7 : decode b_Re_openBefore 7 = .ok (.invokestatic 48, 3) := by decide +kernel
theorem d_Re_openBefore_10 : decode b_Re_openBefore 10 = .ok (.iconst 0, 1) := by decide +kernel
theorem d_Re_openBefore_11 : decode b_Re_openBefore 11 = .ok (.istore_n 2, 1) := by decide +kernel
theorem d_Re_openBefore_12 : decode b_Re_openBefore 12 = .ok (.iload_n 2, 1) := by decide +kernel
theorem d_Re_openBefore_13 : decode b_Re_openBefore 13 = .ok (.aload_n 0, 1) := by decide +kernel
theorem d_Re_openBefore_14 : decode b_Re_openBefore 14 = .ok (.getfield 19, 3) := by decide +kernel
theorem d_Re_openBefore_17 : decode b_Re_openBefore 17 = .ok (.getfield 31, 3) := by decide +kernel
theorem d_Re_openBefore_20 : decode b_Re_openBefore 20 = .ok (.if_icmp .ge 38, 3) := by decide +kernel
theorem d_Re_openBefore_23 : decode b_Re_openBefore 23 = .ok (.aload_n 0, 1) := by decide +kernel
theorem d_Re_openBefore_24 : decode b_Re_openBefore 24 = .ok (.iload_n 1, 1) := by decide +kernel
theorem d_Re_openBefore_25 : decode b_Re_openBefore 25 = .ok (.iload_n 2, 1) := by decide +kernel
theorem d_Re_openBefore_26 : decode b_Re_openBefore 26 = .ok (.invokevirtual 65, 3) := by decide +kernel
theorem d_Re_openBefore_29 : decode b_Re_openBefore 29 = .ok (.ifCond .lt 23, 3) := by decide +kernel
theorem d_Re_openBefore_32 : decode b_Re_openBefore 32 = .ok (.aload_n 0, 1) := by decide +kernel
theorem d_Re_openBefore_33 : decode b_Re_openBefore 33 = .ok (.getfield 38, 3) := by decide +kernel
theorem d_Re_openBefore_36 : decode b_Re_openBefore 36 = .ok (.iload_n 1, 1) := by decide +kernel
theorem d_Re_openBefore_37 : decode b_Re_openBefore 37 = .ok (.aaload, 1) := by decide +kernel
theorem d_Re_openBefore_38 : decode b_Re_openBefore 38 = .ok (.iload_n 2, 1) := by decide +kernel
theorem d_Re_openBefore_39 : decode b_Re_openBefore 39 = .ok (.bipush 6, 2) := by decide +kernel
theorem d_Re_openBefore_41 : decode b_Re_openBefore 41 = .ok (.ishr, 1) := by decide +kernel
theorem d_Re_openBefore_42 : decode b_Re_openBefore 42 = .ok (.dup2, 1) := by decide +kernel
theorem d_Re_openBefore_43 : decode b_Re_openBefore 43 = .ok (.laload, 1) := by decide +kernel
theorem d_Re_openBefore_44 : decode b_Re_openBefore 44 = .ok (.lconst 1, 1) := by decide +kernel
theorem d_Re_openBefore_45 : decode b_Re_openBefore 45 = .ok (.iload_n 2, 1) := by decide +kernel
theorem d_Re_openBefore_46 : decode b_Re_openBefore 46 = .ok (.bipush 63, 2) := by decide +kernel
theorem d_Re_openBefore_48 : decode b_Re_openBefore 48 = .ok (.iand, 1) := by decide +kernel
theorem d_Re_openBefore_49 : decode b_Re_openBefore 49 = .ok (.lshl, 1) := by decide +kernel
theorem d_Re_openBefore_50 : decode b_Re_openBefore 50 = .ok (.lor, 1) := by decide +kernel
theorem d_Re_openBefore_51 : decode b_Re_openBefore 51 = .ok (.lastore, 1) := by decide +kernel
theorem d_Re_openBefore_52 : decode b_Re_openBefore 52 = .ok (.iinc 2 1, 3) := by decide +kernel
theorem d_Re_openBefore_55 : decode b_Re_openBefore 55 = .ok (.goto (-43), 3) := by decide +kernel
theorem d_Re_openBefore_58 : decode b_Re_openBefore 58 = .ok (.return_, 1) := by decide +kernel
theorem d_Re_leastInput_0 : decode b_Re_leastInput 0 = .ok (.aload_n 0, 1) := by decide +kernel
theorem d_Re_leastInput_1 : decode b_Re_leastInput 1 = .ok (.getfield 27, 3) := by decide +kernel
theorem d_Re_leastInput_4 : decode b_Re_leastInput 4 = .ok (.getfield 69, 3) := by decide +kernel
theorem d_Re_leastInput_7 : decode b_Re_leastInput 7 = .ok (.iload_n 1, 1) := by decide +kernel
theorem d_Re_leastInput_8 : decode b_Re_leastInput 8 = .ok (.iaload, 1) := by decide +kernel
theorem d_Re_leastInput_9 : decode b_Re_leastInput 9 = .ok (.istore_n 3, 1) := by decide +kernel
theorem d_Re_leastInput_10 : decode b_Re_leastInput 10 = .ok (.aload_n 0, 1) := by decide +kernel
theorem d_Re_leastInput_11 : decode b_Re_leastInput 11 = .ok (.getfield 23, 3) := by decide +kernel
theorem d_Re_leastInput_14 : decode b_Re_leastInput 14 = .ok (.iload_n 3, 1) := by decide +kernel
theorem d_Re_leastInput_15 : decode b_Re_leastInput 15 = .ok (.invokevirtual 72, 3) := by decide +kernel
theorem d_Re_leastInput_18 : decode b_Re_leastInput 18 = .ok (.istore 4, 2) := by decide +kernel
theorem d_Re_leastInput_20 : decode b_Re_leastInput 20 = .ok (.iconst 0, 1) := by decide +kernel
theorem d_Re_leastInput_21 : decode b_Re_leastInput 21 = .ok (.istore 5, 2) := by decide +kernel
theorem d_Re_leastInput_23 : decode b_Re_leastInput 23 = .ok (.iload 5, 2) := by decide +kernel
theorem d_Re_leastInput_25 : decode b_Re_leastInput 25 = .ok (.iload 4, 2) := by decide +kernel
theorem d_Re_leastInput_27 : decode b_Re_leastInput 27 = .ok (.if_icmp .ge 42, 3) := by decide +kernel
theorem d_Re_leastInput_30 : decode b_Re_leastInput 30 = .ok (.aload_n 0, 1) := by decide +kernel
theorem d_Re_leastInput_31 : decode b_Re_leastInput 31 = .ok (.getfield 23, 3) := by decide +kernel
theorem d_Re_leastInput_34 : decode b_Re_leastInput 34 = .ok (.iload_n 3, 1) := by decide +kernel
theorem d_Re_leastInput_35 : decode b_Re_leastInput 35 = .ok (.iload_n 2, 1) := by decide +kernel
theorem d_Re_leastInput_36 : decode b_Re_leastInput 36 = .ok (.iload 5, 2) := by decide +kernel
theorem d_Re_leastInput_38 : decode b_Re_leastInput 38 = .ok (.invokevirtual 78, 3) := by decide +kernel
theorem d_Re_leastInput_41 : decode b_Re_leastInput 41 = .ok (.istore 6, 2) := by decide +kernel
theorem d_Re_leastInput_43 : decode b_Re_leastInput 43 = .ok (.iload 6, 2) := by decide +kernel
theorem d_Re_leastInput_45 : decode b_Re_leastInput 45 = .ok (.ifCond .lt 18, 3) := by decide +kernel
theorem d_Re_leastInput_48 : decode b_Re_leastInput 48 = .ok (.aload_n 0, 1) := by decide +kernel
theorem d_Re_leastInput_49 : decode b_Re_leastInput 49 = .ok (.iload_n 1, 1) := by decide +kernel
theorem d_Re_leastInput_50 : decode b_Re_leastInput 50 = .ok (.iconst 1, 1) := by decide +kernel
theorem d_Re_leastInput_51 : decode b_Re_leastInput 51 = .ok (.iadd, 1) := by decide +kernel
theorem d_Re_leastInput_52 : decode b_Re_leastInput 52 = .ok (.iload 6, 2) := by decide +kernel
theorem d_Re_leastInput_54 : decode b_Re_leastInput 54 = .ok (.invokevirtual 58, 3) := by decide +kernel
theorem d_Re_leastInput_57 : decode b_Re_leastInput 57 = .ok (.ifCond .eq 6, 3) := by decide +kernel
theorem d_Re_leastInput_60 : decode b_Re_leastInput 60 = .ok (.iload 5, 2) := by decide +kernel
theorem d_Re_leastInput_62 : decode b_Re_leastInput 62 = .ok (.ireturn, 1) := by decide +kernel
theorem d_Re_leastInput_63 : decode b_Re_leastInput 63 = .ok (.iinc 5 1, 3) := by decide +kernel
theorem d_Re_leastInput_66 : decode b_Re_leastInput 66 = .ok (.goto (-43), 3) := by decide +kernel
theorem d_Re_leastInput_69 : decode b_Re_leastInput 69 = .ok (.iconst (-1), 1) := by decide +kernel
theorem d_Re_leastInput_70 : decode b_Re_leastInput 70 = .ok (.ireturn, 1) := by decide +kernel
theorem d_Re_isOpen_0 : decode b_Re_isOpen 0 = .ok (.aload_n 0, 1) := by decide +kernel
theorem d_Re_isOpen_1 : decode b_Re_isOpen 1 = .ok (.getfield 38, 3) := by decide +kernel
theorem d_Re_isOpen_4 : decode b_Re_isOpen 4 = .ok (.iload_n 1, 1) := by decide +kernel
theorem d_Re_isOpen_5 : decode b_Re_isOpen 5 = .ok (.aaload, 1) := by decide +kernel
theorem d_Re_isOpen_6 : decode b_Re_isOpen 6 = .ok (.iload_n 2, 1) := by decide +kernel
theorem d_Re_isOpen_7 : decode b_Re_isOpen 7 = .ok (.bipush 6, 2) := by decide +kernel
theorem d_Re_isOpen_9 : decode b_Re_isOpen 9 = .ok (.ishr, 1) := by decide +kernel
theorem d_Re_isOpen_10 : decode b_Re_isOpen 10 = .ok (.laload, 1) := by decide +kernel
theorem d_Re_isOpen_11 : decode b_Re_isOpen 11 = .ok (.iload_n 2, 1) := by decide +kernel
theorem d_Re_isOpen_12 : decode b_Re_isOpen 12 = .ok (.bipush 63, 2) := by decide +kernel
theorem d_Re_isOpen_14 : decode b_Re_isOpen 14 = .ok (.iand, 1) := by decide +kernel
theorem d_Re_isOpen_15 : decode b_Re_isOpen 15 = .ok (.lushr, 1) := by decide +kernel
theorem d_Re_isOpen_16 : decode b_Re_isOpen 16 = .ok (.lconst 1, 1) := by decide +kernel
theorem d_Re_isOpen_17 : decode b_Re_isOpen 17 = .ok (.land, 1) := by decide +kernel
theorem d_Re_isOpen_18 : decode b_Re_isOpen 18 = .ok (.lconst 0, 1) := by decide +kernel
theorem d_Re_isOpen_19 : decode b_Re_isOpen 19 = .ok (.lcmp, 1) := by decide +kernel
theorem d_Re_isOpen_20 : decode b_Re_isOpen 20 = .ok (.ifCond .eq 7, 3) := by decide +kernel
theorem d_Re_isOpen_23 : decode b_Re_isOpen 23 = .ok (.iconst 1, 1) := by decide +kernel
theorem d_Re_isOpen_24 : decode b_Re_isOpen 24 = .ok (.goto 4, 3) := by decide +kernel
theorem d_Re_isOpen_27 : decode b_Re_isOpen 27 = .ok (.iconst 0, 1) := by decide +kernel
theorem d_Re_isOpen_28 : decode b_Re_isOpen 28 = .ok (.ireturn, 1) := by decide +kernel
theorem d_Re_collectInputs_0 : decode b_Re_collectInputs 0 = .ok (.iconst 0, 1) := by decide +kernel
theorem d_Re_collectInputs_1 : decode b_Re_collectInputs 1 = .ok (.istore_n 1, 1) := by decide +kernel
theorem d_Re_collectInputs_2 : decode b_Re_collectInputs 2 = .ok (.iconst 0, 1) := by decide +kernel
theorem d_Re_collectInputs_3 : decode b_Re_collectInputs 3 = .ok (.istore_n 2, 1) := by decide +kernel
theorem d_Re_collectInputs_4 : decode b_Re_collectInputs 4 = .ok (.iload_n 2, 1) := by decide +kernel
theorem d_Re_collectInputs_5 : decode b_Re_collectInputs 5 = .ok (.aload_n 0, 1) := by decide +kernel
theorem d_Re_collectInputs_6 : decode b_Re_collectInputs 6 = .ok (.getfield 27, 3) := by decide +kernel
theorem d_Re_collectInputs_9 : decode b_Re_collectInputs 9 = .ok (.getfield 41, 3) := by decide +kernel
theorem d_Re_collectInputs_12 : decode b_Re_collectInputs 12 = .ok (.if_icmp .ge 77, 3) := by decide +kernel
theorem d_Re_collectInputs_15 : decode b_Re_collectInputs 15 = .ok (.iload_n 1, 1) := by decide +kernel
theorem d_Re_collectInputs_16 : decode b_Re_collectInputs 16 = .ok (.ifCond .lt 73, 3) := by decide +kernel
theorem d_Re_collectInputs_19 : decode b_Re_collectInputs 19 = .ok (.aload_n 0, 1) := by decide +kernel
theorem d_Re_collectInputs_20 : decode b_Re_collectInputs 20 = .ok (.getfield 27, 3) := by decide +kernel
theorem d_Re_collectInputs_23 : decode b_Re_collectInputs 23 = .ok (.getfield 69, 3) := by decide +kernel
theorem d_Re_collectInputs_26 : decode b_Re_collectInputs 26 = .ok (.iload_n 2, 1) := by decide +kernel
theorem d_Re_collectInputs_27 : decode b_Re_collectInputs 27 = .ok (.iaload, 1) := by decide +kernel
theorem d_Re_collectInputs_28 : decode b_Re_collectInputs 28 = .ok (.istore_n 3, 1) := by decide +kernel
theorem d_Re_collectInputs_29 : decode b_Re_collectInputs 29 = .ok (.aload_n 0, 1) := by decide +kernel
theorem d_Re_collectInputs_30 : decode b_Re_collectInputs 30 = .ok (.iload_n 2, 1) := by decide +kernel
theorem d_Re_collectInputs_31 : decode b_Re_collectInputs 31 = .ok (.iload_n 1, 1) := by decide +kernel
theorem d_Re_collectInputs_32 : decode b_Re_collectInputs 32 = .ok (.invokevirtual 65, 3) := by decide +kernel
theorem d_Re_collectInputs_35 : decode b_Re_collectInputs 35 = .ok (.istore 4, 2) := by decide +kernel
theorem d_Re_collectInputs_37 : decode b_Re_collectInputs 37 = .ok (.aload_n 0, 1) := by decide +kernel
theorem d_Re_collectInputs_38 : decode b_Re_collectInputs 38 = .ok (.getfield 23, 3) := by decide +kernel
theorem d_Re_collectInputs_41 : decode b_Re_collectInputs 41 = .ok (.getfield 82, 3) := by decide +kernel
theorem d_Re_collectInputs_44 : decode b_Re_collectInputs 44 = .ok (.iload_n 3, 1) := by decide +kernel
theorem d_Re_collectInputs_45 : decode b_Re_collectInputs 45 = .ok (.iaload, 1) := by decide +kernel
theorem d_Re_collectInputs_46 : decode b_Re_collectInputs 46 = .ok (.iconst 2, 1) := by decide +kernel
theorem d_Re_collectInputs_47 : decode b_Re_collectInputs 47 = .ok (.if_icmp .ne 24, 3) := by decide +kernel
theorem d_Re_collectInputs_50 : decode b_Re_collectInputs 50 = .ok (.aload_n 0, 1) := by decide +kernel
theorem d_Re_collectInputs_51 : decode b_Re_collectInputs 51 = .ok (.getfield 9, 3) := by decide +kernel
theorem d_Re_collectInputs_54 : decode b_Re_collectInputs 54 = .ok (.aload_n 0, 1) := by decide +kernel
theorem d_Re_collectInputs_55 : decode b_Re_collectInputs 55 = .ok (.getfield 15, 3) := by decide +kernel
theorem d_Re_collectInputs_58 : decode b_Re_collectInputs 58 = .ok (.iload 4, 2) := by decide +kernel
theorem d_Re_collectInputs_60 : decode b_Re_collectInputs 60 = .ok (.iastore, 1) := by decide +kernel
theorem d_Re_collectInputs_61 : decode b_Re_collectInputs 61 = .ok (.aload_n 0, 1) := by decide +kernel
theorem d_Re_collectInputs_62 : decode b_Re_collectInputs 62 = .ok (.dup, 1) := by decide +kernel
theorem d_Re_collectInputs_63 : decode b_Re_collectInputs 63 = .ok (.getfield 15, 3) := by decide +kernel
theorem d_Re_collectInputs_66 : decode b_Re_collectInputs 66 = .ok (.iconst 1, 1) := by decide +kernel
theorem d_Re_collectInputs_67 : decode b_Re_collectInputs 67 = .ok (.iadd, 1) := by decide +kernel
theorem d_Re_collectInputs_68 : decode b_Re_collectInputs 68 = .ok (.putfield 15, 3) := by decide +kernel
theorem d_Re_collectInputs_71 : decode b_Re_collectInputs 71 = .ok (.aload_n 0, 1) := by decide +kernel
theorem d_Re_collectInputs_72 : decode b_Re_collectInputs 72 = .ok (.getfield 23, 3) := by decide +kernel
theorem d_Re_collectInputs_75 : decode b_Re_collectInputs 75 = .ok (.iload_n 3, 1) := by decide +kernel
theorem d_Re_collectInputs_76 : decode b_Re_collectInputs 76 = .ok (.iload_n 1, 1) := by decide +kernel
theorem d_Re_collectInputs_77 : decode b_Re_collectInputs 77 = .ok (.iload 4, 2) := by decide +kernel
theorem d_Re_collectInputs_79 : decode b_Re_collectInputs 79 = .ok (.invokevirtual 78, 3) := by decide +kernel
theorem d_Re_collectInputs_82 : decode b_Re_collectInputs 82 = .ok (.istore_n 1, 1) := by decide +kernel
theorem d_Re_collectInputs_83 : decode b_Re_collectInputs 83 = .ok (.iinc 2 1, 3) := by decide +kernel
theorem d_Re_collectInputs_86 : decode b_Re_collectInputs 86 = .ok (.goto (-82), 3) := by decide +kernel
theorem d_Re_collectInputs_89 : decode b_Re_collectInputs 89 = .ok (.return_, 1) := by decide +kernel
theorem d_Rf_refine_0 : decode b_Rf_refine 0 = .ok (.aload_n 0, 1) := by decide +kernel
theorem d_Rf_refine_1 : decode b_Rf_refine 1 = .ok (.getfield 23, 3) := by decide +kernel
theorem d_Rf_refine_4 : decode b_Rf_refine 4 = .ok (.getfield 45, 3) := by decide +kernel
theorem d_Rf_refine_7 : decode b_Rf_refine 7 = .ok (.istore_n 1, 1) := by decide +kernel
theorem d_Rf_refine_8 : decode b_Rf_refine 8 = .ok (.aload_n 0, 1) := by decide +kernel
theorem d_Rf_refine_9 : decode b_Rf_refine 9 = .ok (.iconst 0, 1) := by decide +kernel
theorem d_Rf_refine_10 : decode b_Rf_refine 10 = .ok (.putfield 9, 3) := by decide +kernel
theorem d_Rf_refine_13 : decode b_Rf_refine 13 = .ok (.aload_n 0, 1) := by decide +kernel
theorem d_Rf_refine_14 : decode b_Rf_refine 14 = .ok (.getfield 27, 3) := by decide +kernel
theorem d_Rf_refine_17 : decode b_Rf_refine 17 = .ok (.getfield 50, 3) := by decide +kernel
theorem d_Rf_refine_20 : decode b_Rf_refine 20 = .ok (.iconst 1, 1) := by decide +kernel
theorem d_Rf_refine_21 : decode b_Rf_refine 21 = .ok (.isub, 1) := by decide +kernel
theorem d_Rf_refine_22 : decode b_Rf_refine 22 = .ok (.istore_n 2, 1) := by decide +kernel
theorem d_Rf_refine_23 : decode b_Rf_refine 23 = .ok (.iload_n 2, 1) := by decide +kernel
theorem d_Rf_refine_24 : decode b_Rf_refine 24 = .ok (.ifCond .lt 31, 3) := by decide +kernel
theorem d_Rf_refine_27 : decode b_Rf_refine 27 = .ok (.aload_n 0, 1) := by decide +kernel
theorem d_Rf_refine_28 : decode b_Rf_refine 28 = .ok (.aload_n 0, 1) := by decide +kernel
theorem d_Rf_refine_29 : decode b_Rf_refine 29 = .ok (.getfield 27, 3) := by decide +kernel
theorem d_Rf_refine_32 : decode b_Rf_refine 32 = .ok (.getfield 55, 3) := by decide +kernel
theorem d_Rf_refine_35 : decode b_Rf_refine 35 = .ok (.iload_n 2, 1) := by decide +kernel
theorem d_Rf_refine_36 : decode b_Rf_refine 36 = .ok (.iaload, 1) := by decide +kernel
theorem d_Rf_refine_37 : decode b_Rf_refine 37 = .ok (.invokevirtual 59, 3) := by decide +kernel
theorem d_Rf_refine_40 : decode b_Rf_refine 40 = .ok (.aload_n 0, 1) := by decide +kernel
theorem d_Rf_refine_41 : decode b_Rf_refine 41 = .ok (.invokevirtual 63, 3) := by decide +kernel
theorem d_Rf_refine_44 : decode b_Rf_refine 44 = .ok (.ifCond .ne 5, 3) := by decide +kernel
theorem d_Rf_refine_47 : decode b_Rf_refine 47 = .ok (.iconst 0, 1) := by decide +kernel
theorem d_Rf_refine_48 : decode b_Rf_refine 48 = .ok (.ireturn, 1) := by decide +kernel
theorem d_Rf_refine_49 : decode b_Rf_refine 49 = .ok (.iinc 2 (-1), 3) := by decide +kernel
theorem d_Rf_refine_52 : decode b_Rf_refine 52 = .ok (.goto (-29), 3) := by decide +kernel
theorem d_Rf_refine_55 : decode b_Rf_refine 55 = .ok (.aload_n 0, 1) := by decide +kernel
theorem d_Rf_refine_56 : decode b_Rf_refine 56 = .ok (.getfield 23, 3) := by decide +kernel
theorem d_Rf_refine_59 : decode b_Rf_refine 59 = .ok (.getfield 45, 3) := by decide +kernel
theorem d_Rf_refine_62 : decode b_Rf_refine 62 = .ok (.iload_n 1, 1) := by decide +kernel
theorem d_Rf_refine_63 : decode b_Rf_refine 63 = .ok (.if_icmp .gt 10, 3) := by decide +kernel
theorem d_Rf_refine_66 : decode b_Rf_refine 66 = .ok (.aload_n 0, 1) := by decide +kernel
theorem d_Rf_refine_67 : decode b_Rf_refine 67 = .ok (.invokevirtual 67, 3) := by decide +kernel
theorem d_Rf_refine_70 : decode b_Rf_refine 70 = .ok (.ifCond .eq 7, 3) := by decide +kernel
theorem d_Rf_refine_73 : decode b_Rf_refine 73 = .ok (.iconst 1, 1) := by decide +kernel
theorem d_Rf_refine_74 : decode b_Rf_refine 74 = .ok (.goto 4, 3) := by decide +kernel
theorem d_Rf_refine_77 : decode b_Rf_refine 77 = .ok (.iconst 0, 1) := by decide +kernel
theorem d_Rf_refine_78 : decode b_Rf_refine 78 = .ok (.ireturn, 1) := by decide +kernel
theorem d_Rf_passEdge_0 : decode b_Rf_passEdge 0 = .ok (.aload_n 0, 1) := by decide +kernel
theorem d_Rf_passEdge_1 : decode b_Rf_passEdge 1 = .ok (.getfield 19, 3) := by decide +kernel
theorem d_Rf_passEdge_4 : decode b_Rf_passEdge 4 = .ok (.getfield 70, 3) := by decide +kernel
theorem d_Rf_passEdge_7 : decode b_Rf_passEdge 7 = .ok (.iload_n 1, 1) := by decide +kernel
theorem d_Rf_passEdge_8 : decode b_Rf_passEdge 8 = .ok (.iaload, 1) := by decide +kernel
theorem d_Rf_passEdge_9 : decode b_Rf_passEdge 9 = .ok (.istore_n 2, 1) := by decide +kernel
theorem d_Rf_passEdge_10 : decode b_Rf_passEdge 10 = .ok (.iload_n 2, 1) := by decide +kernel
theorem d_Rf_passEdge_11 : decode b_Rf_passEdge 11 = .ok (.ifCond .ne 17, 3) := by decide +kernel
theorem d_Rf_passEdge_14 : decode b_Rf_passEdge 14 = .ok (.aload_n 0, 1) := by decide +kernel
theorem d_Rf_passEdge_15 : decode b_Rf_passEdge 15 = .ok (.aload_n 0, 1) := by decide +kernel
theorem d_Rf_passEdge_16 : decode b_Rf_passEdge 16 = .ok (.getfield 19, 3) := by decide +kernel
theorem d_Rf_passEdge_19 : decode b_Rf_passEdge 19 = .ok (.getfield 75, 3) := by decide +kernel
theorem d_Rf_passEdge_22 : decode b_Rf_passEdge 22 = .ok (.iload_n 1, 1) := by decide +kernel
theorem d_Rf_passEdge_23 : decode b_Rf_passEdge 23 = .ok (.aaload, 1) := by decide +kernel
theorem d_Rf_passEdge_24 : decode b_Rf_passEdge 24 = .ok (.invokevirtual 79, 3) := by decide +kernel
theorem d_Rf_passEdge_27 : decode b_Rf_passEdge 27 = .ok (.return_, 1) := by decide +kernel
theorem d_Rf_passEdge_28 : decode b_Rf_passEdge 28 = .ok (.iconst 0, 1) := by decide +kernel
theorem d_Rf_passEdge_29 : decode b_Rf_passEdge 29 = .ok (.istore_n 3, 1) := by decide +kernel
theorem d_Rf_passEdge_30 : decode b_Rf_passEdge 30 = .ok (.iload_n 3, 1) := by decide +kernel
theorem d_Rf_passEdge_31 : decode b_Rf_passEdge 31 = .ok (.aload_n 0, 1) := by decide +kernel
theorem d_Rf_passEdge_32 : decode b_Rf_passEdge 32 = .ok (.invokevirtual 83, 3) := by decide +kernel
theorem d_Rf_passEdge_35 : decode b_Rf_passEdge 35 = .ok (.if_icmp .ge 55, 3) := by decide +kernel
theorem d_Rf_passEdge_38 : decode b_Rf_passEdge 38 = .ok (.iload_n 2, 1) := by decide +kernel
theorem d_Rf_passEdge_39 : decode b_Rf_passEdge 39 = .ok (.iconst 1, 1) := by decide +kernel
theorem d_Rf_passEdge_40 : decode b_Rf_passEdge 40 = .ok (.if_icmp .ne 25, 3) := by decide +kernel
theorem d_Rf_passEdge_43 : decode b_Rf_passEdge 43 = .ok (.aload_n 0, 1) := by decide +kernel
theorem d_Rf_passEdge_44 : decode b_Rf_passEdge 44 = .ok (.aload_n 0, 1) := by decide +kernel
theorem d_Rf_passEdge_45 : decode b_Rf_passEdge 45 = .ok (.getfield 38, 3) := by decide +kernel
theorem d_Rf_passEdge_48 : decode b_Rf_passEdge 48 = .ok (.iload_n 3, 1) := by decide +kernel
theorem d_Rf_passEdge_49 : decode b_Rf_passEdge 49 = .ok (.aaload, 1) := by decide +kernel
theorem d_Rf_passEdge_50 : decode b_Rf_passEdge 50 = .ok (.aload_n 0, 1) := by decide +kernel
theorem d_Rf_passEdge_51 : decode b_Rf_passEdge 51 = .ok (.getfield 19, 3) := by decide +kernel
theorem d_Rf_passEdge_54 : decode b_Rf_passEdge 54 = .ok (.getfield 75, 3) := by decide +kernel
theorem d_Rf_passEdge_57 : decode b_Rf_passEdge 57 = .ok (.iload_n 1, 1) := by decide +kernel
theorem d_Rf_passEdge_58 : decode b_Rf_passEdge 58 = .ok (.aaload, 1) := by decide +kernel
theorem d_Rf_passEdge_59 : decode b_Rf_passEdge 59 = .ok (.invokevirtual 87, 3) := by decide +kernel
theorem d_Rf_passEdge_62 : decode b_Rf_passEdge 62 = .ok (.goto 22, 3) := by decide +kernel
theorem d_Rf_passEdge_65 : decode b_Rf_passEdge 65 = .ok (.aload_n 0, 1) := by decide +kernel
theorem d_Rf_passEdge_66 : decode b_Rf_passEdge 66 = .ok (.aload_n 0, 1) := by decide +kernel
theorem d_Rf_passEdge_67 : decode b_Rf_passEdge 67 = .ok (.getfield 38, 3) := by decide +kernel
theorem d_Rf_passEdge_70 : decode b_Rf_passEdge 70 = .ok (.iload_n 3, 1) := by decide +kernel
theorem d_Rf_passEdge_71 : decode b_Rf_passEdge 71 = .ok (.aaload, 1) := by decide +kernel
theorem d_Rf_passEdge_72 : decode b_Rf_passEdge 72 = .ok (.aload_n 0, 1) := by decide +kernel
theorem d_Rf_passEdge_73 : decode b_Rf_passEdge 73 = .ok (.getfield 19, 3) := by decide +kernel
theorem d_Rf_passEdge_76 : decode b_Rf_passEdge 76 = .ok (.getfield 75, 3) := by decide +kernel
theorem d_Rf_passEdge_79 : decode b_Rf_passEdge 79 = .ok (.iload_n 1, 1) := by decide +kernel
theorem d_Rf_passEdge_80 : decode b_Rf_passEdge 80 = .ok (.aaload, 1) := by decide +kernel
theorem d_Rf_passEdge_81 : decode b_Rf_passEdge 81 = .ok (.invokevirtual 91, 3) := by decide +kernel
theorem d_Rf_passEdge_84 : decode b_Rf_passEdge 84 = .ok (.iinc 3 1, 3) := by decide +kernel
theorem d_Rf_passEdge_87 : decode b_Rf_passEdge 87 = .ok (.goto (-57), 3) := by decide +kernel
theorem d_Rf_passEdge_90 : decode b_Rf_passEdge 90 = .ok (.return_, 1) := by decide +kernel
theorem d_Rf_takeAlong_0 : decode b_Rf_takeAlong 0 = .ok (.aload_n 0, 1) := by decide +kernel
theorem d_Rf_takeAlong_1 : decode b_Rf_takeAlong 1 = .ok (.getfield 38, 3) := by decide +kernel
theorem d_Rf_takeAlong_4 : decode b_Rf_takeAlong 4 = .ok (.aload_n 0, 1) := by decide +kernel
theorem d_Rf_takeAlong_5 : decode b_Rf_takeAlong 5 = .ok (.getfield 9, 3) := by decide +kernel
theorem d_Rf_takeAlong_8 : decode b_Rf_takeAlong 8 = .ok (.bipush 64, 2) := by decide +kernel
theorem d_Rf_takeAlong_10 : decode b_Rf_takeAlong 10 = .ok (.idiv, 1) := by decide +kernel
theorem d_Rf_takeAlong_11 : decode b_Rf_takeAlong 11 = .ok (.aaload, 1) := by decide +kernel
theorem d_Rf_takeAlong_12 : decode b_Rf_takeAlong 12 = .ok (.astore_n 2, 1) := by decide +kernel
theorem d_Rf_takeAlong_13 : decode b_Rf_takeAlong 13 = .ok (.aload_n 0, 1) := by decide +kernel
theorem d_Rf_takeAlong_14 : decode b_Rf_takeAlong 14 = .ok (.getfield 9, 3) := by decide +kernel
theorem d_Rf_takeAlong_17 : decode b_Rf_takeAlong 17 = .ok (.bipush 64, 2) := by decide +kernel
theorem d_Rf_takeAlong_19 : decode b_Rf_takeAlong 19 = .ok (.irem, 1) := by decide +kernel
theorem d_Rf_takeAlong_20 : decode b_Rf_takeAlong 20 = .ok (.istore_n 3, 1) := by decide +kernel
theorem d_Rf_takeAlong_21 : decode b_Rf_takeAlong 21 = .ok (.iload_n 3, 1) := by decide +kernel
theorem d_Rf_takeAlong_22 : decode b_Rf_takeAlong 22 = .ok (.ifCond .ne 8, 3) := by decide +kernel
theorem d_Rf_takeAlong_25 : decode b_Rf_takeAlong 25 = .ok (.aload_n 2, 1) := by decide +kernel
theorem d_Rf_takeAlong_26 : decode b_Rf_takeAlong 26 = .ok (.lconst 0, 1) := by decide +kernel
theorem d_Rf_takeAlong_27 : decode b_Rf_takeAlong 27 = .ok (.invokestatic 94, 3) := by decide +kernel
theorem d_Rf_takeAlong_30 : decode b_Rf_takeAlong 30 = .ok (.iconst 0, 1) := by decide +kernel
theorem d_Rf_takeAlong_31 : decode b_Rf_takeAlong 31 = .ok (.istore 4, 2) := by decide +kernel
theorem d_Rf_takeAlong_33 : decode b_Rf_takeAlong 33 = .ok (.iload 4, 2) := by decide +kernel
theorem d_Rf_takeAlong_35 : decode b_Rf_takeAlong 35 = .ok (.aload_n 0, 1) := by decide +kernel
theorem d_Rf_takeAlong_36 : decode b_Rf_takeAlong 36 = .ok (.getfield 15, 3) := by decide +kernel
theorem d_Rf_takeAlong_39 : decode b_Rf_takeAlong 39 = .ok (.getfield 31, 3) := by decide +kernel
theorem d_Rf_takeAlong_42 : decode b_Rf_takeAlong 42 = .ok (.if_icmp .ge 26, 3) := by decide +kernel
theorem d_Rf_takeAlong_45 : decode b_Rf_takeAlong 45 = .ok (.aload_n 1, 1) := by decide +kernel
theorem d_Rf_takeAlong_46 : decode b_Rf_takeAlong 46 = .ok (.iload 4, 2) := by decide +kernel
theorem d_Rf_takeAlong_48 : decode b_Rf_takeAlong 48 = .ok (.iaload, 1) := by decide +kernel
theorem d_Rf_takeAlong_49 : decode b_Rf_takeAlong 49 = .ok (.ifCond .lt 13, 3) := by decide +kernel
theorem d_Rf_takeAlong_52 : decode b_Rf_takeAlong 52 = .ok (.aload_n 2, 1) := by decide +kernel
theorem d_Rf_takeAlong_53 : decode b_Rf_takeAlong 53 = .ok (.iload 4, 2) := by decide +kernel
theorem d_Rf_takeAlong_55 : decode b_Rf_takeAlong 55 = .ok (.dup2, 1) := by decide +kernel
theorem d_Rf_takeAlong_56 : decode b_Rf_takeAlong 56 = .ok (.laload, 1) := by decide +kernel
theorem d_Rf_takeAlong_57 : decode b_Rf_takeAlong 57 = .ok (.lconst 1, 1) := by decide +kernel
theorem d_Rf_takeAlong_58 : decode b_Rf_takeAlong 58 = .ok (.iload_n 3, 1) := by decide +kernel
theorem d_Rf_takeAlong_59 : decode b_Rf_takeAlong 59 = .ok (.lshl, 1) := by decide +kernel
theorem d_Rf_takeAlong_60 : decode b_Rf_takeAlong 60 = .ok (.lor, 1) := by decide +kernel
theorem d_Rf_takeAlong_61 : decode b_Rf_takeAlong 61 = .ok (.lastore, 1) := by decide +kernel
theorem d_Rf_takeAlong_62 : decode b_Rf_takeAlong 62 = .ok (.iinc 4 1, 3) := by decide +kernel
theorem d_Rf_takeAlong_65 : decode b_Rf_takeAlong 65 = .ok (.goto (-32), 3) := by decide +kernel
theorem d_Rf_takeAlong_68 : decode b_Rf_takeAlong 68 = .ok (.aload_n 0, 1) := by decide +kernel
theorem d_Rf_takeAlong_69 : decode b_Rf_takeAlong 69 = .ok (.dup, 1) := by decide +kernel
theorem d_Rf_takeAlong_70 : decode b_Rf_takeAlong 70 = .ok (.getfield 9, 3) := by decide +kernel
theorem d_Rf_takeAlong_73 : decode b_Rf_takeAlong 73 = .ok (.iconst 1, 1) := by decide +kernel
theorem d_Rf_takeAlong_74 : decode b_Rf_takeAlong 74 = .ok (.iadd, 1) := by decide +kernel
theorem d_Rf_takeAlong_75 : decode b_Rf_takeAlong 75 = .ok (.putfield 9, 3) := by decide +kernel
theorem d_Rf_takeAlong_78 : decode b_Rf_takeAlong 78 = .ok (.return_, 1) := by decide +kernel
theorem d_Rf_rowsInUse_0 : decode b_Rf_rowsInUse 0 = .ok (.aload_n 0, 1) := by decide +kernel
theorem d_Rf_rowsInUse_1 : decode b_Rf_rowsInUse 1 = .ok (.getfield 9, 3) := by decide +kernel
theorem d_Rf_rowsInUse_4 : decode b_Rf_rowsInUse 4 = .ok (.bipush 64, 2) := by decide +kernel
theorem d_Rf_rowsInUse_6 : decode b_Rf_rowsInUse 6 = .ok (.iadd, 1) := by decide +kernel
theorem d_Rf_rowsInUse_7 : decode b_Rf_rowsInUse 7 = .ok (.iconst 1, 1) := by decide +kernel
theorem d_Rf_rowsInUse_8 : decode b_Rf_rowsInUse 8 = .ok (.isub, 1) := by decide +kernel
theorem d_Rf_rowsInUse_9 : decode b_Rf_rowsInUse 9 = .ok (.bipush 64, 2) := by decide +kernel
theorem d_Rf_rowsInUse_11 : decode b_Rf_rowsInUse 11 = .ok (.idiv, 1) := by decide +kernel
theorem d_Rf_rowsInUse_12 : decode b_Rf_rowsInUse 12 = .ok (.ireturn, 1) := by decide +kernel
theorem d_Rf_pullBack_0 : decode b_Rf_pullBack 0 = .ok (.iconst 0, 1) := by decide +kernel
theorem d_Rf_pullBack_1 : decode b_Rf_pullBack 1 = .ok (.istore_n 3, 1) := by decide +kernel
theorem d_Rf_pullBack_2 : decode b_Rf_pullBack 2 = .ok (.iload_n 3, 1) := by decide +kernel
theorem d_Rf_pullBack_3 : decode b_Rf_pullBack 3 = .ok (.aload_n 0, 1) := by decide +kernel
theorem d_Rf_pullBack_4 : decode b_Rf_pullBack 4 = .ok (.getfield 15, 3) := by decide +kernel
theorem d_Rf_pullBack_7 : decode b_Rf_pullBack 7 = .ok (.getfield 31, 3) := by decide +kernel
theorem d_Rf_pullBack_10 : decode b_Rf_pullBack 10 = .ok (.if_icmp .ge 20, 3) := by decide +kernel
theorem d_Rf_pullBack_13 : decode b_Rf_pullBack 13 = .ok (.aload_n 0, 1) := by decide +kernel
theorem d_Rf_pullBack_14 : decode b_Rf_pullBack 14 = .ok (.getfield 41, 3) := by decide +kernel
theorem d_Rf_pullBack_17 : decode b_Rf_pullBack 17 = .ok (.iload_n 3, 1) := by decide +kernel
theorem d_Rf_pullBack_18 : decode b_Rf_pullBack 18 = .ok (.aload_n 1, 1) := by decide +kernel
theorem d_Rf_pullBack_19 : decode b_Rf_pullBack 19 = .ok (.aload_n 2, 1) := by decide +kernel
theorem d_Rf_pullBack_20 : decode b_Rf_pullBack 20 = .ok (.iload_n 3, 1) := by decide +kernel
theorem d_Rf_pullBack_21 : decode b_Rf_pullBack 21 = .ok (.iaload, 1) := by decide +kernel
theorem d_Rf_pullBack_22 : decode b_Rf_pullBack 22 = .ok (.laload, 1) := by decide +kernel
theorem d_Rf_pullBack_23 : decode b_Rf_pullBack 23 = .ok (.lastore, 1) := by decide +kernel
theorem d_Rf_pullBack_24 : decode b_Rf_pullBack 24 = .ok (.iinc 3 1, 3) := by decide +kernel
theorem d_Rf_pullBack_27 : decode b_Rf_pullBack 27 = .ok (.goto (-25), 3) := by decide +kernel
theorem d_Rf_pullBack_30 : decode b_Rf_pullBack 30 = .ok (.aload_n 0, 1) := by decide +kernel
theorem d_Rf_pullBack_31 : decode b_Rf_pullBack 31 = .ok (.getfield 41, 3) := by decide +kernel
theorem d_Rf_pullBack_34 : decode b_Rf_pullBack 34 = .ok (.iconst 0, 1) := by decide +kernel
theorem d_Rf_pullBack_35 : decode b_Rf_pullBack 35 = .ok (.aload_n 1, 1) := by decide +kernel
theorem d_Rf_pullBack_36 : decode b_Rf_pullBack 36 = .ok (.iconst 0, 1) := by decide +kernel
theorem d_Rf_pullBack_37 : decode b_Rf_pullBack 37 = .ok (.aload_n 0, 1) := by decide +kernel
theorem d_Rf_pullBack_38 : decode b_Rf_pullBack 38 = .ok (.getfield 15, 3) := by decide +kernel
theorem d_Rf_pullBack_41 : decode b_Rf_pullBack 41 = .ok (.getfield 31, 3) := by decide +kernel
theorem d_Rf_pullBack_44 : decode b_Rf_pullBack 44 = .ok (.invokestatic 100, 3) := by decide +kernel
theorem d_Rf_pullBack_47 : decode b_Rf_pullBack 47 = .ok (.return_, 1) := by decide +kernel
theorem d_Rf_leaveBehind_0 : decode b_Rf_leaveBehind 0 = .ok (.lconst 0, 1) := by decide +kernel
theorem d_Rf_leaveBehind_1 : decode b_Rf_leaveBehind 1 = .ok (.lstore_n 3, 1) := by decide +kernel
theorem d_Rf_leaveBehind_2 : decode b_Rf_leaveBehind 2 = .ok (.iconst 0, 1) := by decide +kernel
theorem d_Rf_leaveBehind_3 : decode b_Rf_leaveBehind 3 = .ok (.istore 5, 2) := by decide +kernel
theorem d_Rf_leaveBehind_5 : decode b_Rf_leaveBehind 5 = .ok (.iload 5, 2) := by decide +kernel
theorem d_Rf_leaveBehind_7 : decode b_Rf_leaveBehind 7 = .ok (.aload_n 0, 1) := by decide +kernel
theorem d_Rf_leaveBehind_8 : decode b_Rf_leaveBehind 8 = .ok (.getfield 15, 3) := by decide +kernel
theorem d_Rf_leaveBehind_11 : decode b_Rf_leaveBehind 11 = .ok (.getfield 31, 3) := by decide +kernel
theorem d_Rf_leaveBehind_14 : decode b_Rf_leaveBehind 14 = .ok (.if_icmp .ge 23, 3) := by decide +kernel
theorem d_Rf_leaveBehind_17 : decode b_Rf_leaveBehind 17 = .ok (.lload_n 3, 1) := by decide +kernel
theorem d_Rf_leaveBehind_18 : decode b_Rf_leaveBehind 18 = .ok (.aload_n 1, 1) := by decide +kernel
theorem d_Rf_leaveBehind_19 : decode b_Rf_leaveBehind 19 = .ok (.iload 5, 2) := by decide +kernel
theorem d_Rf_leaveBehind_21 : decode b_Rf_leaveBehind 21 = .ok (.laload, 1) := by decide +kernel
theorem d_Rf_leaveBehind_22 : decode b_Rf_leaveBehind 22 = .ok (.aload_n 1, 1) := by decide +kernel
theorem d_Rf_leaveBehind_23 : decode b_Rf_leaveBehind 23 = .ok (.aload_n 2, 1) := by decide +kernel
theorem d_Rf_leaveBehind_24 : decode b_Rf_leaveBehind 24 = .ok (.iload 5, 2) := by decide +kernel
theorem d_Rf_leaveBehind_26 : decode b_Rf_leaveBehind 26 = .ok (.iaload, 1) := by decide +kernel
theorem d_Rf_leaveBehind_27 : decode b_Rf_leaveBehind 27 = .ok (.laload, 1) := by decide +kernel
theorem d_Rf_leaveBehind_28 : decode b_Rf_leaveBehind 28 = .ok (.lxor, 1) := by decide +kernel
theorem d_Rf_leaveBehind_29 : decode b_Rf_leaveBehind 29 = .ok (.lor, 1) := by decide +kernel
theorem d_Rf_leaveBehind_30 : decode b_Rf_leaveBehind 30 = .ok (.lstore_n 3, 1) := by decide +kernel
theorem d_Rf_leaveBehind_31 : decode b_Rf_leaveBehind 31 = .ok (.iinc 5 1, 3) := by decide +kernel
theorem d_Rf_leaveBehind_34 : decode b_Rf_leaveBehind 34 = .ok (.goto (-29), 3) := by decide +kernel
theorem d_Rf_leaveBehind_37 : decode b_Rf_leaveBehind 37 = .ok (.iconst 0, 1) := by decide +kernel
theorem d_Rf_leaveBehind_38 : decode b_Rf_leaveBehind 38 = .ok (.istore 5, 2) := by decide +kernel
theorem d_Rf_leaveBehind_40 : decode b_Rf_leaveBehind 40 = .ok (.iload 5, 2) := by decide +kernel
theorem d_Rf_leaveBehind_42 : decode b_Rf_leaveBehind 42 = .ok (.aload_n 0, 1) := by decide +kernel
theorem d_Rf_leaveBehind_43 : decode b_Rf_leaveBehind 43 = .ok (.getfield 15, 3) := by decide +kernel
theorem d_Rf_leaveBehind_46 : decode b_Rf_leaveBehind 46 = .ok (.getfield 31, 3) := by decide +kernel
theorem d_Rf_leaveBehind_49 : decode b_Rf_leaveBehind 49 = .ok (.if_icmp .ge 21, 3) := by decide +kernel
theorem d_Rf_leaveBehind_52 : decode b_Rf_leaveBehind 52 = .ok (.aload_n 1, 1) := by decide +kernel
theorem d_Rf_leaveBehind_53 : decode b_Rf_leaveBehind 53 = .ok (.iload 5, 2) := by decide +kernel
theorem d_Rf_leaveBehind_55 : decode b_Rf_leaveBehind 55 = .ok (.dup2, 1) := by decide +kernel
theorem d_Rf_leaveBehind_56 : decode b_Rf_leaveBehind 56 = .ok (.laload, 1) := by decide +kernel
theorem d_Rf_leaveBehind_57 : decode b_Rf_leaveBehind 57 = .ok (.lload_n 3, 1) := by decide +kernel
theorem d_Rf_leaveBehind_58 : decode b_Rf_leaveBehind 58 = .ok (.ldc2_w 106, 3) := by decide +kernel
theorem d_Rf_leaveBehind_61 : decode b_Rf_leaveBehind 61 = .ok (.lxor, 1) := by decide +kernel
theorem d_Rf_leaveBehind_62 : decode b_Rf_leaveBehind 62 = .ok (.land, 1) := by decide +kernel
theorem d_Rf_leaveBehind_63 : decode b_Rf_leaveBehind 63 = .ok (.lastore, 1) := by decide +kernel
theorem d_Rf_leaveBehind_64 : decode b_Rf_leaveBehind 64 = .ok (.iinc 5 1, 3) := by decide +kernel
theorem d_Rf_leaveBehind_67 : decode b_Rf_leaveBehind 67 = .ok (.goto (-27), 3) := by decide +kernel
theorem d_Rf_leaveBehind_70 : decode b_Rf_leaveBehind 70 = .ok (.return_, 1) := by decide +kernel
theorem d_Rf_adoptTaken_0 : decode b_Rf_adoptTaken 0 = .ok (.iconst 0, 1) := by decide +kernel
theorem d_Rf_adoptTaken_1 : decode b_Rf_adoptTaken 1 = .ok (.istore_n 1, 1) := by decide +kernel
theorem d_Rf_adoptTaken_2 : decode b_Rf_adoptTaken 2 = .ok (.iload_n 1, 1) := by decide +kernel
theorem d_Rf_adoptTaken_3 : decode b_Rf_adoptTaken 3 = .ok (.aload_n 0, 1) := by decide +kernel
theorem d_Rf_adoptTaken_4 : decode b_Rf_adoptTaken 4 = .ok (.invokevirtual 83, 3) := by decide +kernel
theorem d_Rf_adoptTaken_7 : decode b_Rf_adoptTaken 7 = .ok (.if_icmp .ge 97, 3) := by decide +kernel
theorem d_Rf_adoptTaken_10 : decode b_Rf_adoptTaken 10 = .ok (.aload_n 0, 1) := by decide +kernel
theorem d_Rf_adoptTaken_11 : decode b_Rf_adoptTaken 11 = .ok (.getfield 23, 3) := by decide +kernel
theorem d_Rf_adoptTaken_14 : decode b_Rf_adoptTaken 14 = .ok (.aload_n 0, 1) := by decide +kernel
theorem d_Rf_adoptTaken_15 : decode b_Rf_adoptTaken 15 = .ok (.getfield 38, 3) := by decide +kernel
theorem d_Rf_adoptTaken_18 : decode b_Rf_adoptTaken 18 = .ok (.iload_n 1, 1) := by decide +kernel
theorem d_Rf_adoptTaken_19 : decode b_Rf_adoptTaken 19 = .ok (.aaload, 1) := by decide +kernel
theorem d_Rf_adoptTaken_20 : decode b_Rf_adoptTaken 20 = .ok (.invokevirtual 108, 3) := by decide +kernel
theorem d_Rf_adoptTaken_23 : decode b_Rf_adoptTaken 23 = .ok (.lstore_n 2, 1) := by decide +kernel
theorem d_Rf_adoptTaken_24 : decode b_Rf_adoptTaken 24 = .ok (.iconst 0, 1) := by decide +kernel
theorem d_Rf_adoptTaken_25 : decode b_Rf_adoptTaken 25 = .ok (.istore 4, 2) := by decide +kernel
theorem d_Rf_adoptTaken_27 : decode b_Rf_adoptTaken 27 = .ok (.iload 4, 2) := by decide +kernel
theorem d_Rf_adoptTaken_29 : decode b_Rf_adoptTaken 29 = .ok (.bipush 64, 2) := by decide +kernel
theorem d_Rf_adoptTaken_31 : decode b_Rf_adoptTaken 31 = .ok (.if_icmp .ge 67, 3) := by decide +kernel
theorem d_Rf_adoptTaken_34 : decode b_Rf_adoptTaken 34 = .ok (.lload_n 2, 1) := by decide +kernel
theorem d_Rf_adoptTaken_35 : decode b_Rf_adoptTaken 35 = .ok (.lconst 0, 1) := by decide +kernel
theorem d_Rf_adoptTaken_36 : decode b_Rf_adoptTaken 36 = .ok (.lcmp, 1) := by decide +kernel
theorem d_Rf_adoptTaken_37 : decode b_Rf_adoptTaken 37 = .ok (.ifCond .eq 61, 3) := by decide +kernel
theorem d_Rf_adoptTaken_40 : decode b_Rf_adoptTaken 40 = .ok (.lload_n 2, 1) := by decide +kernel
theorem d_Rf_adoptTaken_41 : decode b_Rf_adoptTaken 41 = .ok (.iload 4, 2) := by decide +kernel
theorem d_Rf_adoptTaken_43 : decode b_Rf_adoptTaken 43 = .ok (.lushr, 1) := by decide +kernel
theorem d_Rf_adoptTaken_44 : decode b_Rf_adoptTaken 44 = .ok (.lconst 1, 1) := by decide +kernel
theorem d_Rf_adoptTaken_45 : decode b_Rf_adoptTaken 45 = .ok (.land, 1) := by decide +kernel
theorem d_Rf_adoptTaken_46 : decode b_Rf_adoptTaken 46 = .ok (.lconst 0, 1) := by decide +kernel
theorem d_Rf_adoptTaken_47 : decode b_Rf_adoptTaken 47 = .ok (.lcmp, 1) := by decide +kernel
theorem d_Rf_adoptTaken_48 : decode b_Rf_adoptTaken 48 = .ok (.ifCond .ne 6, 3) := by decide +kernel
theorem d_Rf_adoptTaken_51 : decode b_Rf_adoptTaken 51 = .ok (.goto 41, 3) := by decide +kernel
theorem d_Rf_adoptTaken_54 : decode b_Rf_adoptTaken 54 = .ok (.aload_n 0, 1) := by decide +kernel
theorem d_Rf_adoptTaken_55 : decode b_Rf_adoptTaken 55 = .ok (.getfield 23, 3) := by decide +kernel
theorem d_Rf_adoptTaken_58 : decode b_Rf_adoptTaken 58 = .ok (.invokevirtual 112, 3) := by decide +kernel
theorem d_Rf_adoptTaken_61 : decode b_Rf_adoptTaken 61 = .ok (.ifCond .eq 5, 3) := by decide +kernel
theorem d_Rf_adoptTaken_64 : decode b_Rf_adoptTaken 64 = .ok (.iconst 0, 1) := by decide +kernel
theorem d_Rf_adoptTaken_65 : decode b_Rf_adoptTaken 65 = .ok (.ireturn, 1) := by decide +kernel
theorem d_Rf_adoptTaken_66 : decode b_Rf_adoptTaken 66 = .ok (.aload_n 0, 1) := by decide +kernel
theorem d_Rf_adoptTaken_67 : decode b_Rf_adoptTaken 67 = .ok (.aload_n 0, 1) := by decide +kernel
theorem d_Rf_adoptTaken_68 : decode b_Rf_adoptTaken 68 = .ok (.getfield 38, 3) := by decide +kernel
theorem d_Rf_adoptTaken_71 : decode b_Rf_adoptTaken 71 = .ok (.iload_n 1, 1) := by decide +kernel
theorem d_Rf_adoptTaken_72 : decode b_Rf_adoptTaken 72 = .ok (.aaload, 1) := by decide +kernel
theorem d_Rf_adoptTaken_73 : decode b_Rf_adoptTaken 73 = .ok (.iload 4, 2) := by decide +kernel
theorem d_Rf_adoptTaken_75 : decode b_Rf_adoptTaken 75 = .ok (.invokevirtual 115, 3) := by decide +kernel
theorem d_Rf_adoptTaken_78 : decode b_Rf_adoptTaken 78 = .ok (.aload_n 0, 1) := by decide +kernel
theorem d_Rf_adoptTaken_79 : decode b_Rf_adoptTaken 79 = .ok (.getfield 23, 3) := by decide +kernel
theorem d_Rf_adoptTaken_82 : decode b_Rf_adoptTaken 82 = .ok (.aload_n 0, 1) := by decide +kernel
theorem d_Rf_adoptTaken_83 : decode b_Rf_adoptTaken 83 = .ok (.getfield 38, 3) := by decide +kernel
theorem d_Rf_adoptTaken_86 : decode b_Rf_adoptTaken 86 = .ok (.iload_n 1, 1) := by decide +kernel
theorem d_Rf_adoptTaken_87 : decode b_Rf_adoptTaken 87 = .ok (.aaload, 1) := by decide +kernel
theorem d_Rf_adoptTaken_88 : decode b_Rf_adoptTaken 88 = .ok (.invokevirtual 108, 3) := by decide +kernel
theorem d_Rf_adoptTaken_91 : decode b_Rf_adoptTaken 91 = .ok (.lstore_n 2, 1) := by decide +kernel
theorem d_Rf_adoptTaken_92 : decode b_Rf_adoptTaken 92 = .ok (.iinc 4 1, 3) := by decide +kernel
theorem d_Rf_adoptTaken_95 : decode b_Rf_adoptTaken 95 = .ok (.goto (-68), 3) := by decide +kernel
theorem d_Rf_adoptTaken_98 : decode b_Rf_adoptTaken 98 = .ok (.iinc 1 1, 3) := by decide +kernel
theorem d_Rf_adoptTaken_101 : decode b_Rf_adoptTaken 101 = .ok (.goto (-99), 3) := by decide +kernel
theorem d_Rf_adoptTaken_104 : decode b_Rf_adoptTaken 104 = .ok (.iconst 1, 1) := by decide +kernel
theorem d_Rf_adoptTaken_105 : decode b_Rf_adoptTaken 105 = .ok (.ireturn, 1) := by decide +kernel
theorem d_Gr_splitting_0 : decode b_Gr_splitting 0 = .ok (.lconst 0, 1) := by decide +kernel
theorem d_Gr_splitting_1 : decode b_Gr_splitting 1 = .ok (.lstore_n 2, 1) := by decide +kernel
theorem d_Gr_splitting_2 : decode b_Gr_splitting 2 = .ok (.iconst 0, 1) := by decide +kernel
theorem d_Gr_splitting_3 : decode b_Gr_splitting 3 = .ok (.istore 4, 2) := by decide +kernel
theorem d_Gr_splitting_5 : decode b_Gr_splitting 5 = .ok (.iload 4, 2) := by decide +kernel
theorem d_Gr_splitting_7 : decode b_Gr_splitting 7 = .ok (.aload_n 0, 1) := by decide +kernel
theorem d_Gr_splitting_8 : decode b_Gr_splitting 8 = .ok (.getfield 22, 3) := by decide +kernel
theorem d_Gr_splitting_11 : decode b_Gr_splitting 11 = .ok (.getfield 26, 3) := by decide +kernel
theorem d_Gr_splitting_14 : decode b_Gr_splitting 14 = .ok (.if_icmp .ge 36, 3) := by decide +kernel
theorem d_Gr_splitting_17 : decode b_Gr_splitting 17 = .ok (.lload_n 2, 1) := by decide +kernel
theorem d_Gr_splitting_18 : decode b_Gr_splitting 18 = .ok (.aload_n 1, 1) := by decide +kernel
theorem d_Gr_splitting_19 : decode b_Gr_splitting 19 = .ok (.iload 4, 2) := by decide +kernel
theorem d_Gr_splitting_21 : decode b_Gr_splitting 21 = .ok (.laload, 1) := by decide +kernel
theorem d_Gr_splitting_22 : decode b_Gr_splitting 22 = .ok (.aload_n 1, 1) := by decide +kernel
theorem d_Gr_splitting_23 : decode b_Gr_splitting 23 = .ok (.aload_n 0, 1) := by decide +kernel
theorem d_Gr_splitting_24 : decode b_Gr_splitting 24 = .ok (.getfield 37, 3) := by decide +kernel
theorem d_Gr_splitting_27 : decode b_Gr_splitting 27 = .ok (.aload_n 0, 1) := by decide +kernel
theorem d_Gr_splitting_28 : decode b_Gr_splitting 28 = .ok (.getfield 40, 3) := by decide +kernel
theorem d_Gr_splitting_31 : decode b_Gr_splitting 31 = .ok (.aload_n 0, 1) := by decide +kernel
theorem d_Gr_splitting_32 : decode b_Gr_splitting 32 = .ok (.getfield 34, 3) := by decide +kernel
theorem d_Gr_splitting_35 : decode b_Gr_splitting 35 = .ok (.iload 4, 2) := by decide +kernel
theorem d_Gr_splitting_37 : decode b_Gr_splitting 37 = .ok (.iaload, 1) := by decide +kernel
theorem d_Gr_splitting_38 : decode b_Gr_splitting 38 = .ok (.iaload, 1) := by decide +kernel
theorem d_Gr_splitting_39 : decode b_Gr_splitting 39 = .ok (.iaload, 1) := by decide +kernel
theorem d_Gr_splitting_40 : decode b_Gr_splitting 40 = .ok (.laload, 1) := by decide +kernel
theorem d_Gr_splitting_41 : decode b_Gr_splitting 41 = .ok (.lxor, 1) := by decide +kernel
theorem d_Gr_splitting_42 : decode b_Gr_splitting 42 = .ok (.lor, 1) := by decide +kernel
theorem d_Gr_splitting_43 : decode b_Gr_splitting 43 = .ok (.lstore_n 2, 1) := by decide +kernel
theorem d_Gr_splitting_44 : decode b_Gr_splitting 44 = .ok (.iinc 4 1, 3) := by decide +kernel
theorem d_Gr_splitting_47 : decode b_Gr_splitting 47 = .ok (.goto (-42), 3) := by decide +kernel
theorem d_Gr_splitting_50 : decode b_Gr_splitting 50 = .ok (.lload_n 2, 1) := by decide +kernel
theorem d_Gr_splitting_51 : decode b_Gr_splitting 51 = .ok (.lreturn, 1) := by decide +kernel
theorem d_Rf_adopt_0 : decode b_Rf_adopt 0 = .ok (.iconst 0, 1) := by decide +kernel
theorem d_Rf_adopt_1 : decode b_Rf_adopt 1 = .ok (.istore_n 3, 1) := by decide +kernel
theorem d_Rf_adopt_2 : decode b_Rf_adopt 2 = .ok (.iload_n 3, 1) := by decide +kernel
theorem d_Rf_adopt_3 : decode b_Rf_adopt 3 = .ok (.aload_n 0, 1) := by decide +kernel
theorem d_Rf_adopt_4 : decode b_Rf_adopt 4 = .ok (.getfield 15, 3) := by decide +kernel
theorem d_Rf_adopt_7 : decode b_Rf_adopt 7 = .ok (.getfield 31, 3) := by decide +kernel
theorem d_Rf_adopt_10 : decode b_Rf_adopt 10 = .ok (.if_icmp .ge 29, 3) := by decide +kernel
theorem d_Rf_adopt_13 : decode b_Rf_adopt 13 = .ok (.aload_n 1, 1) := by decide +kernel
theorem d_Rf_adopt_14 : decode b_Rf_adopt 14 = .ok (.iload_n 3, 1) := by decide +kernel
theorem d_Rf_adopt_15 : decode b_Rf_adopt 15 = .ok (.laload, 1) := by decide +kernel
theorem d_Rf_adopt_16 : decode b_Rf_adopt 16 = .ok (.iload_n 2, 1) := by decide +kernel
theorem d_Rf_adopt_17 : decode b_Rf_adopt 17 = .ok (.lushr, 1) := by decide +kernel
theorem d_Rf_adopt_18 : decode b_Rf_adopt 18 = .ok (.lconst 1, 1) := by decide +kernel
theorem d_Rf_adopt_19 : decode b_Rf_adopt 19 = .ok (.land, 1) := by decide +kernel
theorem d_Rf_adopt_20 : decode b_Rf_adopt 20 = .ok (.lconst 0, 1) := by decide +kernel
theorem d_Rf_adopt_21 : decode b_Rf_adopt 21 = .ok (.lcmp, 1) := by decide +kernel
theorem d_Rf_adopt_22 : decode b_Rf_adopt 22 = .ok (.ifCond .eq 11, 3) := by decide +kernel
theorem d_Rf_adopt_25 : decode b_Rf_adopt 25 = .ok (.aload_n 0, 1) := by decide +kernel
theorem d_Rf_adopt_26 : decode b_Rf_adopt 26 = .ok (.getfield 23, 3) := by decide +kernel
theorem d_Rf_adopt_29 : decode b_Rf_adopt 29 = .ok (.iload_n 3, 1) := by decide +kernel
theorem d_Rf_adopt_30 : decode b_Rf_adopt 30 = .ok (.invokevirtual 119, 3) := by decide +kernel
theorem d_Rf_adopt_33 : decode b_Rf_adopt 33 = .ok (.iinc 3 1, 3) := by decide +kernel
theorem d_Rf_adopt_36 : decode b_Rf_adopt 36 = .ok (.goto (-34), 3) := by decide +kernel
theorem d_Rf_adopt_39 : decode b_Rf_adopt 39 = .ok (.aload_n 0, 1) := by decide +kernel
theorem d_Rf_adopt_40 : decode b_Rf_adopt 40 = .ok (.getfield 23, 3) := by decide +kernel
theorem d_Rf_adopt_43 : decode b_Rf_adopt 43 = .ok (.invokevirtual 122, 3) := by decide +kernel
theorem d_Rf_adopt_46 : decode b_Rf_adopt 46 = .ok (.return_, 1) := by decide +kernel
theorem d_Rf_adoptVariableBit_0 : decode b_Rf_adoptVariableBit 0 = .ok (.iconst 0, 1) := by decide +kernel
theorem d_Rf_adoptVariableBit_1 : decode b_Rf_adoptVariableBit 1 = .ok (.istore_n 1, 1) := by decide +kernel
theorem d_Rf_adoptVariableBit_2 : decode b_Rf_adoptVariableBit 2 = .ok (.iload_n 1, 1) := by decide +kernel
theorem d_Rf_adoptVariableBit_3 : decode b_Rf_adoptVariableBit 3 = .ok (.aload_n 0, 1) := by decide +kernel
theorem d_Rf_adoptVariableBit_4 : decode b_Rf_adoptVariableBit 4 = .ok (.getfield 15, 3) := by decide +kernel
theorem d_Rf_adoptVariableBit_7 : decode b_Rf_adoptVariableBit 7 = .ok (.getfield 31, 3) := by decide +kernel
theorem d_Rf_adoptVariableBit_10 : decode b_Rf_adoptVariableBit 10 = .ok (.if_icmp .ge 17, 3) := by decide +kernel
theorem d_Rf_adoptVariableBit_13 : decode b_Rf_adoptVariableBit 13 = .ok (.aload_n 0, 1) := by decide +kernel
theorem d_Rf_adoptVariableBit_14 : decode b_Rf_adoptVariableBit 14 = .ok (.getfield 41, 3) := by decide +kernel
theorem d_Rf_adoptVariableBit_17 : decode b_Rf_adoptVariableBit 17 = .ok (.iload_n 1, 1) := by decide +kernel
theorem d_Rf_adoptVariableBit_18 : decode b_Rf_adoptVariableBit 18 = .ok (.iload_n 1, 1) := by decide +kernel
theorem d_Rf_adoptVariableBit_19 : decode b_Rf_adoptVariableBit 19 = .ok (.i2l, 1) := by decide +kernel
theorem d_Rf_adoptVariableBit_20 : decode b_Rf_adoptVariableBit 20 = .ok (.lastore, 1) := by decide +kernel
theorem d_Rf_adoptVariableBit_21 : decode b_Rf_adoptVariableBit 21 = .ok (.iinc 1 1, 3) := by decide +kernel
theorem d_Rf_adoptVariableBit_24 : decode b_Rf_adoptVariableBit 24 = .ok (.goto (-22), 3) := by decide +kernel
theorem d_Rf_adoptVariableBit_27 : decode b_Rf_adoptVariableBit 27 = .ok (.aload_n 0, 1) := by decide +kernel
theorem d_Rf_adoptVariableBit_28 : decode b_Rf_adoptVariableBit 28 = .ok (.getfield 23, 3) := by decide +kernel
theorem d_Rf_adoptVariableBit_31 : decode b_Rf_adoptVariableBit 31 = .ok (.aload_n 0, 1) := by decide +kernel
theorem d_Rf_adoptVariableBit_32 : decode b_Rf_adoptVariableBit 32 = .ok (.getfield 41, 3) := by decide +kernel
theorem d_Rf_adoptVariableBit_35 : decode b_Rf_adoptVariableBit 35 = .ok (.invokevirtual 108, 3) := by decide +kernel
theorem d_Rf_adoptVariableBit_38 : decode b_Rf_adoptVariableBit 38 = .ok (.lstore_n 1, 1) := by decide +kernel
theorem d_Rf_adoptVariableBit_39 : decode b_Rf_adoptVariableBit 39 = .ok (.iconst 0, 1) := by decide +kernel
theorem d_Rf_adoptVariableBit_40 : decode b_Rf_adoptVariableBit 40 = .ok (.istore_n 3, 1) := by decide +kernel
theorem d_Rf_adoptVariableBit_41 : decode b_Rf_adoptVariableBit 41 = .ok (.iload_n 3, 1) := by decide +kernel
theorem d_Rf_adoptVariableBit_42 : decode b_Rf_adoptVariableBit 42 = .ok (.iconst 3, 1) := by decide +kernel
theorem d_Rf_adoptVariableBit_43 : decode b_Rf_adoptVariableBit 43 = .ok (.aload_n 0, 1) := by decide +kernel
theorem d_Rf_adoptVariableBit_44 : decode b_Rf_adoptVariableBit 44 = .ok (.getfield 15, 3) := by decide +kernel
theorem d_Rf_adoptVariableBit_47 : decode b_Rf_adoptVariableBit 47 = .ok (.getfield 125, 3) := by decide +kernel
theorem d_Rf_adoptVariableBit_50 : decode b_Rf_adoptVariableBit 50 = .ok (.imul, 1) := by decide +kernel
theorem d_Rf_adoptVariableBit_51 : decode b_Rf_adoptVariableBit 51 = .ok (.if_icmp .ge 42, 3) := by decide +kernel
theorem d_Rf_adoptVariableBit_54 : decode b_Rf_adoptVariableBit 54 = .ok (.lload_n 1, 1) := by decide +kernel
theorem d_Rf_adoptVariableBit_55 : decode b_Rf_adoptVariableBit 55 = .ok (.iload_n 3, 1) := by decide +kernel
theorem d_Rf_adoptVariableBit_56 : decode b_Rf_adoptVariableBit 56 = .ok (.lushr, 1) := by decide +kernel
theorem d_Rf_adoptVariableBit_57 : decode b_Rf_adoptVariableBit 57 = .ok (.lconst 1, 1) := by decide +kernel
theorem d_Rf_adoptVariableBit_58 : decode b_Rf_adoptVariableBit 58 = .ok (.land, 1) := by decide +kernel
theorem d_Rf_adoptVariableBit_59 : decode b_Rf_adoptVariableBit 59 = .ok (.lconst 0, 1) := by decide +kernel
theorem d_Rf_adoptVariableBit_60 : decode b_Rf_adoptVariableBit 60 = .ok (.lcmp, 1) := by decide +kernel
theorem d_Rf_adoptVariableBit_61 : decode b_Rf_adoptVariableBit 61 = .ok (.ifCond .eq 26, 3) := by decide +kernel
theorem d_Rf_adoptVariableBit_64 : decode b_Rf_adoptVariableBit 64 = .ok (.aload_n 0, 1) := by decide +kernel
theorem d_Rf_adoptVariableBit_65 : decode b_Rf_adoptVariableBit 65 = .ok (.getfield 23, 3) := by decide +kernel
theorem d_Rf_adoptVariableBit_68 : decode b_Rf_adoptVariableBit 68 = .ok (.invokevirtual 112, 3) := by decide +kernel
theorem d_Rf_adoptVariableBit_71 : decode b_Rf_adoptVariableBit 71 = .ok (.ifCond .eq 5, 3) := by decide +kernel
theorem d_Rf_adoptVariableBit_74 : decode b_Rf_adoptVariableBit 74 = .ok (.iconst 0, 1) := by decide +kernel
theorem d_Rf_adoptVariableBit_75 : decode b_Rf_adoptVariableBit 75 = .ok (.ireturn, 1) := by decide +kernel
theorem d_Rf_adoptVariableBit_76 : decode b_Rf_adoptVariableBit 76 = .ok (.aload_n 0, 1) := by decide +kernel
theorem d_Rf_adoptVariableBit_77 : decode b_Rf_adoptVariableBit 77 = .ok (.aload_n 0, 1) := by decide +kernel
theorem d_Rf_adoptVariableBit_78 : decode b_Rf_adoptVariableBit 78 = .ok (.getfield 41, 3) := by decide +kernel
theorem d_Rf_adoptVariableBit_81 : decode b_Rf_adoptVariableBit 81 = .ok (.iload_n 3, 1) := by decide +kernel
theorem d_Rf_adoptVariableBit_82 : decode b_Rf_adoptVariableBit 82 = .ok (.invokevirtual 115, 3) := by decide +kernel
theorem d_Rf_adoptVariableBit_85 : decode b_Rf_adoptVariableBit 85 = .ok (.iconst 1, 1) := by decide +kernel
theorem d_Rf_adoptVariableBit_86 : decode b_Rf_adoptVariableBit 86 = .ok (.ireturn, 1) := by decide +kernel
theorem d_Rf_adoptVariableBit_87 : decode b_Rf_adoptVariableBit 87 = .ok (.iinc 3 1, 3) := by decide +kernel
theorem d_Rf_adoptVariableBit_90 : decode b_Rf_adoptVariableBit 90 = .ok (.goto (-49), 3) := by decide +kernel
theorem d_Rf_adoptVariableBit_93 : decode b_Rf_adoptVariableBit 93 = .ok (.iconst 1, 1) := by decide +kernel
theorem d_Rf_adoptVariableBit_94 : decode b_Rf_adoptVariableBit 94 = .ok (.ireturn, 1) := by decide +kernel
theorem d_Lw_holds_0 : decode b_Lw_holds 0 = .ok (.aload_n 3, 1) := by decide +kernel
theorem d_Lw_holds_1 : decode b_Lw_holds 1 = .ok (.iconst 0, 1) := by decide +kernel
theorem d_Lw_holds_2 : decode b_Lw_holds 2 = .ok (.aload_n 0, 1) := by decide +kernel
theorem d_Lw_holds_3 : decode b_Lw_holds 3 = .ok (.iload_n 1, 1) := by decide +kernel
theorem d_Lw_holds_4 : decode b_Lw_holds 4 = .ok (.iload_n 2, 1) := by decide +kernel
theorem d_Lw_holds_5 : decode b_Lw_holds 5 = .ok (.invokevirtual 24, 3) := by decide +kernel
theorem d_Lw_holds_8 : decode b_Lw_holds 8 = .ok (.ifCond .eq 7, 3) := by decide +kernel
theorem d_Lw_holds_11 : decode b_Lw_holds 11 = .ok (.lconst 1, 1) := by decide +kernel
theorem d_Lw_holds_12 : decode b_Lw_holds 12 = .ok (.goto 4, 3) := by decide +kernel
theorem d_Lw_holds_15 : decode b_Lw_holds 15 = .ok (.lconst 0, 1) := by decide +kernel
theorem d_Lw_holds_16 : decode b_Lw_holds 16 = .ok (.lastore, 1) := by decide +kernel
theorem d_Lw_holds_17 : decode b_Lw_holds 17 = .ok (.goto 7, 3) := by decide +kernel
theorem d_Lw_holds_20 : decode b_Lw_holds 20 = .ok (.astore 4, 2) := by decide +kernel
theorem d_Lw_holds_22 : decode b_Lw_holds 22 = .ok (.iconst 1, 1) := by decide +kernel
theorem d_Lw_holds_23 : decode b_Lw_holds 23 = .ok (.ireturn, 1) := by decide +kernel
theorem d_Lw_holds_24 : decode b_Lw_holds 24 = .ok (.iconst 0, 1) := by decide +kernel
theorem d_Lw_holds_25 : decode b_Lw_holds 25 = .ok (.ireturn, 1) := by decide +kernel
theorem d_PP_holds_0 : decode b_PP_holds 0 = .ok (.iload_n 1, 1) := by decide +kernel
theorem d_PP_holds_1 : decode b_PP_holds 1 = .ok (.ifCond .lt 25, 3) := by decide +kernel
theorem d_PP_holds_4 : decode b_PP_holds 4 = .ok (.iload_n 1, 1) := by decide +kernel
theorem d_PP_holds_5 : decode b_PP_holds 5 = .ok (.aload_n 0, 1) := by decide +kernel
theorem d_PP_holds_6 : decode b_PP_holds 6 = .ok (.getfield 58, 3) := by decide +kernel
theorem d_PP_holds_9 : decode b_PP_holds 9 = .ok (.getfield 131, 3) := by decide +kernel
theorem d_PP_holds_12 : decode b_PP_holds 12 = .ok (.if_icmp .ge 14, 3) := by decide +kernel
theorem d_PP_holds_15 : decode b_PP_holds 15 = .ok (.aload_n 0, 1) := by decide +kernel
theorem d_PP_holds_16 : decode b_PP_holds 16 = .ok (.getfield 31, 3) := by decide +kernel
theorem d_PP_holds_19 : decode b_PP_holds 19 = .ok (.iload_n 2, 1) := by decide +kernel
theorem d_PP_holds_20 : decode b_PP_holds 20 = .ok (.invokevirtual 156, 3) := by decide +kernel
theorem d_PP_holds_23 : decode b_PP_holds 23 = .ok (.ifCond .ne 13, 3) := by decide +kernel
theorem d_PP_holds_26 : decode b_PP_holds 26 = .ok (.new 159, 3) := by decide +kernel
theorem d_PP_holds_29 : decode b_PP_holds 29 = .ok (.dup, 1) := by decide +kernel
theorem d_PP_holds_30 : decode b_PP_holds 30 = .ok (.ldc 161, 2) := by decide +kernel
theorem d_PP_holds_32 : decode b_PP_holds 32 = .ok (.invokespecial 163, 3) := by decide +kernel
theorem d_PP_holds_35 : decode b_PP_holds 35 = .ok (.athrow, 1) := by decide +kernel
theorem d_PP_holds_36 : decode b_PP_holds 36 = .ok (.aload_n 0, 1) := by decide +kernel
theorem d_PP_holds_37 : decode b_PP_holds 37 = .ok (.getfield 58, 3) := by decide +kernel
theorem d_PP_holds_40 : decode b_PP_holds 40 = .ok (.getfield 164, 3) := by decide +kernel
theorem d_PP_holds_43 : decode b_PP_holds 43 = .ok (.iload_n 2, 1) := by decide +kernel
theorem d_PP_holds_44 : decode b_PP_holds 44 = .ok (.iaload, 1) := by decide +kernel
theorem d_PP_holds_45 : decode b_PP_holds 45 = .ok (.iload_n 1, 1) := by decide +kernel
theorem d_PP_holds_46 : decode b_PP_holds 46 = .ok (.ishr, 1) := by decide +kernel
theorem d_PP_holds_47 : decode b_PP_holds 47 = .ok (.iconst 1, 1) := by decide +kernel
theorem d_PP_holds_48 : decode b_PP_holds 48 = .ok (.iand, 1) := by decide +kernel
theorem d_PP_holds_49 : decode b_PP_holds 49 = .ok (.ifCond .eq 7, 3) := by decide +kernel
theorem d_PP_holds_52 : decode b_PP_holds 52 = .ok (.iconst 1, 1) := by decide +kernel
theorem d_PP_holds_53 : decode b_PP_holds 53 = .ok (.goto 4, 3) := by decide +kernel
theorem d_PP_holds_56 : decode b_PP_holds 56 = .ok (.iconst 0, 1) := by decide +kernel
theorem d_PP_holds_57 : decode b_PP_holds 57 = .ok (.ireturn, 1) := by decide +kernel
theorem d_Sp_contains_0 : decode b_Sp_contains 0 = .ok (.iload_n 1, 1) := by decide +kernel
theorem d_Sp_contains_1 : decode b_Sp_contains 1 = .ok (.ifCond .lt 15, 3) := by decide +kernel
theorem d_Sp_contains_4 : decode b_Sp_contains 4 = .ok (.iload_n 1, 1) := by decide +kernel
theorem d_Sp_contains_5 : decode b_Sp_contains 5 = .ok (.aload_n 0, 1) := by decide +kernel
theorem d_Sp_contains_6 : decode b_Sp_contains 6 = .ok (.getfield 18, 3) := by decide +kernel
theorem d_Sp_contains_9 : decode b_Sp_contains 9 = .ok (.if_icmp .ge 7, 3) := by decide +kernel
theorem d_Sp_contains_12 : decode b_Sp_contains 12 = .ok (.iconst 1, 1) := by decide +kernel
theorem d_Sp_contains_13 : decode b_Sp_contains 13 = .ok (.goto 4, 3) := by decide +kernel
theorem d_Sp_contains_16 : decode b_Sp_contains 16 = .ok (.iconst 0, 1) := by decide +kernel
theorem d_Sp_contains_17 : decode b_Sp_contains 17 = .ok (.ireturn, 1) := by decide +kernel
theorem d_Lw_signature_0 : decode b_Lw_signature 0 = .ok (.aload_n 2, 1) := by decide +kernel
theorem d_Lw_signature_1 : decode b_Lw_signature 1 = .ok (.iconst 0, 1) := by decide +kernel
theorem d_Lw_signature_2 : decode b_Lw_signature 2 = .ok (.aload_n 0, 1) := by decide +kernel
theorem d_Lw_signature_3 : decode b_Lw_signature 3 = .ok (.iload_n 1, 1) := by decide +kernel
theorem d_Lw_signature_4 : decode b_Lw_signature 4 = .ok (.invokevirtual 30, 3) := by decide +kernel
theorem d_Lw_signature_7 : decode b_Lw_signature 7 = .ok (.i2l, 1) := by decide +kernel
theorem d_Lw_signature_8 : decode b_Lw_signature 8 = .ok (.lastore, 1) := by decide +kernel
theorem d_Lw_signature_9 : decode b_Lw_signature 9 = .ok (.goto 6, 3) := by decide +kernel
theorem d_Lw_signature_12 : decode b_Lw_signature 12 = .ok (.astore_n 3, 1) := by decide +kernel
theorem d_Lw_signature_13 : decode b_Lw_signature 13 = .ok (.iconst 1, 1) := by decide +kernel
theorem d_Lw_signature_14 : decode b_Lw_signature 14 = .ok (.ireturn, 1) := by decide +kernel
theorem d_Lw_signature_15 : decode b_Lw_signature 15 = .ok (.iconst 0, 1) := by decide +kernel
theorem d_Lw_signature_16 : decode b_Lw_signature 16 = .ok (.ireturn, 1) := by decide +kernel
theorem d_PP_signature_0 : decode b_PP_signature 0 = .ok (.aload_n 0, 1) := by decide +kernel
theorem d_PP_signature_1 : decode b_PP_signature 1 = .ok (.getfield 31, 3) := by decide +kernel
theorem d_PP_signature_4 : decode b_PP_signature 4 = .ok (.iload_n 1, 1) := by decide +kernel
theorem d_PP_signature_5 : decode b_PP_signature 5 = .ok (.invokevirtual 156, 3) := by decide +kernel
theorem d_PP_signature_8 : decode b_PP_signature 8 = .ok (.ifCond .ne 13, 3) := by decide +kernel
theorem d_PP_signature_11 : decode b_PP_signature 11 = .ok (.new 159, 3) := by decide +kernel
theorem d_PP_signature_14 : decode b_PP_signature 14 = .ok (.dup, 1) := by decide +kernel
theorem d_PP_signature_15 : decode b_PP_signature 15 = .ok (.ldc 168, 2) := by decide +kernel
theorem d_PP_signature_17 : decode b_PP_signature 17 = .ok (.invokespecial 163, 3) := by decide +kernel
theorem d_PP_signature_20 : decode b_PP_signature 20 = .ok (.athrow, 1) := by decide +kernel
theorem d_PP_signature_21 : decode b_PP_signature 21 = .ok (.aload_n 0, 1) := by decide +kernel
theorem d_PP_signature_22 : decode b_PP_signature 22 = .ok (.getfield 58, 3) := by decide +kernel
theorem d_PP_signature_25 : decode b_PP_signature 25 = .ok (.getfield 164, 3) := by decide +kernel
theorem d_PP_signature_28 : decode b_PP_signature 28 = .ok (.iload_n 1, 1) := by decide +kernel
theorem d_PP_signature_29 : decode b_PP_signature 29 = .ok (.iaload, 1) := by decide +kernel
theorem d_PP_signature_30 : decode b_PP_signature 30 = .ok (.i2s, 1) := by decide +kernel
theorem d_PP_signature_31 : decode b_PP_signature 31 = .ok (.ireturn, 1) := by decide +kernel
theorem d_Lw_follow_0 : decode b_Lw_follow 0 = .ok (.aload 4, 2) := by decide +kernel
theorem d_Lw_follow_2 : decode b_Lw_follow 2 = .ok (.iconst 0, 1) := by decide +kernel
theorem d_Lw_follow_3 : decode b_Lw_follow 3 = .ok (.aload_n 0, 1) := by decide +kernel
theorem d_Lw_follow_4 : decode b_Lw_follow 4 = .ok (.iload_n 1, 1) := by decide +kernel
theorem d_Lw_follow_5 : decode b_Lw_follow 5 = .ok (.iload_n 2, 1) := by decide +kernel
theorem d_Lw_follow_6 : decode b_Lw_follow 6 = .ok (.iload_n 3, 1) := by decide +kernel
theorem d_Lw_follow_7 : decode b_Lw_follow 7 = .ok (.invokevirtual 34, 3) := by decide +kernel
theorem d_Lw_follow_10 : decode b_Lw_follow 10 = .ok (.i2l, 1) := by decide +kernel
theorem d_Lw_follow_11 : decode b_Lw_follow 11 = .ok (.lastore, 1) := by decide +kernel
theorem d_Lw_follow_12 : decode b_Lw_follow 12 = .ok (.goto 7, 3) := by decide +kernel
theorem d_Lw_follow_15 : decode b_Lw_follow 15 = .ok (.astore 5, 2) := by decide +kernel
theorem d_Lw_follow_17 : decode b_Lw_follow 17 = .ok (.iconst 1, 1) := by decide +kernel
theorem d_Lw_follow_18 : decode b_Lw_follow 18 = .ok (.ireturn, 1) := by decide +kernel
theorem d_Lw_follow_19 : decode b_Lw_follow 19 = .ok (.iconst 0, 1) := by decide +kernel
theorem d_Lw_follow_20 : decode b_Lw_follow 20 = .ok (.ireturn, 1) := by decide +kernel
theorem d_PP_follow_0 : decode b_PP_follow 0 = .ok (.iload_n 1, 1) := by decide +kernel
theorem d_PP_follow_1 : decode b_PP_follow 1 = .ok (.ifCond .lt 25, 3) := by decide +kernel
theorem d_PP_follow_4 : decode b_PP_follow 4 = .ok (.iload_n 1, 1) := by decide +kernel
theorem d_PP_follow_5 : decode b_PP_follow 5 = .ok (.aload_n 0, 1) := by decide +kernel
theorem d_PP_follow_6 : decode b_PP_follow 6 = .ok (.getfield 54, 3) := by decide +kernel
theorem d_PP_follow_9 : decode b_PP_follow 9 = .ok (.getfield 147, 3) := by decide +kernel
theorem d_PP_follow_12 : decode b_PP_follow 12 = .ok (.if_icmp .ge 14, 3) := by decide +kernel
theorem d_PP_follow_15 : decode b_PP_follow 15 = .ok (.aload_n 0, 1) := by decide +kernel
theorem d_PP_follow_16 : decode b_PP_follow 16 = .ok (.getfield 31, 3) := by decide +kernel
theorem d_PP_follow_19 : decode b_PP_follow 19 = .ok (.iload_n 2, 1) := by decide +kernel
theorem d_PP_follow_20 : decode b_PP_follow 20 = .ok (.invokevirtual 156, 3) := by decide +kernel
theorem d_PP_follow_23 : decode b_PP_follow 23 = .ok (.ifCond .ne 13, 3) := by decide +kernel
theorem d_PP_follow_26 : decode b_PP_follow 26 = .ok (.new 159, 3) := by decide +kernel
theorem d_PP_follow_29 : decode b_PP_follow 29 = .ok (.dup, 1) := by decide +kernel
theorem d_PP_follow_30 : decode b_PP_follow 30 = .ok (.ldc 170, 2) := by decide +kernel
theorem d_PP_follow_32 : decode b_PP_follow 32 = .ok (.invokespecial 163, 3) := by decide +kernel
theorem d_PP_follow_35 : decode b_PP_follow 35 = .ok (.athrow, 1) := by decide +kernel
theorem d_PP_follow_36 : decode b_PP_follow 36 = .ok (.aload_n 0, 1) := by decide +kernel
theorem d_PP_follow_37 : decode b_PP_follow 37 = .ok (.getfield 54, 3) := by decide +kernel
theorem d_PP_follow_40 : decode b_PP_follow 40 = .ok (.iload_n 1, 1) := by decide +kernel
theorem d_PP_follow_41 : decode b_PP_follow 41 = .ok (.iload_n 2, 1) := by decide +kernel
theorem d_PP_follow_42 : decode b_PP_follow 42 = .ok (.iload_n 3, 1) := by decide +kernel
theorem d_PP_follow_43 : decode b_PP_follow 43 = .ok (.invokevirtual 172, 3) := by decide +kernel
theorem d_PP_follow_46 : decode b_PP_follow 46 = .ok (.ireturn, 1) := by decide +kernel
theorem d_Lw_node_0 : decode b_Lw_node 0 = .ok (.aload_n 3, 1) := by decide +kernel
theorem d_Lw_node_1 : decode b_Lw_node 1 = .ok (.iconst 0, 1) := by decide +kernel
theorem d_Lw_node_2 : decode b_Lw_node 2 = .ok (.aload_n 0, 1) := by decide +kernel
theorem d_Lw_node_3 : decode b_Lw_node 3 = .ok (.iload_n 1, 1) := by decide +kernel
theorem d_Lw_node_4 : decode b_Lw_node 4 = .ok (.iload_n 2, 1) := by decide +kernel
theorem d_Lw_node_5 : decode b_Lw_node 5 = .ok (.invokevirtual 38, 3) := by decide +kernel
theorem d_Lw_node_8 : decode b_Lw_node 8 = .ok (.i2l, 1) := by decide +kernel
theorem d_Lw_node_9 : decode b_Lw_node 9 = .ok (.lastore, 1) := by decide +kernel
theorem d_Lw_node_10 : decode b_Lw_node 10 = .ok (.goto 11, 3) := by decide +kernel
theorem d_Lw_node_13 : decode b_Lw_node 13 = .ok (.astore 4, 2) := by decide +kernel
theorem d_Lw_node_15 : decode b_Lw_node 15 = .ok (.iconst 1, 1) := by decide +kernel
theorem d_Lw_node_16 : decode b_Lw_node 16 = .ok (.ireturn, 1) := by decide +kernel
theorem d_Lw_node_17 : decode b_Lw_node 17 = .ok (.astore 4, 2) := by decide +kernel
theorem d_Lw_node_19 : decode b_Lw_node 19 = .ok (.iconst 2, 1) := by decide +kernel
theorem d_Lw_node_20 : decode b_Lw_node 20 = .ok (.ireturn, 1) := by decide +kernel
theorem d_Lw_node_21 : decode b_Lw_node 21 = .ok (.iconst 0, 1) := by decide +kernel
theorem d_Lw_node_22 : decode b_Lw_node 22 = .ok (.ireturn, 1) := by decide +kernel
theorem d_PP_node_0 : decode b_PP_node 0 = .ok (.iload_n 1, 1) := by decide +kernel
theorem d_PP_node_1 : decode b_PP_node 1 = .ok (.ifCond .lt 14, 3) := by decide +kernel
theorem d_PP_node_4 : decode b_PP_node 4 = .ok (.iload_n 1, 1) := by decide +kernel
theorem d_PP_node_5 : decode b_PP_node 5 = .ok (.aload_n 0, 1) := by decide +kernel
theorem d_PP_node_6 : decode b_PP_node 6 = .ok (.getfield 62, 3) := by decide +kernel
theorem d_PP_node_9 : decode b_PP_node 9 = .ok (.getfield 176, 3) := by decide +kernel
theorem d_PP_node_12 : decode b_PP_node 12 = .ok (.if_icmp .lt 13, 3) := by decide +kernel
theorem d_PP_node_15 : decode b_PP_node 15 = .ok (.new 159, 3) := by decide +kernel
theorem d_PP_node_18 : decode b_PP_node 18 = .ok (.dup, 1) := by decide +kernel
theorem d_PP_node_19 : decode b_PP_node 19 = .ok (.ldc 177, 2) := by decide +kernel
theorem d_PP_node_21 : decode b_PP_node 21 = .ok (.invokespecial 163, 3) := by decide +kernel
theorem d_PP_node_24 : decode b_PP_node 24 = .ok (.athrow, 1) := by decide +kernel
theorem d_PP_node_25 : decode b_PP_node 25 = .ok (.iload_n 2, 1) := by decide +kernel
theorem d_PP_node_26 : decode b_PP_node 26 = .ok (.tableswitch 70 0 3 #[30, 40, 50, 60], 30) := by decide +kernel
theorem d_PP_node_56 : decode b_PP_node 56 = .ok (.aload_n 0, 1) := by decide +kernel
theorem d_PP_node_57 : decode b_PP_node 57 = .ok (.getfield 62, 3) := by decide +kernel
theorem d_PP_node_60 : decode b_PP_node 60 = .ok (.getfield 179, 3) := by decide +kernel
theorem d_PP_node_63 : decode b_PP_node 63 = .ok (.iload_n 1, 1) := by decide +kernel
theorem d_PP_node_64 : decode b_PP_node 64 = .ok (.iaload, 1) := by decide +kernel
theorem d_PP_node_65 : decode b_PP_node 65 = .ok (.ireturn, 1) := by decide +kernel
theorem d_PP_node_66 : decode b_PP_node 66 = .ok (.aload_n 0, 1) := by decide +kernel
theorem d_PP_node_67 : decode b_PP_node 67 = .ok (.getfield 62, 3) := by decide +kernel
theorem d_PP_node_70 : decode b_PP_node 70 = .ok (.getfield 182, 3) := by decide +kernel
theorem d_PP_node_73 : decode b_PP_node 73 = .ok (.iload_n 1, 1) := by decide +kernel
theorem d_PP_node_74 : decode b_PP_node 74 = .ok (.iaload, 1) := by decide +kernel
theorem d_PP_node_75 : decode b_PP_node 75 = .ok (.ireturn, 1) := by decide +kernel
theorem d_PP_node_76 : decode b_PP_node 76 = .ok (.aload_n 0, 1) := by decide +kernel
theorem d_PP_node_77 : decode b_PP_node 77 = .ok (.getfield 62, 3) := by decide +kernel
theorem d_PP_node_80 : decode b_PP_node 80 = .ok (.getfield 183, 3) := by decide +kernel
theorem d_PP_node_83 : decode b_PP_node 83 = .ok (.iload_n 1, 1) := by decide +kernel
theorem d_PP_node_84 : decode b_PP_node 84 = .ok (.iaload, 1) := by decide +kernel
theorem d_PP_node_85 : decode b_PP_node 85 = .ok (.ireturn, 1) := by decide +kernel
theorem d_PP_node_86 : decode b_PP_node 86 = .ok (.aload_n 0, 1) := by decide +kernel
theorem d_PP_node_87 : decode b_PP_node 87 = .ok (.getfield 62, 3) := by decide +kernel
theorem d_PP_node_90 : decode b_PP_node 90 = .ok (.getfield 186, 3) := by decide +kernel
theorem d_PP_node_93 : decode b_PP_node 93 = .ok (.iload_n 1, 1) := by decide +kernel
theorem d_PP_node_94 : decode b_PP_node 94 = .ok (.iaload, 1) := by decide +kernel
theorem d_PP_node_95 : decode b_PP_node 95 = .ok (.ireturn, 1) := by decide +kernel
theorem d_PP_node_96 : decode b_PP_node 96 = .ok (.new 99, 3) := by decide +kernel
theorem d_PP_node_99 : decode b_PP_node 99 = .ok (.dup, 1) := by decide +kernel
theorem d_PP_node_100 : decode b_PP_node 100 = .ok (.ldc 189, 2) := by decide +kernel
theorem d_PP_node_102 : decode b_PP_node 102 = .ok (.invokespecial 103, 3) := by decide +kernel
theorem d_PP_node_105 : decode b_PP_node 105 = .ok (.athrow, 1) := by decide +kernel
theorem d_Lw_path_0 : decode b_Lw_path 0 = .ok (.aload_n 2, 1) := by decide +kernel
theorem d_Lw_path_1 : decode b_Lw_path 1 = .ok (.iconst 0, 1) := by decide +kernel
theorem d_Lw_path_2 : decode b_Lw_path 2 = .ok (.aload_n 0, 1) := by decide +kernel
theorem d_Lw_path_3 : decode b_Lw_path 3 = .ok (.iload_n 1, 1) := by decide +kernel
theorem d_Lw_path_4 : decode b_Lw_path 4 = .ok (.invokevirtual 42, 3) := by decide +kernel
theorem d_Lw_path_7 : decode b_Lw_path 7 = .ok (.i2l, 1) := by decide +kernel
theorem d_Lw_path_8 : decode b_Lw_path 8 = .ok (.lastore, 1) := by decide +kernel
theorem d_Lw_path_9 : decode b_Lw_path 9 = .ok (.goto 6, 3) := by decide +kernel
theorem d_Lw_path_12 : decode b_Lw_path 12 = .ok (.astore_n 3, 1) := by decide +kernel
theorem d_Lw_path_13 : decode b_Lw_path 13 = .ok (.iconst 1, 1) := by decide +kernel
theorem d_Lw_path_14 : decode b_Lw_path 14 = .ok (.ireturn, 1) := by decide +kernel
theorem d_Lw_path_15 : decode b_Lw_path 15 = .ok (.iconst 0, 1) := by decide +kernel
theorem d_Lw_path_16 : decode b_Lw_path 16 = .ok (.ireturn, 1) := by decide +kernel
theorem d_PP_path_0 : decode b_PP_path 0 = .ok (.iload_n 1, 1) := by decide +kernel
theorem d_PP_path_1 : decode b_PP_path 1 = .ok (.ifCond .lt 14, 3) := by decide +kernel
theorem d_PP_path_4 : decode b_PP_path 4 = .ok (.iload_n 1, 1) := by decide +kernel
theorem d_PP_path_5 : decode b_PP_path 5 = .ok (.aload_n 0, 1) := by decide +kernel
theorem d_PP_path_6 : decode b_PP_path 6 = .ok (.getfield 62, 3) := by decide +kernel
theorem d_PP_path_9 : decode b_PP_path 9 = .ok (.getfield 191, 3) := by decide +kernel
theorem d_PP_path_12 : decode b_PP_path 12 = .ok (.if_icmp .lt 13, 3) := by decide +kernel
theorem d_PP_path_15 : decode b_PP_path 15 = .ok (.new 159, 3) := by decide +kernel
theorem d_PP_path_18 : decode b_PP_path 18 = .ok (.dup, 1) := by decide +kernel
theorem d_PP_path_19 : decode b_PP_path 19 = .ok (.ldc 194, 2) := by decide +kernel
theorem d_PP_path_21 : decode b_PP_path 21 = .ok (.invokespecial 163, 3) := by decide +kernel
theorem d_PP_path_24 : decode b_PP_path 24 = .ok (.athrow, 1) := by decide +kernel
theorem d_PP_path_25 : decode b_PP_path 25 = .ok (.aload_n 0, 1) := by decide +kernel
theorem d_PP_path_26 : decode b_PP_path 26 = .ok (.getfield 62, 3) := by decide +kernel
theorem d_PP_path_29 : decode b_PP_path 29 = .ok (.getfield 196, 3) := by decide +kernel
theorem d_PP_path_32 : decode b_PP_path 32 = .ok (.iload_n 1, 1) := by decide +kernel
theorem d_PP_path_33 : decode b_PP_path 33 = .ok (.iaload, 1) := by decide +kernel
theorem d_PP_path_34 : decode b_PP_path 34 = .ok (.ireturn, 1) := by decide +kernel
theorem d_Lw_input_0 : decode b_Lw_input 0 = .ok (.aload_n 2, 1) := by decide +kernel
theorem d_Lw_input_1 : decode b_Lw_input 1 = .ok (.iconst 0, 1) := by decide +kernel
theorem d_Lw_input_2 : decode b_Lw_input 2 = .ok (.aload_n 0, 1) := by decide +kernel
theorem d_Lw_input_3 : decode b_Lw_input 3 = .ok (.iload_n 1, 1) := by decide +kernel
theorem d_Lw_input_4 : decode b_Lw_input 4 = .ok (.invokevirtual 45, 3) := by decide +kernel
theorem d_Lw_input_7 : decode b_Lw_input 7 = .ok (.i2l, 1) := by decide +kernel
theorem d_Lw_input_8 : decode b_Lw_input 8 = .ok (.lastore, 1) := by decide +kernel
theorem d_Lw_input_9 : decode b_Lw_input 9 = .ok (.goto 6, 3) := by decide +kernel
theorem d_Lw_input_12 : decode b_Lw_input 12 = .ok (.astore_n 3, 1) := by decide +kernel
theorem d_Lw_input_13 : decode b_Lw_input 13 = .ok (.iconst 1, 1) := by decide +kernel
theorem d_Lw_input_14 : decode b_Lw_input 14 = .ok (.ireturn, 1) := by decide +kernel
theorem d_Lw_input_15 : decode b_Lw_input 15 = .ok (.iconst 0, 1) := by decide +kernel
theorem d_Lw_input_16 : decode b_Lw_input 16 = .ok (.ireturn, 1) := by decide +kernel
theorem d_PP_input_0 : decode b_PP_input 0 = .ok (.iload_n 1, 1) := by decide +kernel
theorem d_PP_input_1 : decode b_PP_input 1 = .ok (.ifCond .lt 14, 3) := by decide +kernel
theorem d_PP_input_4 : decode b_PP_input 4 = .ok (.iload_n 1, 1) := by decide +kernel
theorem d_PP_input_5 : decode b_PP_input 5 = .ok (.aload_n 0, 1) := by decide +kernel
theorem d_PP_input_6 : decode b_PP_input 6 = .ok (.getfield 71, 3) := by decide +kernel
theorem d_PP_input_9 : decode b_PP_input 9 = .ok (.getfield 199, 3) := by decide +kernel
theorem d_PP_input_12 : decode b_PP_input 12 = .ok (.if_icmp .lt 13, 3) := by decide +kernel
theorem d_PP_input_15 : decode b_PP_input 15 = .ok (.new 159, 3) := by decide +kernel
theorem d_PP_input_18 : decode b_PP_input 18 = .ok (.dup, 1) := by decide +kernel
theorem d_PP_input_19 : decode b_PP_input 19 = .ok (.ldc 202, 2) := by decide +kernel
theorem d_PP_input_21 : decode b_PP_input 21 = .ok (.invokespecial 163, 3) := by decide +kernel
theorem d_PP_input_24 : decode b_PP_input 24 = .ok (.athrow, 1) := by decide +kernel
theorem d_PP_input_25 : decode b_PP_input 25 = .ok (.aload_n 0, 1) := by decide +kernel
theorem d_PP_input_26 : decode b_PP_input 26 = .ok (.getfield 71, 3) := by decide +kernel
end
section
theorem d_PP_input_29 : decode b_PP_input 29 = .ok (.getfield 204, 3) := by decide +kernel
theorem d_PP_input_32 : decode b_PP_input 32 = .ok (.iload_n 1, 1) := by decide +kernel
theorem d_PP_input_33 : decode b_PP_input 33 = .ok (.iaload, 1) := by decide +kernel
theorem d_PP_input_34 : decode b_PP_input 34 = .ok (.ireturn, 1) := by decide +kernel
theorem d_Mo_init_0 : decode b_Mo_init 0 = .ok (.aload_n 0, 1) := by decide +kernel
theorem d_Mo_init_1 : decode b_Mo_init 1 = .ok (.invokespecial 1, 3) := by decide +kernel
theorem d_Mo_init_4 : decode b_Mo_init 4 = .ok (.aload_n 0, 1) := by decide +kernel
theorem d_Mo_init_5 : decode b_Mo_init 5 = .ok (.bipush 24, 2) := by decide +kernel
theorem d_Mo_init_7 : decode b_Mo_init 7 = .ok (.newarray .int, 2) := by decide +kernel
theorem d_Mo_init_9 : decode b_Mo_init 9 = .ok (.putfield 7, 3) := by decide +kernel
theorem d_Mo_init_12 : decode b_Mo_init 12 = .ok (.aload_n 0, 1) := by decide +kernel
theorem d_Mo_init_13 : decode b_Mo_init 13 = .ok (.bipush 20, 2) := by decide +kernel
theorem d_Mo_init_15 : decode b_Mo_init 15 = .ok (.newarray .int, 2) := by decide +kernel
theorem d_Mo_init_17 : decode b_Mo_init 17 = .ok (.putfield 13, 3) := by decide +kernel
theorem d_Mo_init_20 : decode b_Mo_init 20 = .ok (.aload_n 0, 1) := by decide +kernel
theorem d_Mo_init_21 : decode b_Mo_init 21 = .ok (.bipush 20, 2) := by decide +kernel
theorem d_Mo_init_23 : decode b_Mo_init 23 = .ok (.newarray .int, 2) := by decide +kernel
theorem d_Mo_init_25 : decode b_Mo_init 25 = .ok (.putfield 16, 3) := by decide +kernel
theorem d_Mo_init_28 : decode b_Mo_init 28 = .ok (.aload_n 0, 1) := by decide +kernel
theorem d_Mo_init_29 : decode b_Mo_init 29 = .ok (.bipush 20, 2) := by decide +kernel
theorem d_Mo_init_31 : decode b_Mo_init 31 = .ok (.newarray .int, 2) := by decide +kernel
theorem d_Mo_init_33 : decode b_Mo_init 33 = .ok (.putfield 19, 3) := by decide +kernel
theorem d_Mo_init_36 : decode b_Mo_init 36 = .ok (.aload_n 0, 1) := by decide +kernel
theorem d_Mo_init_37 : decode b_Mo_init 37 = .ok (.bipush 20, 2) := by decide +kernel
theorem d_Mo_init_39 : decode b_Mo_init 39 = .ok (.newarray .int, 2) := by decide +kernel
theorem d_Mo_init_41 : decode b_Mo_init 41 = .ok (.putfield 22, 3) := by decide +kernel
theorem d_Mo_init_44 : decode b_Mo_init 44 = .ok (.aload_n 0, 1) := by decide +kernel
theorem d_Mo_init_45 : decode b_Mo_init 45 = .ok (.sipush 480, 3) := by decide +kernel
theorem d_Mo_init_48 : decode b_Mo_init 48 = .ok (.newarray .long, 2) := by decide +kernel
theorem d_Mo_init_50 : decode b_Mo_init 50 = .ok (.putfield 25, 3) := by decide +kernel
theorem d_Mo_init_53 : decode b_Mo_init 53 = .ok (.aload_n 0, 1) := by decide +kernel
theorem d_Mo_init_54 : decode b_Mo_init 54 = .ok (.bipush 96, 2) := by decide +kernel
theorem d_Mo_init_56 : decode b_Mo_init 56 = .ok (.newarray .long, 2) := by decide +kernel
theorem d_Mo_init_58 : decode b_Mo_init 58 = .ok (.putfield 29, 3) := by decide +kernel
theorem d_Mo_init_61 : decode b_Mo_init 61 = .ok (.aload_n 0, 1) := by decide +kernel
theorem d_Mo_init_62 : decode b_Mo_init 62 = .ok (.sipush 512, 3) := by decide +kernel
theorem d_Mo_init_65 : decode b_Mo_init 65 = .ok (.newarray .int, 2) := by decide +kernel
theorem d_Mo_init_67 : decode b_Mo_init 67 = .ok (.putfield 32, 3) := by decide +kernel
theorem d_Mo_init_70 : decode b_Mo_init 70 = .ok (.aload_n 0, 1) := by decide +kernel
theorem d_Mo_init_71 : decode b_Mo_init 71 = .ok (.iconst (-1), 1) := by decide +kernel
theorem d_Mo_init_72 : decode b_Mo_init 72 = .ok (.putfield 35, 3) := by decide +kernel
theorem d_Mo_init_75 : decode b_Mo_init 75 = .ok (.aload_n 0, 1) := by decide +kernel
theorem d_Mo_init_76 : decode b_Mo_init 76 = .ok (.sipush 200, 3) := by decide +kernel
theorem d_Mo_init_79 : decode b_Mo_init 79 = .ok (.newarray .int, 2) := by decide +kernel
theorem d_Mo_init_81 : decode b_Mo_init 81 = .ok (.putfield 39, 3) := by decide +kernel
theorem d_Mo_init_84 : decode b_Mo_init 84 = .ok (.aload_n 0, 1) := by decide +kernel
theorem d_Mo_init_85 : decode b_Mo_init 85 = .ok (.sipush 200, 3) := by decide +kernel
theorem d_Mo_init_88 : decode b_Mo_init 88 = .ok (.newarray .int, 2) := by decide +kernel
theorem d_Mo_init_90 : decode b_Mo_init 90 = .ok (.putfield 42, 3) := by decide +kernel
theorem d_Mo_init_93 : decode b_Mo_init 93 = .ok (.aload_n 0, 1) := by decide +kernel
theorem d_Mo_init_94 : decode b_Mo_init 94 = .ok (.sipush 200, 3) := by decide +kernel
theorem d_Mo_init_97 : decode b_Mo_init 97 = .ok (.newarray .int, 2) := by decide +kernel
theorem d_Mo_init_99 : decode b_Mo_init 99 = .ok (.putfield 45, 3) := by decide +kernel
theorem d_Mo_init_102 : decode b_Mo_init 102 = .ok (.aload_n 0, 1) := by decide +kernel
theorem d_Mo_init_103 : decode b_Mo_init 103 = .ok (.sipush 200, 3) := by decide +kernel
theorem d_Mo_init_106 : decode b_Mo_init 106 = .ok (.newarray .int, 2) := by decide +kernel
theorem d_Mo_init_108 : decode b_Mo_init 108 = .ok (.putfield 48, 3) := by decide +kernel
theorem d_Mo_init_111 : decode b_Mo_init 111 = .ok (.aload_n 0, 1) := by decide +kernel
theorem d_Mo_init_112 : decode b_Mo_init 112 = .ok (.iconst (-1), 1) := by decide +kernel
theorem d_Mo_init_113 : decode b_Mo_init 113 = .ok (.putfield 51, 3) := by decide +kernel
theorem d_Mo_init_116 : decode b_Mo_init 116 = .ok (.aload_n 0, 1) := by decide +kernel
theorem d_Mo_init_117 : decode b_Mo_init 117 = .ok (.sipush 200, 3) := by decide +kernel
theorem d_Mo_init_120 : decode b_Mo_init 120 = .ok (.newarray .int, 2) := by decide +kernel
theorem d_Mo_init_122 : decode b_Mo_init 122 = .ok (.putfield 54, 3) := by decide +kernel
theorem d_Mo_init_125 : decode b_Mo_init 125 = .ok (.aload_n 0, 1) := by decide +kernel
theorem d_Mo_init_126 : decode b_Mo_init 126 = .ok (.sipush 200, 3) := by decide +kernel
theorem d_Mo_init_129 : decode b_Mo_init 129 = .ok (.newarray .int, 2) := by decide +kernel
theorem d_Mo_init_131 : decode b_Mo_init 131 = .ok (.putfield 57, 3) := by decide +kernel
theorem d_Mo_init_134 : decode b_Mo_init 134 = .ok (.aload_n 0, 1) := by decide +kernel
theorem d_Mo_init_135 : decode b_Mo_init 135 = .ok (.sipush 4096, 3) := by decide +kernel
theorem d_Mo_init_138 : decode b_Mo_init 138 = .ok (.newarray .int, 2) := by decide +kernel
theorem d_Mo_init_140 : decode b_Mo_init 140 = .ok (.putfield 60, 3) := by decide +kernel
theorem d_Mo_init_143 : decode b_Mo_init 143 = .ok (.aload_n 0, 1) := by decide +kernel
theorem d_Mo_init_144 : decode b_Mo_init 144 = .ok (.sipush 1608, 3) := by decide +kernel
theorem d_Mo_init_147 : decode b_Mo_init 147 = .ok (.newarray .long, 2) := by decide +kernel
theorem d_Mo_init_149 : decode b_Mo_init 149 = .ok (.putfield 63, 3) := by decide +kernel
theorem d_Mo_init_152 : decode b_Mo_init 152 = .ok (.aload_n 0, 1) := by decide +kernel
theorem d_Mo_init_153 : decode b_Mo_init 153 = .ok (.sipush 512, 3) := by decide +kernel
theorem d_Mo_init_156 : decode b_Mo_init 156 = .ok (.newarray .boolean, 2) := by decide +kernel
theorem d_Mo_init_158 : decode b_Mo_init 158 = .ok (.putfield 66, 3) := by decide +kernel
theorem d_Mo_init_161 : decode b_Mo_init 161 = .ok (.aload_n 0, 1) := by decide +kernel
theorem d_Mo_init_162 : decode b_Mo_init 162 = .ok (.iconst 5, 1) := by decide +kernel
theorem d_Mo_init_163 : decode b_Mo_init 163 = .ok (.newarray .int, 2) := by decide +kernel
theorem d_Mo_init_165 : decode b_Mo_init 165 = .ok (.putfield 70, 3) := by decide +kernel
theorem d_Mo_init_168 : decode b_Mo_init 168 = .ok (.aload_n 0, 1) := by decide +kernel
theorem d_Mo_init_169 : decode b_Mo_init 169 = .ok (.iconst 5, 1) := by decide +kernel
theorem d_Mo_init_170 : decode b_Mo_init 170 = .ok (.newarray .int, 2) := by decide +kernel
theorem d_Mo_init_172 : decode b_Mo_init 172 = .ok (.putfield 73, 3) := by decide +kernel
theorem d_Mo_init_175 : decode b_Mo_init 175 = .ok (.aload_n 0, 1) := by decide +kernel
theorem d_Mo_init_176 : decode b_Mo_init 176 = .ok (.iload_n 1, 1) := by decide +kernel
theorem d_Mo_init_177 : decode b_Mo_init 177 = .ok (.iconst 3, 1) := by decide +kernel
theorem d_Mo_init_178 : decode b_Mo_init 178 = .ok (.iand, 1) := by decide +kernel
theorem d_Mo_init_179 : decode b_Mo_init 179 = .ok (.iconst 3, 1) := by decide +kernel
theorem d_Mo_init_180 : decode b_Mo_init 180 = .ok (.if_icmp .ne 7, 3) := by decide +kernel
theorem d_Mo_init_183 : decode b_Mo_init 183 = .ok (.iconst 3, 1) := by decide +kernel
theorem d_Mo_init_184 : decode b_Mo_init 184 = .ok (.goto 8, 3) := by decide +kernel
theorem d_Mo_init_187 : decode b_Mo_init 187 = .ok (.iconst 1, 1) := by decide +kernel
theorem d_Mo_init_188 : decode b_Mo_init 188 = .ok (.iload_n 1, 1) := by decide +kernel
theorem d_Mo_init_189 : decode b_Mo_init 189 = .ok (.iconst 3, 1) := by decide +kernel
theorem d_Mo_init_190 : decode b_Mo_init 190 = .ok (.iand, 1) := by decide +kernel
theorem d_Mo_init_191 : decode b_Mo_init 191 = .ok (.iadd, 1) := by decide +kernel
theorem d_Mo_init_192 : decode b_Mo_init 192 = .ok (.putfield 76, 3) := by decide +kernel
theorem d_Mo_init_195 : decode b_Mo_init 195 = .ok (.aload_n 0, 1) := by decide +kernel
theorem d_Mo_init_196 : decode b_Mo_init 196 = .ok (.iconst 1, 1) := by decide +kernel
theorem d_Mo_init_197 : decode b_Mo_init 197 = .ok (.aload_n 0, 1) := by decide +kernel
theorem d_Mo_init_198 : decode b_Mo_init 198 = .ok (.getfield 76, 3) := by decide +kernel
theorem d_Mo_init_201 : decode b_Mo_init 201 = .ok (.ishl, 1) := by decide +kernel
theorem d_Mo_init_202 : decode b_Mo_init 202 = .ok (.iconst 1, 1) := by decide +kernel
theorem d_Mo_init_203 : decode b_Mo_init 203 = .ok (.isub, 1) := by decide +kernel
theorem d_Mo_init_204 : decode b_Mo_init 204 = .ok (.putfield 79, 3) := by decide +kernel
theorem d_Mo_init_207 : decode b_Mo_init 207 = .ok (.aload_n 0, 1) := by decide +kernel
theorem d_Mo_init_208 : decode b_Mo_init 208 = .ok (.iconst 1, 1) := by decide +kernel
theorem d_Mo_init_209 : decode b_Mo_init 209 = .ok (.iconst 3, 1) := by decide +kernel
theorem d_Mo_init_210 : decode b_Mo_init 210 = .ok (.aload_n 0, 1) := by decide +kernel
theorem d_Mo_init_211 : decode b_Mo_init 211 = .ok (.getfield 76, 3) := by decide +kernel
theorem d_Mo_init_214 : decode b_Mo_init 214 = .ok (.imul, 1) := by decide +kernel
theorem d_Mo_init_215 : decode b_Mo_init 215 = .ok (.ishl, 1) := by decide +kernel
theorem d_Mo_init_216 : decode b_Mo_init 216 = .ok (.putfield 82, 3) := by decide +kernel
theorem d_Mo_init_219 : decode b_Mo_init 219 = .ok (.return_, 1) := by decide +kernel
theorem d_Mo_thrown_0 : decode b_Mo_thrown 0 = .ok (.aload_n 0, 1) := by decide +kernel
theorem d_Mo_thrown_1 : decode b_Mo_thrown 1 = .ok (.getfield 85, 3) := by decide +kernel
theorem d_Mo_thrown_4 : decode b_Mo_thrown 4 = .ok (.ireturn, 1) := by decide +kernel
theorem d_Mo_type_0 : decode b_Mo_type 0 = .ok (.aload_n 0, 1) := by decide +kernel
theorem d_Mo_type_1 : decode b_Mo_type 1 = .ok (.iconst 0, 1) := by decide +kernel
theorem d_Mo_type_2 : decode b_Mo_type 2 = .ok (.putfield 85, 3) := by decide +kernel
theorem d_Mo_type_5 : decode b_Mo_type 5 = .ok (.iload_n 1, 1) := by decide +kernel
theorem d_Mo_type_6 : decode b_Mo_type 6 = .ok (.bipush 32, 2) := by decide +kernel
theorem d_Mo_type_8 : decode b_Mo_type 8 = .ok (.if_icmp .lt 18, 3) := by decide +kernel
theorem d_Mo_type_11 : decode b_Mo_type 11 = .ok (.iload_n 1, 1) := by decide +kernel
theorem d_Mo_type_12 : decode b_Mo_type 12 = .ok (.bipush 126, 2) := by decide +kernel
theorem d_Mo_type_14 : decode b_Mo_type 14 = .ok (.if_icmp .gt 12, 3) := by decide +kernel
theorem d_Mo_type_17 : decode b_Mo_type 17 = .ok (.aload_n 0, 1) := by decide +kernel
theorem d_Mo_type_18 : decode b_Mo_type 18 = .ok (.getfield 88, 3) := by decide +kernel
theorem d_Mo_type_21 : decode b_Mo_type 21 = .ok (.bipush 24, 2) := by decide +kernel
theorem d_Mo_type_23 : decode b_Mo_type 23 = .ok (.if_icmp .ne 5, 3) := by decide +kernel
theorem d_Mo_type_26 : decode b_Mo_type 26 = .ok (.iconst (-1), 1) := by decide +kernel
theorem d_Mo_type_27 : decode b_Mo_type 27 = .ok (.ireturn, 1) := by decide +kernel
theorem d_Mo_type_28 : decode b_Mo_type 28 = .ok (.aload_n 0, 1) := by decide +kernel
theorem d_Mo_type_29 : decode b_Mo_type 29 = .ok (.getfield 7, 3) := by decide +kernel
theorem d_Mo_type_32 : decode b_Mo_type 32 = .ok (.aload_n 0, 1) := by decide +kernel
theorem d_Mo_type_33 : decode b_Mo_type 33 = .ok (.getfield 88, 3) := by decide +kernel
theorem d_Mo_type_36 : decode b_Mo_type 36 = .ok (.iload_n 1, 1) := by decide +kernel
theorem d_Mo_type_37 : decode b_Mo_type 37 = .ok (.iastore, 1) := by decide +kernel
theorem d_Mo_type_38 : decode b_Mo_type 38 = .ok (.aload_n 0, 1) := by decide +kernel
theorem d_Mo_type_39 : decode b_Mo_type 39 = .ok (.dup, 1) := by decide +kernel
theorem d_Mo_type_40 : decode b_Mo_type 40 = .ok (.getfield 88, 3) := by decide +kernel
theorem d_Mo_type_43 : decode b_Mo_type 43 = .ok (.iconst 1, 1) := by decide +kernel
theorem d_Mo_type_44 : decode b_Mo_type 44 = .ok (.iadd, 1) := by decide +kernel
theorem d_Mo_type_45 : decode b_Mo_type 45 = .ok (.putfield 88, 3) := by decide +kernel
theorem d_Mo_type_48 : decode b_Mo_type 48 = .ok (.aload_n 0, 1) := by decide +kernel
theorem d_Mo_type_49 : decode b_Mo_type 49 = .ok (.getfield 88, 3) := by decide +kernel
theorem d_Mo_type_52 : decode b_Mo_type 52 = .ok (.ireturn, 1) := by decide +kernel
theorem d_Mo_wipe_0 : decode b_Mo_wipe 0 = .ok (.aload_n 0, 1) := by decide +kernel
theorem d_Mo_wipe_1 : decode b_Mo_wipe 1 = .ok (.iconst 0, 1) := by decide +kernel
theorem d_Mo_wipe_2 : decode b_Mo_wipe 2 = .ok (.putfield 85, 3) := by decide +kernel
theorem d_Mo_wipe_5 : decode b_Mo_wipe 5 = .ok (.aload_n 0, 1) := by decide +kernel
theorem d_Mo_wipe_6 : decode b_Mo_wipe 6 = .ok (.iconst 0, 1) := by decide +kernel
theorem d_Mo_wipe_7 : decode b_Mo_wipe 7 = .ok (.putfield 88, 3) := by decide +kernel
theorem d_Mo_wipe_10 : decode b_Mo_wipe 10 = .ok (.return_, 1) := by decide +kernel
theorem d_Mo_edge_0 : decode b_Mo_edge 0 = .ok (.aload_n 0, 1) := by decide +kernel
theorem d_Mo_edge_1 : decode b_Mo_edge 1 = .ok (.iconst 0, 1) := by decide +kernel
theorem d_Mo_edge_2 : decode b_Mo_edge 2 = .ok (.putfield 85, 3) := by decide +kernel
theorem d_Mo_edge_5 : decode b_Mo_edge 5 = .ok (.aload_n 0, 1) := by decide +kernel
theorem d_Mo_edge_6 : decode b_Mo_edge 6 = .ok (.iconst 0, 1) := by decide +kernel
theorem d_Mo_edge_7 : decode b_Mo_edge 7 = .ok (.invokevirtual 91, 3) := by decide +kernel
theorem d_Mo_edge_10 : decode b_Mo_edge 10 = .ok (.invokestatic 129, 3) := by decide +kernel
theorem d_Mo_edge_13 : decode b_Mo_edge 13 = .ok (.ifCond .eq 24, 3) := by decide +kernel
theorem d_Mo_edge_16 : decode b_Mo_edge 16 = .ok (.aload_n 0, 1) := by decide +kernel
theorem d_Mo_edge_17 : decode b_Mo_edge 17 = .ok (.iconst 1, 1) := by decide +kernel
theorem d_Mo_edge_18 : decode b_Mo_edge 18 = .ok (.invokevirtual 91, 3) := by decide +kernel
theorem d_Mo_edge_21 : decode b_Mo_edge 21 = .ok (.invokestatic 129, 3) := by decide +kernel
theorem d_Mo_edge_24 : decode b_Mo_edge 24 = .ok (.ifCond .eq 13, 3) := by decide +kernel
theorem d_Mo_edge_27 : decode b_Mo_edge 27 = .ok (.aload_n 0, 1) := by decide +kernel
theorem d_Mo_edge_28 : decode b_Mo_edge 28 = .ok (.iconst 2, 1) := by decide +kernel
theorem d_Mo_edge_29 : decode b_Mo_edge 29 = .ok (.invokevirtual 91, 3) := by decide +kernel
theorem d_Mo_edge_32 : decode b_Mo_edge 32 = .ok (.bipush 32, 2) := by decide +kernel
theorem d_Mo_edge_34 : decode b_Mo_edge 34 = .ok (.if_icmp .eq 9, 3) := by decide +kernel
theorem d_Mo_edge_37 : decode b_Mo_edge 37 = .ok (.aload_n 0, 1) := by decide +kernel
theorem d_Mo_edge_38 : decode b_Mo_edge 38 = .ok (.iconst 1, 1) := by decide +kernel
theorem d_Mo_edge_39 : decode b_Mo_edge 39 = .ok (.invokevirtual 132, 3) := by decide +kernel
theorem d_Mo_edge_42 : decode b_Mo_edge 42 = .ok (.ireturn, 1) := by decide +kernel
theorem d_Mo_edge_43 : decode b_Mo_edge 43 = .ok (.aload_n 0, 1) := by decide +kernel
theorem d_Mo_edge_44 : decode b_Mo_edge 44 = .ok (.iconst 3, 1) := by decide +kernel
theorem d_Mo_edge_45 : decode b_Mo_edge 45 = .ok (.invokevirtual 91, 3) := by decide +kernel
theorem d_Mo_edge_48 : decode b_Mo_edge 48 = .ok (.invokestatic 95, 3) := by decide +kernel
theorem d_Mo_edge_51 : decode b_Mo_edge 51 = .ok (.ifCond .eq 27, 3) := by decide +kernel
theorem d_Mo_edge_54 : decode b_Mo_edge 54 = .ok (.aload_n 0, 1) := by decide +kernel
theorem d_Mo_edge_55 : decode b_Mo_edge 55 = .ok (.iconst 4, 1) := by decide +kernel
theorem d_Mo_edge_56 : decode b_Mo_edge 56 = .ok (.invokevirtual 91, 3) := by decide +kernel
theorem d_Mo_edge_59 : decode b_Mo_edge 59 = .ok (.bipush 58, 2) := by decide +kernel
theorem d_Mo_edge_61 : decode b_Mo_edge 61 = .ok (.if_icmp .eq 13, 3) := by decide +kernel
theorem d_Mo_edge_64 : decode b_Mo_edge 64 = .ok (.aload_n 0, 1) := by decide +kernel
theorem d_Mo_edge_65 : decode b_Mo_edge 65 = .ok (.iconst 4, 1) := by decide +kernel
theorem d_Mo_edge_66 : decode b_Mo_edge 66 = .ok (.invokevirtual 91, 3) := by decide +kernel
theorem d_Mo_edge_69 : decode b_Mo_edge 69 = .ok (.bipush 63, 2) := by decide +kernel
theorem d_Mo_edge_71 : decode b_Mo_edge 71 = .ok (.if_icmp .ne 7, 3) := by decide +kernel
theorem d_Mo_edge_74 : decode b_Mo_edge 74 = .ok (.iconst 1, 1) := by decide +kernel
theorem d_Mo_edge_75 : decode b_Mo_edge 75 = .ok (.goto 4, 3) := by decide +kernel
theorem d_Mo_edge_78 : decode b_Mo_edge 78 = .ok (.iconst 0, 1) := by decide +kernel
theorem d_Mo_edge_79 : decode b_Mo_edge 79 = .ok (.istore_n 1, 1) := by decide +kernel
theorem d_Mo_edge_80 : decode b_Mo_edge 80 = .ok (.iload_n 1, 1) := by decide +kernel
theorem d_Mo_edge_81 : decode b_Mo_edge 81 = .ok (.ifCond .eq 7, 3) := by decide +kernel
theorem d_Mo_edge_84 : decode b_Mo_edge 84 = .ok (.iconst (-1), 1) := by decide +kernel
theorem d_Mo_edge_85 : decode b_Mo_edge 85 = .ok (.goto 8, 3) := by decide +kernel
theorem d_Mo_edge_88 : decode b_Mo_edge 88 = .ok (.aload_n 0, 1) := by decide +kernel
theorem d_Mo_edge_89 : decode b_Mo_edge 89 = .ok (.iconst 3, 1) := by decide +kernel
theorem d_Mo_edge_90 : decode b_Mo_edge 90 = .ok (.invokevirtual 135, 3) := by decide +kernel
theorem d_Mo_edge_93 : decode b_Mo_edge 93 = .ok (.istore_n 2, 1) := by decide +kernel
theorem d_Mo_edge_94 : decode b_Mo_edge 94 = .ok (.iload_n 1, 1) := by decide +kernel
theorem d_Mo_edge_95 : decode b_Mo_edge 95 = .ok (.ifCond .eq 29, 3) := by decide +kernel
theorem d_Mo_edge_98 : decode b_Mo_edge 98 = .ok (.aload_n 0, 1) := by decide +kernel
theorem d_Mo_edge_99 : decode b_Mo_edge 99 = .ok (.iconst 4, 1) := by decide +kernel
theorem d_Mo_edge_100 : decode b_Mo_edge 100 = .ok (.invokevirtual 91, 3) := by decide +kernel
theorem d_Mo_edge_103 : decode b_Mo_edge 103 = .ok (.bipush 58, 2) := by decide +kernel
theorem d_Mo_edge_105 : decode b_Mo_edge 105 = .ok (.if_icmp .ne 19, 3) := by decide +kernel
theorem d_Mo_edge_108 : decode b_Mo_edge 108 = .ok (.aload_n 0, 1) := by decide +kernel
theorem d_Mo_edge_109 : decode b_Mo_edge 109 = .ok (.iconst 5, 1) := by decide +kernel
theorem d_Mo_edge_110 : decode b_Mo_edge 110 = .ok (.invokevirtual 102, 3) := by decide +kernel
theorem d_Mo_edge_113 : decode b_Mo_edge 113 = .ok (.aload_n 0, 1) := by decide +kernel
theorem d_Mo_edge_114 : decode b_Mo_edge 114 = .ok (.getfield 88, 3) := by decide +kernel
theorem d_Mo_edge_117 : decode b_Mo_edge 117 = .ok (.if_icmp .ne 7, 3) := by decide +kernel
theorem d_Mo_edge_120 : decode b_Mo_edge 120 = .ok (.iconst 1, 1) := by decide +kernel
theorem d_Mo_edge_121 : decode b_Mo_edge 121 = .ok (.goto 4, 3) := by decide +kernel
theorem d_Mo_edge_124 : decode b_Mo_edge 124 = .ok (.iconst 0, 1) := by decide +kernel
theorem d_Mo_edge_125 : decode b_Mo_edge 125 = .ok (.istore_n 3, 1) := by decide +kernel
theorem d_Mo_edge_126 : decode b_Mo_edge 126 = .ok (.iload_n 1, 1) := by decide +kernel
theorem d_Mo_edge_127 : decode b_Mo_edge 127 = .ok (.ifCond .eq 25, 3) := by decide +kernel
theorem d_Mo_edge_130 : decode b_Mo_edge 130 = .ok (.aload_n 0, 1) := by decide +kernel
theorem d_Mo_edge_131 : decode b_Mo_edge 131 = .ok (.iconst 4, 1) := by decide +kernel
theorem d_Mo_edge_132 : decode b_Mo_edge 132 = .ok (.invokevirtual 91, 3) := by decide +kernel
theorem d_Mo_edge_135 : decode b_Mo_edge 135 = .ok (.bipush 63, 2) := by decide +kernel
theorem d_Mo_edge_137 : decode b_Mo_edge 137 = .ok (.if_icmp .ne 15, 3) := by decide +kernel
theorem d_Mo_edge_140 : decode b_Mo_edge 140 = .ok (.aload_n 0, 1) := by decide +kernel
theorem d_Mo_edge_141 : decode b_Mo_edge 141 = .ok (.getfield 88, 3) := by decide +kernel
theorem d_Mo_edge_144 : decode b_Mo_edge 144 = .ok (.iconst 5, 1) := by decide +kernel
theorem d_Mo_edge_145 : decode b_Mo_edge 145 = .ok (.if_icmp .ne 7, 3) := by decide +kernel
theorem d_Mo_edge_148 : decode b_Mo_edge 148 = .ok (.iconst 1, 1) := by decide +kernel
theorem d_Mo_edge_149 : decode b_Mo_edge 149 = .ok (.goto 4, 3) := by decide +kernel
theorem d_Mo_edge_152 : decode b_Mo_edge 152 = .ok (.iconst 0, 1) := by decide +kernel
theorem d_Mo_edge_153 : decode b_Mo_edge 153 = .ok (.istore 4, 2) := by decide +kernel
theorem d_Mo_edge_155 : decode b_Mo_edge 155 = .ok (.iload_n 3, 1) := by decide +kernel
theorem d_Mo_edge_156 : decode b_Mo_edge 156 = .ok (.ifCond .ne 18, 3) := by decide +kernel
theorem d_Mo_edge_159 : decode b_Mo_edge 159 = .ok (.iload 4, 2) := by decide +kernel
theorem d_Mo_edge_161 : decode b_Mo_edge 161 = .ok (.ifCond .ne 13, 3) := by decide +kernel
theorem d_Mo_edge_164 : decode b_Mo_edge 164 = .ok (.iload_n 2, 1) := by decide +kernel
theorem d_Mo_edge_165 : decode b_Mo_edge 165 = .ok (.ifCond .ge 9, 3) := by decide +kernel
theorem d_Mo_edge_168 : decode b_Mo_edge 168 = .ok (.aload_n 0, 1) := by decide +kernel
theorem d_Mo_edge_169 : decode b_Mo_edge 169 = .ok (.iconst 1, 1) := by decide +kernel
theorem d_Mo_edge_170 : decode b_Mo_edge 170 = .ok (.invokevirtual 132, 3) := by decide +kernel
theorem d_Mo_edge_173 : decode b_Mo_edge 173 = .ok (.ireturn, 1) := by decide +kernel
theorem d_Mo_edge_174 : decode b_Mo_edge 174 = .ok (.aload_n 0, 1) := by decide +kernel
theorem d_Mo_edge_175 : decode b_Mo_edge 175 = .ok (.getfield 138, 3) := by decide +kernel
theorem d_Mo_edge_178 : decode b_Mo_edge 178 = .ok (.bipush 20, 2) := by decide +kernel
theorem d_Mo_edge_180 : decode b_Mo_edge 180 = .ok (.if_icmp .ne 9, 3) := by decide +kernel
theorem d_Mo_edge_183 : decode b_Mo_edge 183 = .ok (.aload_n 0, 1) := by decide +kernel
theorem d_Mo_edge_184 : decode b_Mo_edge 184 = .ok (.iconst 2, 1) := by decide +kernel
theorem d_Mo_edge_185 : decode b_Mo_edge 185 = .ok (.invokevirtual 132, 3) := by decide +kernel
theorem d_Mo_edge_188 : decode b_Mo_edge 188 = .ok (.ireturn, 1) := by decide +kernel
theorem d_Mo_edge_189 : decode b_Mo_edge 189 = .ok (.aload_n 0, 1) := by decide +kernel
theorem d_Mo_edge_190 : decode b_Mo_edge 190 = .ok (.getfield 138, 3) := by decide +kernel
theorem d_Mo_edge_193 : decode b_Mo_edge 193 = .ok (.istore 5, 2) := by decide +kernel
theorem d_Mo_edge_195 : decode b_Mo_edge 195 = .ok (.aload_n 0, 1) := by decide +kernel
theorem d_Mo_edge_196 : decode b_Mo_edge 196 = .ok (.getfield 13, 3) := by decide +kernel
theorem d_Mo_edge_199 : decode b_Mo_edge 199 = .ok (.iload 5, 2) := by decide +kernel
theorem d_Mo_edge_201 : decode b_Mo_edge 201 = .ok (.aload_n 0, 1) := by decide +kernel
theorem d_Mo_edge_202 : decode b_Mo_edge 202 = .ok (.iconst 0, 1) := by decide +kernel
theorem d_Mo_edge_203 : decode b_Mo_edge 203 = .ok (.invokevirtual 91, 3) := by decide +kernel
theorem d_Mo_edge_206 : decode b_Mo_edge 206 = .ok (.bipush 65, 2) := by decide +kernel
theorem d_Mo_edge_208 : decode b_Mo_edge 208 = .ok (.isub, 1) := by decide +kernel
theorem d_Mo_edge_209 : decode b_Mo_edge 209 = .ok (.iastore, 1) := by decide +kernel
theorem d_Mo_edge_210 : decode b_Mo_edge 210 = .ok (.aload_n 0, 1) := by decide +kernel
theorem d_Mo_edge_211 : decode b_Mo_edge 211 = .ok (.getfield 16, 3) := by decide +kernel
theorem d_Mo_edge_214 : decode b_Mo_edge 214 = .ok (.iload 5, 2) := by decide +kernel
theorem d_Mo_edge_216 : decode b_Mo_edge 216 = .ok (.aload_n 0, 1) := by decide +kernel
theorem d_Mo_edge_217 : decode b_Mo_edge 217 = .ok (.iconst 1, 1) := by decide +kernel
theorem d_Mo_edge_218 : decode b_Mo_edge 218 = .ok (.invokevirtual 91, 3) := by decide +kernel
theorem d_Mo_edge_221 : decode b_Mo_edge 221 = .ok (.bipush 65, 2) := by decide +kernel
theorem d_Mo_edge_223 : decode b_Mo_edge 223 = .ok (.isub, 1) := by decide +kernel
theorem d_Mo_edge_224 : decode b_Mo_edge 224 = .ok (.iastore, 1) := by decide +kernel
theorem d_Mo_edge_225 : decode b_Mo_edge 225 = .ok (.aload_n 0, 1) := by decide +kernel
theorem d_Mo_edge_226 : decode b_Mo_edge 226 = .ok (.getfield 19, 3) := by decide +kernel
theorem d_Mo_edge_229 : decode b_Mo_edge 229 = .ok (.iload 5, 2) := by decide +kernel
theorem d_Mo_edge_231 : decode b_Mo_edge 231 = .ok (.iload_n 3, 1) := by decide +kernel
theorem d_Mo_edge_232 : decode b_Mo_edge 232 = .ok (.ifCond .eq 7, 3) := by decide +kernel
theorem d_Mo_edge_235 : decode b_Mo_edge 235 = .ok (.iconst 0, 1) := by decide +kernel
theorem d_Mo_edge_236 : decode b_Mo_edge 236 = .ok (.goto 13, 3) := by decide +kernel
theorem d_Mo_edge_239 : decode b_Mo_edge 239 = .ok (.iload 4, 2) := by decide +kernel
theorem d_Mo_edge_241 : decode b_Mo_edge 241 = .ok (.ifCond .eq 7, 3) := by decide +kernel
theorem d_Mo_edge_244 : decode b_Mo_edge 244 = .ok (.iconst 1, 1) := by decide +kernel
theorem d_Mo_edge_245 : decode b_Mo_edge 245 = .ok (.goto 4, 3) := by decide +kernel
theorem d_Mo_edge_248 : decode b_Mo_edge 248 = .ok (.iconst 2, 1) := by decide +kernel
theorem d_Mo_edge_249 : decode b_Mo_edge 249 = .ok (.iastore, 1) := by decide +kernel
theorem d_Mo_edge_250 : decode b_Mo_edge 250 = .ok (.aload_n 0, 1) := by decide +kernel
theorem d_Mo_edge_251 : decode b_Mo_edge 251 = .ok (.getfield 22, 3) := by decide +kernel
theorem d_Mo_edge_254 : decode b_Mo_edge 254 = .ok (.iload 5, 2) := by decide +kernel
theorem d_Mo_edge_256 : decode b_Mo_edge 256 = .ok (.iload_n 1, 1) := by decide +kernel
theorem d_Mo_edge_257 : decode b_Mo_edge 257 = .ok (.ifCond .eq 14, 3) := by decide +kernel
theorem d_Mo_edge_260 : decode b_Mo_edge 260 = .ok (.aload_n 0, 1) := by decide +kernel
theorem d_Mo_edge_261 : decode b_Mo_edge 261 = .ok (.iconst 3, 1) := by decide +kernel
theorem d_Mo_edge_262 : decode b_Mo_edge 262 = .ok (.invokevirtual 91, 3) := by decide +kernel
theorem d_Mo_edge_265 : decode b_Mo_edge 265 = .ok (.bipush 120, 2) := by decide +kernel
theorem d_Mo_edge_267 : decode b_Mo_edge 267 = .ok (.isub, 1) := by decide +kernel
theorem d_Mo_edge_268 : decode b_Mo_edge 268 = .ok (.goto 4, 3) := by decide +kernel
theorem d_Mo_edge_271 : decode b_Mo_edge 271 = .ok (.iconst 0, 1) := by decide +kernel
theorem d_Mo_edge_272 : decode b_Mo_edge 272 = .ok (.iastore, 1) := by decide +kernel
theorem d_Mo_edge_273 : decode b_Mo_edge 273 = .ok (.bipush 24, 2) := by decide +kernel
theorem d_Mo_edge_275 : decode b_Mo_edge 275 = .ok (.iload 5, 2) := by decide +kernel
theorem d_Mo_edge_277 : decode b_Mo_edge 277 = .ok (.imul, 1) := by decide +kernel
theorem d_Mo_edge_278 : decode b_Mo_edge 278 = .ok (.istore 6, 2) := by decide +kernel
theorem d_Mo_edge_280 : decode b_Mo_edge 280 = .ok (.iload 6, 2) := by decide +kernel
theorem d_Mo_edge_282 : decode b_Mo_edge 282 = .ok (.bipush 24, 2) := by decide +kernel
theorem d_Mo_edge_284 : decode b_Mo_edge 284 = .ok (.iload 5, 2) := by decide +kernel
theorem d_Mo_edge_286 : decode b_Mo_edge 286 = .ok (.imul, 1) := by decide +kernel
theorem d_Mo_edge_287 : decode b_Mo_edge 287 = .ok (.bipush 24, 2) := by decide +kernel
theorem d_Mo_edge_289 : decode b_Mo_edge 289 = .ok (.iadd, 1) := by decide +kernel
theorem d_Mo_edge_290 : decode b_Mo_edge 290 = .ok (.if_icmp .ge 17, 3) := by decide +kernel
theorem d_Mo_edge_293 : decode b_Mo_edge 293 = .ok (.aload_n 0, 1) := by decide +kernel
theorem d_Mo_edge_294 : decode b_Mo_edge 294 = .ok (.getfield 25, 3) := by decide +kernel
theorem d_Mo_edge_297 : decode b_Mo_edge 297 = .ok (.iload 6, 2) := by decide +kernel
theorem d_Mo_edge_299 : decode b_Mo_edge 299 = .ok (.lconst 0, 1) := by decide +kernel
theorem d_Mo_edge_300 : decode b_Mo_edge 300 = .ok (.lastore, 1) := by decide +kernel
theorem d_Mo_edge_301 : decode b_Mo_edge 301 = .ok (.iinc 6 1, 3) := by decide +kernel
theorem d_Mo_edge_304 : decode b_Mo_edge 304 = .ok (.goto (-24), 3) := by decide +kernel
theorem d_Mo_edge_307 : decode b_Mo_edge 307 = .ok (.iconst 0, 1) := by decide +kernel
theorem d_Mo_edge_308 : decode b_Mo_edge 308 = .ok (.istore 6, 2) := by decide +kernel
theorem d_Mo_edge_310 : decode b_Mo_edge 310 = .ok (.iload 6, 2) := by decide +kernel
theorem d_Mo_edge_312 : decode b_Mo_edge 312 = .ok (.aload_n 0, 1) := by decide +kernel
theorem d_Mo_edge_313 : decode b_Mo_edge 313 = .ok (.getfield 82, 3) := by decide +kernel
theorem d_Mo_edge_316 : decode b_Mo_edge 316 = .ok (.if_icmp .ge 109, 3) := by decide +kernel
theorem d_Mo_edge_319 : decode b_Mo_edge 319 = .ok (.iload 4, 2) := by decide +kernel
theorem d_Mo_edge_321 : decode b_Mo_edge 321 = .ok (.ifCond .ne 104, 3) := by decide +kernel
theorem d_Mo_edge_324 : decode b_Mo_edge 324 = .ok (.iconst 0, 1) := by decide +kernel
theorem d_Mo_edge_325 : decode b_Mo_edge 325 = .ok (.istore 7, 2) := by decide +kernel
theorem d_Mo_edge_327 : decode b_Mo_edge 327 = .ok (.iload_n 3, 1) := by decide +kernel
theorem d_Mo_edge_328 : decode b_Mo_edge 328 = .ok (.ifCond .eq 19, 3) := by decide +kernel
theorem d_Mo_edge_331 : decode b_Mo_edge 331 = .ok (.aload_n 0, 1) := by decide +kernel
theorem d_Mo_edge_332 : decode b_Mo_edge 332 = .ok (.iconst 5, 1) := by decide +kernel
theorem d_Mo_edge_333 : decode b_Mo_edge 333 = .ok (.aload_n 0, 1) := by decide +kernel
theorem d_Mo_edge_334 : decode b_Mo_edge 334 = .ok (.getfield 88, 3) := by decide +kernel
theorem d_Mo_edge_337 : decode b_Mo_edge 337 = .ok (.iload 6, 2) := by decide +kernel
theorem d_Mo_edge_339 : decode b_Mo_edge 339 = .ok (.invokevirtual 119, 3) := by decide +kernel
theorem d_Mo_edge_342 : decode b_Mo_edge 342 = .ok (.istore 7, 2) := by decide +kernel
theorem d_Mo_edge_344 : decode b_Mo_edge 344 = .ok (.goto 21, 3) := by decide +kernel
theorem d_Mo_edge_347 : decode b_Mo_edge 347 = .ok (.aload_n 0, 1) := by decide +kernel
theorem d_Mo_edge_348 : decode b_Mo_edge 348 = .ok (.iconst 3, 1) := by decide +kernel
theorem d_Mo_edge_349 : decode b_Mo_edge 349 = .ok (.iload_n 2, 1) := by decide +kernel
theorem d_Mo_edge_350 : decode b_Mo_edge 350 = .ok (.iload 6, 2) := by decide +kernel
theorem d_Mo_edge_352 : decode b_Mo_edge 352 = .ok (.invokevirtual 141, 3) := by decide +kernel
theorem d_Mo_edge_355 : decode b_Mo_edge 355 = .ok (.ifCond .eq 7, 3) := by decide +kernel
theorem d_Mo_edge_358 : decode b_Mo_edge 358 = .ok (.iconst 1, 1) := by decide +kernel
theorem d_Mo_edge_359 : decode b_Mo_edge 359 = .ok (.goto 4, 3) := by decide +kernel
theorem d_Mo_edge_362 : decode b_Mo_edge 362 = .ok (.iconst 0, 1) := by decide +kernel
theorem d_Mo_edge_363 : decode b_Mo_edge 363 = .ok (.istore 7, 2) := by decide +kernel
theorem d_Mo_edge_365 : decode b_Mo_edge 365 = .ok (.iconst 0, 1) := by decide +kernel
theorem d_Mo_edge_366 : decode b_Mo_edge 366 = .ok (.istore 8, 2) := by decide +kernel
theorem d_Mo_edge_368 : decode b_Mo_edge 368 = .ok (.iload 8, 2) := by decide +kernel
theorem d_Mo_edge_370 : decode b_Mo_edge 370 = .ok (.iconst 3, 1) := by decide +kernel
theorem d_Mo_edge_371 : decode b_Mo_edge 371 = .ok (.if_icmp .ge 48, 3) := by decide +kernel
theorem d_Mo_edge_374 : decode b_Mo_edge 374 = .ok (.aload_n 0, 1) := by decide +kernel
theorem d_Mo_edge_375 : decode b_Mo_edge 375 = .ok (.getfield 25, 3) := by decide +kernel
theorem d_Mo_edge_378 : decode b_Mo_edge 378 = .ok (.bipush 24, 2) := by decide +kernel
theorem d_Mo_edge_380 : decode b_Mo_edge 380 = .ok (.iload 5, 2) := by decide +kernel
theorem d_Mo_edge_382 : decode b_Mo_edge 382 = .ok (.imul, 1) := by decide +kernel
theorem d_Mo_edge_383 : decode b_Mo_edge 383 = .ok (.bipush 8, 2) := by decide +kernel
theorem d_Mo_edge_385 : decode b_Mo_edge 385 = .ok (.iload 8, 2) := by decide +kernel
theorem d_Mo_edge_387 : decode b_Mo_edge 387 = .ok (.imul, 1) := by decide +kernel
theorem d_Mo_edge_388 : decode b_Mo_edge 388 = .ok (.iadd, 1) := by decide +kernel
theorem d_Mo_edge_389 : decode b_Mo_edge 389 = .ok (.iload 6, 2) := by decide +kernel
theorem d_Mo_edge_391 : decode b_Mo_edge 391 = .ok (.bipush 64, 2) := by decide +kernel
theorem d_Mo_edge_393 : decode b_Mo_edge 393 = .ok (.idiv, 1) := by decide +kernel
theorem d_Mo_edge_394 : decode b_Mo_edge 394 = .ok (.iadd, 1) := by decide +kernel
theorem d_Mo_edge_395 : decode b_Mo_edge 395 = .ok (.dup2, 1) := by decide +kernel
theorem d_Mo_edge_396 : decode b_Mo_edge 396 = .ok (.laload, 1) := by decide +kernel
theorem d_Mo_edge_397 : decode b_Mo_edge 397 = .ok (.iload 7, 2) := by decide +kernel
theorem d_Mo_edge_399 : decode b_Mo_edge 399 = .ok (.iload 8, 2) := by decide +kernel
theorem d_Mo_edge_401 : decode b_Mo_edge 401 = .ok (.ishr, 1) := by decide +kernel
theorem d_Mo_edge_402 : decode b_Mo_edge 402 = .ok (.iconst 1, 1) := by decide +kernel
theorem d_Mo_edge_403 : decode b_Mo_edge 403 = .ok (.iand, 1) := by decide +kernel
theorem d_Mo_edge_404 : decode b_Mo_edge 404 = .ok (.i2l, 1) := by decide +kernel
theorem d_Mo_edge_405 : decode b_Mo_edge 405 = .ok (.iload 6, 2) := by decide +kernel
theorem d_Mo_edge_407 : decode b_Mo_edge 407 = .ok (.bipush 64, 2) := by decide +kernel
theorem d_Mo_edge_409 : decode b_Mo_edge 409 = .ok (.irem, 1) := by decide +kernel
theorem d_Mo_edge_410 : decode b_Mo_edge 410 = .ok (.lshl, 1) := by decide +kernel
theorem d_Mo_edge_411 : decode b_Mo_edge 411 = .ok (.lor, 1) := by decide +kernel
theorem d_Mo_edge_412 : decode b_Mo_edge 412 = .ok (.lastore, 1) := by decide +kernel
theorem d_Mo_edge_413 : decode b_Mo_edge 413 = .ok (.iinc 8 1, 3) := by decide +kernel
theorem d_Mo_edge_416 : decode b_Mo_edge 416 = .ok (.goto (-48), 3) := by decide +kernel
theorem d_Mo_edge_419 : decode b_Mo_edge 419 = .ok (.iinc 6 1, 3) := by decide +kernel
theorem d_Mo_edge_422 : decode b_Mo_edge 422 = .ok (.goto (-112), 3) := by decide +kernel
theorem d_Mo_edge_425 : decode b_Mo_edge 425 = .ok (.aload_n 0, 1) := by decide +kernel
theorem d_Mo_edge_426 : decode b_Mo_edge 426 = .ok (.dup, 1) := by decide +kernel
theorem d_Mo_edge_427 : decode b_Mo_edge 427 = .ok (.getfield 138, 3) := by decide +kernel
theorem d_Mo_edge_430 : decode b_Mo_edge 430 = .ok (.iconst 1, 1) := by decide +kernel
theorem d_Mo_edge_431 : decode b_Mo_edge 431 = .ok (.iadd, 1) := by decide +kernel
theorem d_Mo_edge_432 : decode b_Mo_edge 432 = .ok (.putfield 138, 3) := by decide +kernel
theorem d_Mo_edge_435 : decode b_Mo_edge 435 = .ok (.aload_n 0, 1) := by decide +kernel
theorem d_Mo_edge_436 : decode b_Mo_edge 436 = .ok (.iconst 0, 1) := by decide +kernel
theorem d_Mo_edge_437 : decode b_Mo_edge 437 = .ok (.putfield 88, 3) := by decide +kernel
theorem d_Mo_edge_440 : decode b_Mo_edge 440 = .ok (.aload_n 0, 1) := by decide +kernel
theorem d_Mo_edge_441 : decode b_Mo_edge 441 = .ok (.invokevirtual 145, 3) := by decide +kernel
theorem d_Mo_edge_444 : decode b_Mo_edge 444 = .ok (.iload 5, 2) := by decide +kernel
theorem d_Mo_edge_446 : decode b_Mo_edge 446 = .ok (.ireturn, 1) := by decide +kernel
theorem d_Mo_at_0 : decode b_Mo_at 0 = .ok (.iload_n 1, 1) := by decide +kernel
theorem d_Mo_at_1 : decode b_Mo_at 1 = .ok (.aload_n 0, 1) := by decide +kernel
theorem d_Mo_at_2 : decode b_Mo_at 2 = .ok (.getfield 88, 3) := by decide +kernel
theorem d_Mo_at_5 : decode b_Mo_at 5 = .ok (.if_icmp .ge 12, 3) := by decide +kernel
theorem d_Mo_at_8 : decode b_Mo_at 8 = .ok (.aload_n 0, 1) := by decide +kernel
theorem d_Mo_at_9 : decode b_Mo_at 9 = .ok (.getfield 7, 3) := by decide +kernel
theorem d_Mo_at_12 : decode b_Mo_at 12 = .ok (.iload_n 1, 1) := by decide +kernel
theorem d_Mo_at_13 : decode b_Mo_at 13 = .ok (.iaload, 1) := by decide +kernel
theorem d_Mo_at_14 : decode b_Mo_at 14 = .ok (.goto 4, 3) := by decide +kernel
theorem d_Mo_at_17 : decode b_Mo_at 17 = .ok (.iconst 0, 1) := by decide +kernel
theorem d_Mo_at_18 : decode b_Mo_at 18 = .ok (.ireturn, 1) := by decide +kernel
theorem d_Mo_isLocation_0 : decode b_Mo_isLocation 0 = .ok (.iload_n 0, 1) := by decide +kernel
theorem d_Mo_isLocation_1 : decode b_Mo_isLocation 1 = .ok (.bipush 65, 2) := by decide +kernel
theorem d_Mo_isLocation_3 : decode b_Mo_isLocation 3 = .ok (.if_icmp .lt 13, 3) := by decide +kernel
theorem d_Mo_isLocation_6 : decode b_Mo_isLocation 6 = .ok (.iload_n 0, 1) := by decide +kernel
theorem d_Mo_isLocation_7 : decode b_Mo_isLocation 7 = .ok (.bipush 76, 2) := by decide +kernel
theorem d_Mo_isLocation_9 : decode b_Mo_isLocation 9 = .ok (.if_icmp .gt 7, 3) := by decide +kernel
theorem d_Mo_isLocation_12 : decode b_Mo_isLocation 12 = .ok (.iconst 1, 1) := by decide +kernel
theorem d_Mo_isLocation_13 : decode b_Mo_isLocation 13 = .ok (.goto 4, 3) := by decide +kernel
theorem d_Mo_isLocation_16 : decode b_Mo_isLocation 16 = .ok (.iconst 0, 1) := by decide +kernel
theorem d_Mo_isLocation_17 : decode b_Mo_isLocation 17 = .ok (.ireturn, 1) := by decide +kernel
theorem d_Mo_fail_0 : decode b_Mo_fail 0 = .ok (.aload_n 0, 1) := by decide +kernel
theorem d_Mo_fail_1 : decode b_Mo_fail 1 = .ok (.iload_n 1, 1) := by decide +kernel
theorem d_Mo_fail_2 : decode b_Mo_fail 2 = .ok (.putfield 85, 3) := by decide +kernel
theorem d_Mo_fail_5 : decode b_Mo_fail 5 = .ok (.iconst 0, 1) := by decide +kernel
theorem d_Mo_fail_6 : decode b_Mo_fail 6 = .ok (.ireturn, 1) := by decide +kernel
theorem d_Mo_isVariable_0 : decode b_Mo_isVariable 0 = .ok (.iload_n 0, 1) := by decide +kernel
theorem d_Mo_isVariable_1 : decode b_Mo_isVariable 1 = .ok (.bipush 120, 2) := by decide +kernel
theorem d_Mo_isVariable_3 : decode b_Mo_isVariable 3 = .ok (.if_icmp .lt 13, 3) := by decide +kernel
theorem d_Mo_isVariable_6 : decode b_Mo_isVariable 6 = .ok (.iload_n 0, 1) := by decide +kernel
theorem d_Mo_isVariable_7 : decode b_Mo_isVariable 7 = .ok (.bipush 122, 2) := by decide +kernel
theorem d_Mo_isVariable_9 : decode b_Mo_isVariable 9 = .ok (.if_icmp .gt 7, 3) := by decide +kernel
theorem d_Mo_isVariable_12 : decode b_Mo_isVariable 12 = .ok (.iconst 1, 1) := by decide +kernel
theorem d_Mo_isVariable_13 : decode b_Mo_isVariable 13 = .ok (.goto 4, 3) := by decide +kernel
theorem d_Mo_isVariable_16 : decode b_Mo_isVariable 16 = .ok (.iconst 0, 1) := by decide +kernel
theorem d_Mo_isVariable_17 : decode b_Mo_isVariable 17 = .ok (.ireturn, 1) := by decide +kernel
theorem d_Mo_relationAt_0 : decode b_Mo_relationAt 0 = .ok (.aload_n 0, 1) := by decide +kernel
theorem d_Mo_relationAt_1 : decode b_Mo_relationAt 1 = .ok (.iload_n 1, 1) := by decide +kernel
theorem d_Mo_relationAt_2 : decode b_Mo_relationAt 2 = .ok (.invokevirtual 102, 3) := by decide +kernel
theorem d_Mo_relationAt_5 : decode b_Mo_relationAt 5 = .ok (.istore_n 2, 1) := by decide +kernel
theorem d_Mo_relationAt_6 : decode b_Mo_relationAt 6 = .ok (.iload_n 2, 1) := by decide +kernel
theorem d_Mo_relationAt_7 : decode b_Mo_relationAt 7 = .ok (.ifCond .lt 14, 3) := by decide +kernel
theorem d_Mo_relationAt_10 : decode b_Mo_relationAt 10 = .ok (.aload_n 0, 1) := by decide +kernel
theorem d_Mo_relationAt_11 : decode b_Mo_relationAt 11 = .ok (.iload_n 2, 1) := by decide +kernel
theorem d_Mo_relationAt_12 : decode b_Mo_relationAt 12 = .ok (.invokevirtual 91, 3) := by decide +kernel
theorem d_Mo_relationAt_15 : decode b_Mo_relationAt 15 = .ok (.invokestatic 105, 3) := by decide +kernel
theorem d_Mo_relationAt_18 : decode b_Mo_relationAt 18 = .ok (.ifCond .ne 5, 3) := by decide +kernel
theorem d_Mo_relationAt_21 : decode b_Mo_relationAt 21 = .ok (.iconst (-1), 1) := by decide +kernel
theorem d_Mo_relationAt_22 : decode b_Mo_relationAt 22 = .ok (.ireturn, 1) := by decide +kernel
theorem d_Mo_relationAt_23 : decode b_Mo_relationAt 23 = .ok (.aload_n 0, 1) := by decide +kernel
theorem d_Mo_relationAt_24 : decode b_Mo_relationAt 24 = .ok (.iload_n 2, 1) := by decide +kernel
theorem d_Mo_relationAt_25 : decode b_Mo_relationAt 25 = .ok (.iconst 1, 1) := by decide +kernel
theorem d_Mo_relationAt_26 : decode b_Mo_relationAt 26 = .ok (.iadd, 1) := by decide +kernel
theorem d_Mo_relationAt_27 : decode b_Mo_relationAt 27 = .ok (.invokevirtual 102, 3) := by decide +kernel
theorem d_Mo_relationAt_30 : decode b_Mo_relationAt 30 = .ok (.aload_n 0, 1) := by decide +kernel
theorem d_Mo_relationAt_31 : decode b_Mo_relationAt 31 = .ok (.getfield 88, 3) := by decide +kernel
theorem d_Mo_relationAt_34 : decode b_Mo_relationAt 34 = .ok (.if_icmp .ne 7, 3) := by decide +kernel
theorem d_Mo_relationAt_37 : decode b_Mo_relationAt 37 = .ok (.iload_n 2, 1) := by decide +kernel
theorem d_Mo_relationAt_38 : decode b_Mo_relationAt 38 = .ok (.goto 4, 3) := by decide +kernel
theorem d_Mo_relationAt_41 : decode b_Mo_relationAt 41 = .ok (.iconst (-1), 1) := by decide +kernel
theorem d_Mo_relationAt_42 : decode b_Mo_relationAt 42 = .ok (.ireturn, 1) := by decide +kernel
theorem d_Mo_termEnd_0 : decode b_Mo_termEnd 0 = .ok (.iconst 0, 1) := by decide +kernel
theorem d_Mo_termEnd_1 : decode b_Mo_termEnd 1 = .ok (.istore_n 2, 1) := by decide +kernel
theorem d_Mo_termEnd_2 : decode b_Mo_termEnd 2 = .ok (.iconst 1, 1) := by decide +kernel
theorem d_Mo_termEnd_3 : decode b_Mo_termEnd 3 = .ok (.istore_n 3, 1) := by decide +kernel
theorem d_Mo_termEnd_4 : decode b_Mo_termEnd 4 = .ok (.iload_n 1, 1) := by decide +kernel
theorem d_Mo_termEnd_5 : decode b_Mo_termEnd 5 = .ok (.istore 4, 2) := by decide +kernel
theorem d_Mo_termEnd_7 : decode b_Mo_termEnd 7 = .ok (.iconst 1, 1) := by decide +kernel
theorem d_Mo_termEnd_8 : decode b_Mo_termEnd 8 = .ok (.istore 5, 2) := by decide +kernel
theorem d_Mo_termEnd_10 : decode b_Mo_termEnd 10 = .ok (.iload 4, 2) := by decide +kernel
theorem d_Mo_termEnd_12 : decode b_Mo_termEnd 12 = .ok (.aload_n 0, 1) := by decide +kernel
theorem d_Mo_termEnd_13 : decode b_Mo_termEnd 13 = .ok (.getfield 88, 3) := by decide +kernel
theorem d_Mo_termEnd_16 : decode b_Mo_termEnd 16 = .ok (.if_icmp .ge 121, 3) := by decide +kernel
theorem d_Mo_termEnd_19 : decode b_Mo_termEnd 19 = .ok (.iload 5, 2) := by decide +kernel
theorem d_Mo_termEnd_21 : decode b_Mo_termEnd 21 = .ok (.ifCond .eq 116, 3) := by decide +kernel
theorem d_Mo_termEnd_24 : decode b_Mo_termEnd 24 = .ok (.aload_n 0, 1) := by decide +kernel
theorem d_Mo_termEnd_25 : decode b_Mo_termEnd 25 = .ok (.iload 4, 2) := by decide +kernel
theorem d_Mo_termEnd_27 : decode b_Mo_termEnd 27 = .ok (.invokevirtual 91, 3) := by decide +kernel
theorem d_Mo_termEnd_30 : decode b_Mo_termEnd 30 = .ok (.istore 6, 2) := by decide +kernel
theorem d_Mo_termEnd_32 : decode b_Mo_termEnd 32 = .ok (.iload_n 3, 1) := by decide +kernel
theorem d_Mo_termEnd_33 : decode b_Mo_termEnd 33 = .ok (.ifCond .eq 30, 3) := by decide +kernel
theorem d_Mo_termEnd_36 : decode b_Mo_termEnd 36 = .ok (.iload 6, 2) := by decide +kernel
theorem d_Mo_termEnd_38 : decode b_Mo_termEnd 38 = .ok (.bipush 48, 2) := by decide +kernel
theorem d_Mo_termEnd_40 : decode b_Mo_termEnd 40 = .ok (.if_icmp .lt 10, 3) := by decide +kernel
theorem d_Mo_termEnd_43 : decode b_Mo_termEnd 43 = .ok (.iload 6, 2) := by decide +kernel
theorem d_Mo_termEnd_45 : decode b_Mo_termEnd 45 = .ok (.bipush 55, 2) := by decide +kernel
theorem d_Mo_termEnd_47 : decode b_Mo_termEnd 47 = .ok (.if_icmp .le 11, 3) := by decide +kernel
theorem d_Mo_termEnd_50 : decode b_Mo_termEnd 50 = .ok (.iload 6, 2) := by decide +kernel
theorem d_Mo_termEnd_52 : decode b_Mo_termEnd 52 = .ok (.invokestatic 95, 3) := by decide +kernel
theorem d_Mo_termEnd_55 : decode b_Mo_termEnd 55 = .ok (.ifCond .eq 8, 3) := by decide +kernel
theorem d_Mo_termEnd_58 : decode b_Mo_termEnd 58 = .ok (.iconst 0, 1) := by decide +kernel
theorem d_Mo_termEnd_59 : decode b_Mo_termEnd 59 = .ok (.istore_n 3, 1) := by decide +kernel
theorem d_Mo_termEnd_60 : decode b_Mo_termEnd 60 = .ok (.goto 66, 3) := by decide +kernel
theorem d_Mo_termEnd_63 : decode b_Mo_termEnd 63 = .ok (.iload_n 3, 1) := by decide +kernel
theorem d_Mo_termEnd_64 : decode b_Mo_termEnd 64 = .ok (.ifCond .eq 21, 3) := by decide +kernel
theorem d_Mo_termEnd_67 : decode b_Mo_termEnd 67 = .ok (.iload 6, 2) := by decide +kernel
theorem d_Mo_termEnd_69 : decode b_Mo_termEnd 69 = .ok (.bipush 40, 2) := by decide +kernel
theorem d_Mo_termEnd_71 : decode b_Mo_termEnd 71 = .ok (.if_icmp .ne 14, 3) := by decide +kernel
theorem d_Mo_termEnd_74 : decode b_Mo_termEnd 74 = .ok (.iload_n 2, 1) := by decide +kernel
theorem d_Mo_termEnd_75 : decode b_Mo_termEnd 75 = .ok (.iconst 4, 1) := by decide +kernel
theorem d_Mo_termEnd_76 : decode b_Mo_termEnd 76 = .ok (.if_icmp .ge 9, 3) := by decide +kernel
theorem d_Mo_termEnd_79 : decode b_Mo_termEnd 79 = .ok (.iinc 2 1, 3) := by decide +kernel
theorem d_Mo_termEnd_82 : decode b_Mo_termEnd 82 = .ok (.goto 44, 3) := by decide +kernel
theorem d_Mo_termEnd_85 : decode b_Mo_termEnd 85 = .ok (.iload_n 3, 1) := by decide +kernel
theorem d_Mo_termEnd_86 : decode b_Mo_termEnd 86 = .ok (.ifCond .ne 20, 3) := by decide +kernel
theorem d_Mo_termEnd_89 : decode b_Mo_termEnd 89 = .ok (.iload 6, 2) := by decide +kernel
theorem d_Mo_termEnd_91 : decode b_Mo_termEnd 91 = .ok (.bipush 41, 2) := by decide +kernel
theorem d_Mo_termEnd_93 : decode b_Mo_termEnd 93 = .ok (.if_icmp .ne 13, 3) := by decide +kernel
theorem d_Mo_termEnd_96 : decode b_Mo_termEnd 96 = .ok (.iload_n 2, 1) := by decide +kernel
theorem d_Mo_termEnd_97 : decode b_Mo_termEnd 97 = .ok (.ifCond .le 9, 3) := by decide +kernel
theorem d_Mo_termEnd_100 : decode b_Mo_termEnd 100 = .ok (.iinc 2 (-1), 3) := by decide +kernel
theorem d_Mo_termEnd_103 : decode b_Mo_termEnd 103 = .ok (.goto 23, 3) := by decide +kernel
theorem d_Mo_termEnd_106 : decode b_Mo_termEnd 106 = .ok (.iload_n 3, 1) := by decide +kernel
theorem d_Mo_termEnd_107 : decode b_Mo_termEnd 107 = .ok (.ifCond .ne 16, 3) := by decide +kernel
theorem d_Mo_termEnd_110 : decode b_Mo_termEnd 110 = .ok (.iload 6, 2) := by decide +kernel
theorem d_Mo_termEnd_112 : decode b_Mo_termEnd 112 = .ok (.invokestatic 99, 3) := by decide +kernel
theorem d_Mo_termEnd_115 : decode b_Mo_termEnd 115 = .ok (.ifCond .eq 8, 3) := by decide +kernel
theorem d_Mo_termEnd_118 : decode b_Mo_termEnd 118 = .ok (.iconst 1, 1) := by decide +kernel
theorem d_Mo_termEnd_119 : decode b_Mo_termEnd 119 = .ok (.istore_n 3, 1) := by decide +kernel
theorem d_Mo_termEnd_120 : decode b_Mo_termEnd 120 = .ok (.goto 6, 3) := by decide +kernel
theorem d_Mo_termEnd_123 : decode b_Mo_termEnd 123 = .ok (.iconst 0, 1) := by decide +kernel
theorem d_Mo_termEnd_124 : decode b_Mo_termEnd 124 = .ok (.istore 5, 2) := by decide +kernel
theorem d_Mo_termEnd_126 : decode b_Mo_termEnd 126 = .ok (.iload 5, 2) := by decide +kernel
theorem d_Mo_termEnd_128 : decode b_Mo_termEnd 128 = .ok (.ifCond .eq 6, 3) := by decide +kernel
theorem d_Mo_termEnd_131 : decode b_Mo_termEnd 131 = .ok (.iinc 4 1, 3) := by decide +kernel
theorem d_Mo_termEnd_134 : decode b_Mo_termEnd 134 = .ok (.goto (-124), 3) := by decide +kernel
theorem d_Mo_termEnd_137 : decode b_Mo_termEnd 137 = .ok (.iload_n 3, 1) := by decide +kernel
theorem d_Mo_termEnd_138 : decode b_Mo_termEnd 138 = .ok (.ifCond .ne 7, 3) := by decide +kernel
theorem d_Mo_termEnd_141 : decode b_Mo_termEnd 141 = .ok (.iload_n 2, 1) := by decide +kernel
theorem d_Mo_termEnd_142 : decode b_Mo_termEnd 142 = .ok (.ifCond .le 7, 3) := by decide +kernel
theorem d_Mo_termEnd_145 : decode b_Mo_termEnd 145 = .ok (.iconst (-1), 1) := by decide +kernel
theorem d_Mo_termEnd_146 : decode b_Mo_termEnd 146 = .ok (.goto 5, 3) := by decide +kernel
theorem d_Mo_termEnd_149 : decode b_Mo_termEnd 149 = .ok (.iload 4, 2) := by decide +kernel
theorem d_Mo_termEnd_151 : decode b_Mo_termEnd 151 = .ok (.ireturn, 1) := by decide +kernel
theorem d_Mo_isSign_0 : decode b_Mo_isSign 0 = .ok (.iload_n 0, 1) := by decide +kernel
theorem d_Mo_isSign_1 : decode b_Mo_isSign 1 = .ok (.bipush 43, 2) := by decide +kernel
theorem d_Mo_isSign_3 : decode b_Mo_isSign 3 = .ok (.if_icmp .eq 27, 3) := by decide +kernel
theorem d_Mo_isSign_6 : decode b_Mo_isSign 6 = .ok (.iload_n 0, 1) := by decide +kernel
theorem d_Mo_isSign_7 : decode b_Mo_isSign 7 = .ok (.bipush 45, 2) := by decide +kernel
theorem d_Mo_isSign_9 : decode b_Mo_isSign 9 = .ok (.if_icmp .eq 21, 3) := by decide +kernel
theorem d_Mo_isSign_12 : decode b_Mo_isSign 12 = .ok (.iload_n 0, 1) := by decide +kernel
theorem d_Mo_isSign_13 : decode b_Mo_isSign 13 = .ok (.bipush 42, 2) := by decide +kernel
theorem d_Mo_isSign_15 : decode b_Mo_isSign 15 = .ok (.if_icmp .eq 15, 3) := by decide +kernel
theorem d_Mo_isSign_18 : decode b_Mo_isSign 18 = .ok (.iload_n 0, 1) := by decide +kernel
theorem d_Mo_isSign_19 : decode b_Mo_isSign 19 = .ok (.bipush 38, 2) := by decide +kernel
theorem d_Mo_isSign_21 : decode b_Mo_isSign 21 = .ok (.if_icmp .eq 9, 3) := by decide +kernel
theorem d_Mo_isSign_24 : decode b_Mo_isSign 24 = .ok (.iload_n 0, 1) := by decide +kernel
theorem d_Mo_isSign_25 : decode b_Mo_isSign 25 = .ok (.bipush 94, 2) := by decide +kernel
theorem d_Mo_isSign_27 : decode b_Mo_isSign 27 = .ok (.if_icmp .ne 7, 3) := by decide +kernel
theorem d_Mo_isSign_30 : decode b_Mo_isSign 30 = .ok (.iconst 1, 1) := by decide +kernel
theorem d_Mo_isSign_31 : decode b_Mo_isSign 31 = .ok (.goto 4, 3) := by decide +kernel
theorem d_Mo_isSign_34 : decode b_Mo_isSign 34 = .ok (.iconst 0, 1) := by decide +kernel
theorem d_Mo_isSign_35 : decode b_Mo_isSign 35 = .ok (.ireturn, 1) := by decide +kernel
theorem d_Mo_isRelation_0 : decode b_Mo_isRelation 0 = .ok (.iload_n 0, 1) := by decide +kernel
theorem d_Mo_isRelation_1 : decode b_Mo_isRelation 1 = .ok (.bipush 60, 2) := by decide +kernel
theorem d_Mo_isRelation_3 : decode b_Mo_isRelation 3 = .ok (.if_icmp .eq 15, 3) := by decide +kernel
theorem d_Mo_isRelation_6 : decode b_Mo_isRelation 6 = .ok (.iload_n 0, 1) := by decide +kernel
theorem d_Mo_isRelation_7 : decode b_Mo_isRelation 7 = .ok (.bipush 61, 2) := by decide +kernel
theorem d_Mo_isRelation_9 : decode b_Mo_isRelation 9 = .ok (.if_icmp .eq 9, 3) := by decide +kernel
theorem d_Mo_isRelation_12 : decode b_Mo_isRelation 12 = .ok (.iload_n 0, 1) := by decide +kernel
theorem d_Mo_isRelation_13 : decode b_Mo_isRelation 13 = .ok (.bipush 35, 2) := by decide +kernel
theorem d_Mo_isRelation_15 : decode b_Mo_isRelation 15 = .ok (.if_icmp .ne 7, 3) := by decide +kernel
theorem d_Mo_isRelation_18 : decode b_Mo_isRelation 18 = .ok (.iconst 1, 1) := by decide +kernel
theorem d_Mo_isRelation_19 : decode b_Mo_isRelation 19 = .ok (.goto 4, 3) := by decide +kernel
theorem d_Mo_isRelation_22 : decode b_Mo_isRelation 22 = .ok (.iconst 0, 1) := by decide +kernel
theorem d_Mo_isRelation_23 : decode b_Mo_isRelation 23 = .ok (.ireturn, 1) := by decide +kernel
theorem d_Mo_worked_0 : decode b_Mo_worked 0 = .ok (.iconst 0, 1) := by decide +kernel
theorem d_Mo_worked_1 : decode b_Mo_worked 1 = .ok (.istore 4, 2) := by decide +kernel
theorem d_Mo_worked_3 : decode b_Mo_worked 3 = .ok (.aload_n 0, 1) := by decide +kernel
theorem d_Mo_worked_4 : decode b_Mo_worked 4 = .ok (.getfield 73, 3) := by decide +kernel
theorem d_Mo_worked_7 : decode b_Mo_worked 7 = .ok (.iconst 0, 1) := by decide +kernel
theorem d_Mo_worked_8 : decode b_Mo_worked 8 = .ok (.iconst 0, 1) := by decide +kernel
theorem d_Mo_worked_9 : decode b_Mo_worked 9 = .ok (.iastore, 1) := by decide +kernel
theorem d_Mo_worked_10 : decode b_Mo_worked 10 = .ok (.iload_n 1, 1) := by decide +kernel
theorem d_Mo_worked_11 : decode b_Mo_worked 11 = .ok (.istore 5, 2) := by decide +kernel
theorem d_Mo_worked_13 : decode b_Mo_worked 13 = .ok (.iload 5, 2) := by decide +kernel
theorem d_Mo_worked_15 : decode b_Mo_worked 15 = .ok (.iload_n 2, 1) := by decide +kernel
theorem d_Mo_worked_16 : decode b_Mo_worked 16 = .ok (.if_icmp .ge 104, 3) := by decide +kernel
theorem d_Mo_worked_19 : decode b_Mo_worked 19 = .ok (.aload_n 0, 1) := by decide +kernel
theorem d_Mo_worked_20 : decode b_Mo_worked 20 = .ok (.getfield 7, 3) := by decide +kernel
theorem d_Mo_worked_23 : decode b_Mo_worked 23 = .ok (.iload 5, 2) := by decide +kernel
theorem d_Mo_worked_25 : decode b_Mo_worked 25 = .ok (.iaload, 1) := by decide +kernel
theorem d_Mo_worked_26 : decode b_Mo_worked 26 = .ok (.istore 6, 2) := by decide +kernel
theorem d_Mo_worked_28 : decode b_Mo_worked 28 = .ok (.iload 6, 2) := by decide +kernel
theorem d_Mo_worked_30 : decode b_Mo_worked 30 = .ok (.bipush 40, 2) := by decide +kernel
theorem d_Mo_worked_32 : decode b_Mo_worked 32 = .ok (.if_icmp .ne 17, 3) := by decide +kernel
theorem d_Mo_worked_35 : decode b_Mo_worked 35 = .ok (.iinc 4 1, 3) := by decide +kernel
theorem d_Mo_worked_38 : decode b_Mo_worked 38 = .ok (.aload_n 0, 1) := by decide +kernel
theorem d_Mo_worked_39 : decode b_Mo_worked 39 = .ok (.getfield 73, 3) := by decide +kernel
theorem d_Mo_worked_42 : decode b_Mo_worked 42 = .ok (.iload 4, 2) := by decide +kernel
theorem d_Mo_worked_44 : decode b_Mo_worked 44 = .ok (.iconst 0, 1) := by decide +kernel
theorem d_Mo_worked_45 : decode b_Mo_worked 45 = .ok (.iastore, 1) := by decide +kernel
theorem d_Mo_worked_46 : decode b_Mo_worked 46 = .ok (.goto 68, 3) := by decide +kernel
theorem d_Mo_worked_49 : decode b_Mo_worked 49 = .ok (.iload 6, 2) := by decide +kernel
theorem d_Mo_worked_51 : decode b_Mo_worked 51 = .ok (.bipush 41, 2) := by decide +kernel
theorem d_Mo_worked_53 : decode b_Mo_worked 53 = .ok (.if_icmp .ne 24, 3) := by decide +kernel
theorem d_Mo_worked_56 : decode b_Mo_worked 56 = .ok (.iinc 4 (-1), 3) := by decide +kernel
theorem d_Mo_worked_59 : decode b_Mo_worked 59 = .ok (.aload_n 0, 1) := by decide +kernel
theorem d_Mo_worked_60 : decode b_Mo_worked 60 = .ok (.iload 4, 2) := by decide +kernel
theorem d_Mo_worked_62 : decode b_Mo_worked 62 = .ok (.aload_n 0, 1) := by decide +kernel
theorem d_Mo_worked_63 : decode b_Mo_worked 63 = .ok (.getfield 70, 3) := by decide +kernel
theorem d_Mo_worked_66 : decode b_Mo_worked 66 = .ok (.iload 4, 2) := by decide +kernel
theorem d_Mo_worked_68 : decode b_Mo_worked 68 = .ok (.iconst 1, 1) := by decide +kernel
theorem d_Mo_worked_69 : decode b_Mo_worked 69 = .ok (.iadd, 1) := by decide +kernel
theorem d_Mo_worked_70 : decode b_Mo_worked 70 = .ok (.iaload, 1) := by decide +kernel
theorem d_Mo_worked_71 : decode b_Mo_worked 71 = .ok (.invokevirtual 112, 3) := by decide +kernel
theorem d_Mo_worked_74 : decode b_Mo_worked 74 = .ok (.goto 40, 3) := by decide +kernel
theorem d_Mo_worked_77 : decode b_Mo_worked 77 = .ok (.iload 6, 2) := by decide +kernel
theorem d_Mo_worked_79 : decode b_Mo_worked 79 = .ok (.invokestatic 99, 3) := by decide +kernel
theorem d_Mo_worked_82 : decode b_Mo_worked 82 = .ok (.ifCond .eq 15, 3) := by decide +kernel
theorem d_Mo_worked_85 : decode b_Mo_worked 85 = .ok (.aload_n 0, 1) := by decide +kernel
theorem d_Mo_worked_86 : decode b_Mo_worked 86 = .ok (.getfield 73, 3) := by decide +kernel
theorem d_Mo_worked_89 : decode b_Mo_worked 89 = .ok (.iload 4, 2) := by decide +kernel
theorem d_Mo_worked_91 : decode b_Mo_worked 91 = .ok (.iload 6, 2) := by decide +kernel
theorem d_Mo_worked_93 : decode b_Mo_worked 93 = .ok (.iastore, 1) := by decide +kernel
theorem d_Mo_worked_94 : decode b_Mo_worked 94 = .ok (.goto 20, 3) := by decide +kernel
theorem d_Mo_worked_97 : decode b_Mo_worked 97 = .ok (.aload_n 0, 1) := by decide +kernel
theorem d_Mo_worked_98 : decode b_Mo_worked 98 = .ok (.iload 6, 2) := by decide +kernel
theorem d_Mo_worked_100 : decode b_Mo_worked 100 = .ok (.iload_n 3, 1) := by decide +kernel
theorem d_Mo_worked_101 : decode b_Mo_worked 101 = .ok (.invokevirtual 116, 3) := by decide +kernel
theorem d_Mo_worked_104 : decode b_Mo_worked 104 = .ok (.istore 7, 2) := by decide +kernel
theorem d_Mo_worked_106 : decode b_Mo_worked 106 = .ok (.aload_n 0, 1) := by decide +kernel
theorem d_Mo_worked_107 : decode b_Mo_worked 107 = .ok (.iload 4, 2) := by decide +kernel
theorem d_Mo_worked_109 : decode b_Mo_worked 109 = .ok (.iload 7, 2) := by decide +kernel
theorem d_Mo_worked_111 : decode b_Mo_worked 111 = .ok (.invokevirtual 112, 3) := by decide +kernel
theorem d_Mo_worked_114 : decode b_Mo_worked 114 = .ok (.iinc 5 1, 3) := by decide +kernel
theorem d_Mo_worked_117 : decode b_Mo_worked 117 = .ok (.goto (-104), 3) := by decide +kernel
theorem d_Mo_worked_120 : decode b_Mo_worked 120 = .ok (.aload_n 0, 1) := by decide +kernel
theorem d_Mo_worked_121 : decode b_Mo_worked 121 = .ok (.getfield 70, 3) := by decide +kernel
theorem d_Mo_worked_124 : decode b_Mo_worked 124 = .ok (.iconst 0, 1) := by decide +kernel
theorem d_Mo_worked_125 : decode b_Mo_worked 125 = .ok (.iaload, 1) := by decide +kernel
theorem d_Mo_worked_126 : decode b_Mo_worked 126 = .ok (.ireturn, 1) := by decide +kernel
theorem d_Mo_join_0 : decode b_Mo_join 0 = .ok (.aload_n 0, 1) := by decide +kernel
theorem d_Mo_join_1 : decode b_Mo_join 1 = .ok (.getfield 70, 3) := by decide +kernel
theorem d_Mo_join_4 : decode b_Mo_join 4 = .ok (.iload_n 1, 1) := by decide +kernel
theorem d_Mo_join_5 : decode b_Mo_join 5 = .ok (.iaload, 1) := by decide +kernel
theorem d_Mo_join_6 : decode b_Mo_join 6 = .ok (.istore_n 3, 1) := by decide +kernel
theorem d_Mo_join_7 : decode b_Mo_join 7 = .ok (.aload_n 0, 1) := by decide +kernel
theorem d_Mo_join_8 : decode b_Mo_join 8 = .ok (.getfield 73, 3) := by decide +kernel
theorem d_Mo_join_11 : decode b_Mo_join 11 = .ok (.iload_n 1, 1) := by decide +kernel
theorem d_Mo_join_12 : decode b_Mo_join 12 = .ok (.iaload, 1) := by decide +kernel
theorem d_Mo_join_13 : decode b_Mo_join 13 = .ok (.istore 4, 2) := by decide +kernel
theorem d_Mo_join_15 : decode b_Mo_join 15 = .ok (.aload_n 0, 1) := by decide +kernel
theorem d_Mo_join_16 : decode b_Mo_join 16 = .ok (.getfield 70, 3) := by decide +kernel
theorem d_Mo_join_19 : decode b_Mo_join 19 = .ok (.iload_n 1, 1) := by decide +kernel
theorem d_Mo_join_20 : decode b_Mo_join 20 = .ok (.iload 4, 2) := by decide +kernel
theorem d_Mo_join_22 : decode b_Mo_join 22 = .ok (.bipush 43, 2) := by decide +kernel
theorem d_Mo_join_24 : decode b_Mo_join 24 = .ok (.if_icmp .ne 9, 3) := by decide +kernel
theorem d_Mo_join_27 : decode b_Mo_join 27 = .ok (.iload_n 3, 1) := by decide +kernel
theorem d_Mo_join_28 : decode b_Mo_join 28 = .ok (.iload_n 2, 1) := by decide +kernel
theorem d_Mo_join_29 : decode b_Mo_join 29 = .ok (.iadd, 1) := by decide +kernel
theorem d_Mo_join_30 : decode b_Mo_join 30 = .ok (.goto 56, 3) := by decide +kernel
theorem d_Mo_join_33 : decode b_Mo_join 33 = .ok (.iload 4, 2) := by decide +kernel
theorem d_Mo_join_35 : decode b_Mo_join 35 = .ok (.bipush 45, 2) := by decide +kernel
theorem d_Mo_join_37 : decode b_Mo_join 37 = .ok (.if_icmp .ne 9, 3) := by decide +kernel
theorem d_Mo_join_40 : decode b_Mo_join 40 = .ok (.iload_n 3, 1) := by decide +kernel
theorem d_Mo_join_41 : decode b_Mo_join 41 = .ok (.iload_n 2, 1) := by decide +kernel
theorem d_Mo_join_42 : decode b_Mo_join 42 = .ok (.isub, 1) := by decide +kernel
theorem d_Mo_join_43 : decode b_Mo_join 43 = .ok (.goto 43, 3) := by decide +kernel
theorem d_Mo_join_46 : decode b_Mo_join 46 = .ok (.iload 4, 2) := by decide +kernel
theorem d_Mo_join_48 : decode b_Mo_join 48 = .ok (.bipush 42, 2) := by decide +kernel
theorem d_Mo_join_50 : decode b_Mo_join 50 = .ok (.if_icmp .ne 9, 3) := by decide +kernel
theorem d_Mo_join_53 : decode b_Mo_join 53 = .ok (.iload_n 3, 1) := by decide +kernel
theorem d_Mo_join_54 : decode b_Mo_join 54 = .ok (.iload_n 2, 1) := by decide +kernel
theorem d_Mo_join_55 : decode b_Mo_join 55 = .ok (.imul, 1) := by decide +kernel
theorem d_Mo_join_56 : decode b_Mo_join 56 = .ok (.goto 30, 3) := by decide +kernel
theorem d_Mo_join_59 : decode b_Mo_join 59 = .ok (.iload 4, 2) := by decide +kernel
theorem d_Mo_join_61 : decode b_Mo_join 61 = .ok (.bipush 38, 2) := by decide +kernel
theorem d_Mo_join_63 : decode b_Mo_join 63 = .ok (.if_icmp .ne 9, 3) := by decide +kernel
theorem d_Mo_join_66 : decode b_Mo_join 66 = .ok (.iload_n 3, 1) := by decide +kernel
theorem d_Mo_join_67 : decode b_Mo_join 67 = .ok (.iload_n 2, 1) := by decide +kernel
theorem d_Mo_join_68 : decode b_Mo_join 68 = .ok (.iand, 1) := by decide +kernel
theorem d_Mo_join_69 : decode b_Mo_join 69 = .ok (.goto 17, 3) := by decide +kernel
theorem d_Mo_join_72 : decode b_Mo_join 72 = .ok (.iload 4, 2) := by decide +kernel
theorem d_Mo_join_74 : decode b_Mo_join 74 = .ok (.bipush 94, 2) := by decide +kernel
theorem d_Mo_join_76 : decode b_Mo_join 76 = .ok (.if_icmp .ne 9, 3) := by decide +kernel
theorem d_Mo_join_79 : decode b_Mo_join 79 = .ok (.iload_n 3, 1) := by decide +kernel
theorem d_Mo_join_80 : decode b_Mo_join 80 = .ok (.iload_n 2, 1) := by decide +kernel
theorem d_Mo_join_81 : decode b_Mo_join 81 = .ok (.ixor, 1) := by decide +kernel
theorem d_Mo_join_82 : decode b_Mo_join 82 = .ok (.goto 4, 3) := by decide +kernel
theorem d_Mo_join_85 : decode b_Mo_join 85 = .ok (.iload_n 2, 1) := by decide +kernel
theorem d_Mo_join_86 : decode b_Mo_join 86 = .ok (.aload_n 0, 1) := by decide +kernel
theorem d_Mo_join_87 : decode b_Mo_join 87 = .ok (.getfield 79, 3) := by decide +kernel
theorem d_Mo_join_90 : decode b_Mo_join 90 = .ok (.iand, 1) := by decide +kernel
theorem d_Mo_join_91 : decode b_Mo_join 91 = .ok (.iastore, 1) := by decide +kernel
theorem d_Mo_join_92 : decode b_Mo_join 92 = .ok (.return_, 1) := by decide +kernel
theorem d_Mo_part_0 : decode b_Mo_part 0 = .ok (.iload_n 1, 1) := by decide +kernel
theorem d_Mo_part_1 : decode b_Mo_part 1 = .ok (.invokestatic 95, 3) := by decide +kernel
theorem d_Mo_part_4 : decode b_Mo_part 4 = .ok (.ifCond .eq 15, 3) := by decide +kernel
theorem d_Mo_part_7 : decode b_Mo_part 7 = .ok (.aload_n 0, 1) := by decide +kernel
theorem d_Mo_part_8 : decode b_Mo_part 8 = .ok (.iload_n 2, 1) := by decide +kernel
theorem d_Mo_part_9 : decode b_Mo_part 9 = .ok (.iload_n 1, 1) := by decide +kernel
theorem d_Mo_part_10 : decode b_Mo_part 10 = .ok (.bipush 120, 2) := by decide +kernel
theorem d_Mo_part_12 : decode b_Mo_part 12 = .ok (.isub, 1) := by decide +kernel
theorem d_Mo_part_13 : decode b_Mo_part 13 = .ok (.invokevirtual 108, 3) := by decide +kernel
theorem d_Mo_part_16 : decode b_Mo_part 16 = .ok (.goto 12, 3) := by decide +kernel
theorem d_Mo_part_19 : decode b_Mo_part 19 = .ok (.iload_n 1, 1) := by decide +kernel
theorem d_Mo_part_20 : decode b_Mo_part 20 = .ok (.bipush 48, 2) := by decide +kernel
theorem d_Mo_part_22 : decode b_Mo_part 22 = .ok (.isub, 1) := by decide +kernel
theorem d_Mo_part_23 : decode b_Mo_part 23 = .ok (.aload_n 0, 1) := by decide +kernel
theorem d_Mo_part_24 : decode b_Mo_part 24 = .ok (.getfield 79, 3) := by decide +kernel
theorem d_Mo_part_27 : decode b_Mo_part 27 = .ok (.iand, 1) := by decide +kernel
theorem d_Mo_part_28 : decode b_Mo_part 28 = .ok (.ireturn, 1) := by decide +kernel
theorem d_Mo_valueOf_0 : decode b_Mo_valueOf 0 = .ok (.iload_n 1, 1) := by decide +kernel
theorem d_Mo_valueOf_1 : decode b_Mo_valueOf 1 = .ok (.iload_n 2, 1) := by decide +kernel
theorem d_Mo_valueOf_2 : decode b_Mo_valueOf 2 = .ok (.aload_n 0, 1) := by decide +kernel
theorem d_Mo_valueOf_3 : decode b_Mo_valueOf 3 = .ok (.getfield 76, 3) := by decide +kernel
theorem d_Mo_valueOf_6 : decode b_Mo_valueOf 6 = .ok (.imul, 1) := by decide +kernel
theorem d_Mo_valueOf_7 : decode b_Mo_valueOf 7 = .ok (.ishr, 1) := by decide +kernel
theorem d_Mo_valueOf_8 : decode b_Mo_valueOf 8 = .ok (.aload_n 0, 1) := by decide +kernel
theorem d_Mo_valueOf_9 : decode b_Mo_valueOf 9 = .ok (.getfield 79, 3) := by decide +kernel
theorem d_Mo_valueOf_12 : decode b_Mo_valueOf 12 = .ok (.iand, 1) := by decide +kernel
theorem d_Mo_valueOf_13 : decode b_Mo_valueOf 13 = .ok (.ireturn, 1) := by decide +kernel
theorem d_Mo_atom_0 : decode b_Mo_atom 0 = .ok (.aload_n 0, 1) := by decide +kernel
theorem d_Mo_atom_1 : decode b_Mo_atom 1 = .ok (.iload_n 1, 1) := by decide +kernel
theorem d_Mo_atom_2 : decode b_Mo_atom 2 = .ok (.iload_n 2, 1) := by decide +kernel
theorem d_Mo_atom_3 : decode b_Mo_atom 3 = .ok (.iload_n 3, 1) := by decide +kernel
theorem d_Mo_atom_4 : decode b_Mo_atom 4 = .ok (.invokevirtual 119, 3) := by decide +kernel
theorem d_Mo_atom_7 : decode b_Mo_atom 7 = .ok (.istore 4, 2) := by decide +kernel
theorem d_Mo_atom_9 : decode b_Mo_atom 9 = .ok (.aload_n 0, 1) := by decide +kernel
theorem d_Mo_atom_10 : decode b_Mo_atom 10 = .ok (.iload_n 2, 1) := by decide +kernel
theorem d_Mo_atom_11 : decode b_Mo_atom 11 = .ok (.iconst 1, 1) := by decide +kernel
theorem d_Mo_atom_12 : decode b_Mo_atom 12 = .ok (.iadd, 1) := by decide +kernel
theorem d_Mo_atom_13 : decode b_Mo_atom 13 = .ok (.aload_n 0, 1) := by decide +kernel
theorem d_Mo_atom_14 : decode b_Mo_atom 14 = .ok (.getfield 88, 3) := by decide +kernel
theorem d_Mo_atom_17 : decode b_Mo_atom 17 = .ok (.iload_n 3, 1) := by decide +kernel
theorem d_Mo_atom_18 : decode b_Mo_atom 18 = .ok (.invokevirtual 119, 3) := by decide +kernel
theorem d_Mo_atom_21 : decode b_Mo_atom 21 = .ok (.istore 5, 2) := by decide +kernel
theorem d_Mo_atom_23 : decode b_Mo_atom 23 = .ok (.aload_n 0, 1) := by decide +kernel
theorem d_Mo_atom_24 : decode b_Mo_atom 24 = .ok (.getfield 7, 3) := by decide +kernel
theorem d_Mo_atom_27 : decode b_Mo_atom 27 = .ok (.iload_n 2, 1) := by decide +kernel
theorem d_Mo_atom_28 : decode b_Mo_atom 28 = .ok (.iaload, 1) := by decide +kernel
theorem d_Mo_atom_29 : decode b_Mo_atom 29 = .ok (.bipush 60, 2) := by decide +kernel
theorem d_Mo_atom_31 : decode b_Mo_atom 31 = .ok (.if_icmp .ne 18, 3) := by decide +kernel
theorem d_Mo_atom_34 : decode b_Mo_atom 34 = .ok (.iload 4, 2) := by decide +kernel
theorem d_Mo_atom_36 : decode b_Mo_atom 36 = .ok (.iload 5, 2) := by decide +kernel
theorem d_Mo_atom_38 : decode b_Mo_atom 38 = .ok (.if_icmp .ge 7, 3) := by decide +kernel
theorem d_Mo_atom_41 : decode b_Mo_atom 41 = .ok (.iconst 1, 1) := by decide +kernel
theorem d_Mo_atom_42 : decode b_Mo_atom 42 = .ok (.goto 45, 3) := by decide +kernel
theorem d_Mo_atom_45 : decode b_Mo_atom 45 = .ok (.iconst 0, 1) := by decide +kernel
theorem d_Mo_atom_46 : decode b_Mo_atom 46 = .ok (.goto 41, 3) := by decide +kernel
theorem d_Mo_atom_49 : decode b_Mo_atom 49 = .ok (.aload_n 0, 1) := by decide +kernel
theorem d_Mo_atom_50 : decode b_Mo_atom 50 = .ok (.getfield 7, 3) := by decide +kernel
theorem d_Mo_atom_53 : decode b_Mo_atom 53 = .ok (.iload_n 2, 1) := by decide +kernel
theorem d_Mo_atom_54 : decode b_Mo_atom 54 = .ok (.iaload, 1) := by decide +kernel
theorem d_Mo_atom_55 : decode b_Mo_atom 55 = .ok (.bipush 61, 2) := by decide +kernel
theorem d_Mo_atom_57 : decode b_Mo_atom 57 = .ok (.if_icmp .ne 18, 3) := by decide +kernel
theorem d_Mo_atom_60 : decode b_Mo_atom 60 = .ok (.iload 4, 2) := by decide +kernel
theorem d_Mo_atom_62 : decode b_Mo_atom 62 = .ok (.iload 5, 2) := by decide +kernel
theorem d_Mo_atom_64 : decode b_Mo_atom 64 = .ok (.if_icmp .ne 7, 3) := by decide +kernel
theorem d_Mo_atom_67 : decode b_Mo_atom 67 = .ok (.iconst 1, 1) := by decide +kernel
theorem d_Mo_atom_68 : decode b_Mo_atom 68 = .ok (.goto 19, 3) := by decide +kernel
theorem d_Mo_atom_71 : decode b_Mo_atom 71 = .ok (.iconst 0, 1) := by decide +kernel
theorem d_Mo_atom_72 : decode b_Mo_atom 72 = .ok (.goto 15, 3) := by decide +kernel
theorem d_Mo_atom_75 : decode b_Mo_atom 75 = .ok (.iload 4, 2) := by decide +kernel
theorem d_Mo_atom_77 : decode b_Mo_atom 77 = .ok (.iload 5, 2) := by decide +kernel
theorem d_Mo_atom_79 : decode b_Mo_atom 79 = .ok (.if_icmp .eq 7, 3) := by decide +kernel
theorem d_Mo_atom_82 : decode b_Mo_atom 82 = .ok (.iconst 1, 1) := by decide +kernel
theorem d_Mo_atom_83 : decode b_Mo_atom 83 = .ok (.goto 4, 3) := by decide +kernel
theorem d_Mo_atom_86 : decode b_Mo_atom 86 = .ok (.iconst 0, 1) := by decide +kernel
theorem d_Mo_atom_87 : decode b_Mo_atom 87 = .ok (.ireturn, 1) := by decide +kernel
theorem d_Mo_forget_0 : decode b_Mo_forget 0 = .ok (.aload_n 0, 1) := by decide +kernel
theorem d_Mo_forget_1 : decode b_Mo_forget 1 = .ok (.iconst (-1), 1) := by decide +kernel
theorem d_Mo_forget_2 : decode b_Mo_forget 2 = .ok (.putfield 35, 3) := by decide +kernel
theorem d_Mo_forget_5 : decode b_Mo_forget 5 = .ok (.aload_n 0, 1) := by decide +kernel
theorem d_Mo_forget_6 : decode b_Mo_forget 6 = .ok (.iconst 0, 1) := by decide +kernel
theorem d_Mo_forget_7 : decode b_Mo_forget 7 = .ok (.putfield 123, 3) := by decide +kernel
theorem d_Mo_forget_10 : decode b_Mo_forget 10 = .ok (.aload_n 0, 1) := by decide +kernel
theorem d_Mo_forget_11 : decode b_Mo_forget 11 = .ok (.iconst (-1), 1) := by decide +kernel
theorem d_Mo_forget_12 : decode b_Mo_forget 12 = .ok (.putfield 51, 3) := by decide +kernel
theorem d_Mo_forget_15 : decode b_Mo_forget 15 = .ok (.aload_n 0, 1) := by decide +kernel
theorem d_Mo_forget_16 : decode b_Mo_forget 16 = .ok (.iconst 0, 1) := by decide +kernel
theorem d_Mo_forget_17 : decode b_Mo_forget 17 = .ok (.putfield 126, 3) := by decide +kernel
theorem d_Mo_forget_20 : decode b_Mo_forget 20 = .ok (.return_, 1) := by decide +kernel
theorem d_Mo_predicate_0 : decode b_Mo_predicate 0 = .ok (.aload_n 0, 1) := by decide +kernel
theorem d_Mo_predicate_1 : decode b_Mo_predicate 1 = .ok (.iconst 0, 1) := by decide +kernel
theorem d_Mo_predicate_2 : decode b_Mo_predicate 2 = .ok (.putfield 85, 3) := by decide +kernel
theorem d_Mo_predicate_5 : decode b_Mo_predicate 5 = .ok (.aload_n 0, 1) := by decide +kernel
theorem d_Mo_predicate_6 : decode b_Mo_predicate 6 = .ok (.iconst 0, 1) := by decide +kernel
theorem d_Mo_predicate_7 : decode b_Mo_predicate 7 = .ok (.invokevirtual 135, 3) := by decide +kernel
theorem d_Mo_predicate_10 : decode b_Mo_predicate 10 = .ok (.istore_n 1, 1) := by decide +kernel
theorem d_Mo_predicate_11 : decode b_Mo_predicate 11 = .ok (.iload_n 1, 1) := by decide +kernel
theorem d_Mo_predicate_12 : decode b_Mo_predicate 12 = .ok (.ifCond .ge 9, 3) := by decide +kernel
theorem d_Mo_predicate_15 : decode b_Mo_predicate 15 = .ok (.aload_n 0, 1) := by decide +kernel
theorem d_Mo_predicate_16 : decode b_Mo_predicate 16 = .ok (.iconst 1, 1) := by decide +kernel
theorem d_Mo_predicate_17 : decode b_Mo_predicate 17 = .ok (.invokevirtual 132, 3) := by decide +kernel
theorem d_Mo_predicate_20 : decode b_Mo_predicate 20 = .ok (.ireturn, 1) := by decide +kernel
theorem d_Mo_predicate_21 : decode b_Mo_predicate 21 = .ok (.aload_n 0, 1) := by decide +kernel
theorem d_Mo_predicate_22 : decode b_Mo_predicate 22 = .ok (.getfield 155, 3) := by decide +kernel
theorem d_Mo_predicate_25 : decode b_Mo_predicate 25 = .ok (.bipush 12, 2) := by decide +kernel
theorem d_Mo_predicate_27 : decode b_Mo_predicate 27 = .ok (.if_icmp .ne 9, 3) := by decide +kernel
theorem d_Mo_predicate_30 : decode b_Mo_predicate 30 = .ok (.aload_n 0, 1) := by decide +kernel
theorem d_Mo_predicate_31 : decode b_Mo_predicate 31 = .ok (.iconst 2, 1) := by decide +kernel
theorem d_Mo_predicate_32 : decode b_Mo_predicate 32 = .ok (.invokevirtual 132, 3) := by decide +kernel
theorem d_Mo_predicate_35 : decode b_Mo_predicate 35 = .ok (.ireturn, 1) := by decide +kernel
theorem d_Mo_predicate_36 : decode b_Mo_predicate 36 = .ok (.iconst 0, 1) := by decide +kernel
theorem d_Mo_predicate_37 : decode b_Mo_predicate 37 = .ok (.istore_n 2, 1) := by decide +kernel
theorem d_Mo_predicate_38 : decode b_Mo_predicate 38 = .ok (.iload_n 2, 1) := by decide +kernel
theorem d_Mo_predicate_39 : decode b_Mo_predicate 39 = .ok (.aload_n 0, 1) := by decide +kernel
theorem d_Mo_predicate_40 : decode b_Mo_predicate 40 = .ok (.getfield 82, 3) := by decide +kernel
theorem d_Mo_predicate_43 : decode b_Mo_predicate 43 = .ok (.if_icmp .ge 22, 3) := by decide +kernel
theorem d_Mo_predicate_46 : decode b_Mo_predicate 46 = .ok (.aload_n 0, 1) := by decide +kernel
theorem d_Mo_predicate_47 : decode b_Mo_predicate 47 = .ok (.getfield 66, 3) := by decide +kernel
theorem d_Mo_predicate_50 : decode b_Mo_predicate 50 = .ok (.iload_n 2, 1) := by decide +kernel
theorem d_Mo_predicate_51 : decode b_Mo_predicate 51 = .ok (.aload_n 0, 1) := by decide +kernel
theorem d_Mo_predicate_52 : decode b_Mo_predicate 52 = .ok (.iconst 0, 1) := by decide +kernel
theorem d_Mo_predicate_53 : decode b_Mo_predicate 53 = .ok (.iload_n 1, 1) := by decide +kernel
theorem d_Mo_predicate_54 : decode b_Mo_predicate 54 = .ok (.iload_n 2, 1) := by decide +kernel
theorem d_Mo_predicate_55 : decode b_Mo_predicate 55 = .ok (.invokevirtual 141, 3) := by decide +kernel
theorem d_Mo_predicate_58 : decode b_Mo_predicate 58 = .ok (.bastore, 1) := by decide +kernel
theorem d_Mo_predicate_59 : decode b_Mo_predicate 59 = .ok (.iinc 2 1, 3) := by decide +kernel
theorem d_Mo_predicate_62 : decode b_Mo_predicate 62 = .ok (.goto (-24), 3) := by decide +kernel
theorem d_Mo_predicate_65 : decode b_Mo_predicate 65 = .ok (.aload_n 0, 1) := by decide +kernel
theorem d_Mo_predicate_66 : decode b_Mo_predicate 66 = .ok (.invokevirtual 158, 3) := by decide +kernel
theorem d_Mo_predicate_69 : decode b_Mo_predicate 69 = .ok (.aload_n 0, 1) := by decide +kernel
theorem d_Mo_predicate_70 : decode b_Mo_predicate 70 = .ok (.iconst 0, 1) := by decide +kernel
theorem d_Mo_predicate_71 : decode b_Mo_predicate 71 = .ok (.putfield 88, 3) := by decide +kernel
theorem d_Mo_predicate_74 : decode b_Mo_predicate 74 = .ok (.aload_n 0, 1) := by decide +kernel
theorem d_Mo_predicate_75 : decode b_Mo_predicate 75 = .ok (.invokevirtual 145, 3) := by decide +kernel
theorem d_Mo_predicate_78 : decode b_Mo_predicate 78 = .ok (.aload_n 0, 1) := by decide +kernel
theorem d_Mo_predicate_79 : decode b_Mo_predicate 79 = .ok (.getfield 155, 3) := by decide +kernel
theorem d_Mo_predicate_82 : decode b_Mo_predicate 82 = .ok (.iconst 1, 1) := by decide +kernel
theorem d_Mo_predicate_83 : decode b_Mo_predicate 83 = .ok (.isub, 1) := by decide +kernel
theorem d_Mo_predicate_84 : decode b_Mo_predicate 84 = .ok (.ireturn, 1) := by decide +kernel
theorem d_Mo_addWork_0 : decode b_Mo_addWork 0 = .ok (.bipush 8, 2) := by decide +kernel
theorem d_Mo_addWork_2 : decode b_Mo_addWork 2 = .ok (.aload_n 0, 1) := by decide +kernel
theorem d_Mo_addWork_3 : decode b_Mo_addWork 3 = .ok (.getfield 155, 3) := by decide +kernel
theorem d_Mo_addWork_6 : decode b_Mo_addWork 6 = .ok (.imul, 1) := by decide +kernel
theorem d_Mo_addWork_7 : decode b_Mo_addWork 7 = .ok (.istore_n 1, 1) := by decide +kernel
theorem d_Mo_addWork_8 : decode b_Mo_addWork 8 = .ok (.iload_n 1, 1) := by decide +kernel
theorem d_Mo_addWork_9 : decode b_Mo_addWork 9 = .ok (.bipush 8, 2) := by decide +kernel
theorem d_Mo_addWork_11 : decode b_Mo_addWork 11 = .ok (.aload_n 0, 1) := by decide +kernel
theorem d_Mo_addWork_12 : decode b_Mo_addWork 12 = .ok (.getfield 155, 3) := by decide +kernel
theorem d_Mo_addWork_15 : decode b_Mo_addWork 15 = .ok (.imul, 1) := by decide +kernel
theorem d_Mo_addWork_16 : decode b_Mo_addWork 16 = .ok (.bipush 8, 2) := by decide +kernel
theorem d_Mo_addWork_18 : decode b_Mo_addWork 18 = .ok (.iadd, 1) := by decide +kernel
theorem d_Mo_addWork_19 : decode b_Mo_addWork 19 = .ok (.if_icmp .ge 16, 3) := by decide +kernel
theorem d_Mo_addWork_22 : decode b_Mo_addWork 22 = .ok (.aload_n 0, 1) := by decide +kernel
theorem d_Mo_addWork_23 : decode b_Mo_addWork 23 = .ok (.getfield 29, 3) := by decide +kernel
theorem d_Mo_addWork_26 : decode b_Mo_addWork 26 = .ok (.iload_n 1, 1) := by decide +kernel
theorem d_Mo_addWork_27 : decode b_Mo_addWork 27 = .ok (.lconst 0, 1) := by decide +kernel
theorem d_Mo_addWork_28 : decode b_Mo_addWork 28 = .ok (.lastore, 1) := by decide +kernel
theorem d_Mo_addWork_29 : decode b_Mo_addWork 29 = .ok (.iinc 1 1, 3) := by decide +kernel
theorem d_Mo_addWork_32 : decode b_Mo_addWork 32 = .ok (.goto (-24), 3) := by decide +kernel
theorem d_Mo_addWork_35 : decode b_Mo_addWork 35 = .ok (.iconst 0, 1) := by decide +kernel
theorem d_Mo_addWork_36 : decode b_Mo_addWork 36 = .ok (.istore_n 1, 1) := by decide +kernel
theorem d_Mo_addWork_37 : decode b_Mo_addWork 37 = .ok (.iload_n 1, 1) := by decide +kernel
theorem d_Mo_addWork_38 : decode b_Mo_addWork 38 = .ok (.aload_n 0, 1) := by decide +kernel
theorem d_Mo_addWork_39 : decode b_Mo_addWork 39 = .ok (.getfield 82, 3) := by decide +kernel
theorem d_Mo_addWork_42 : decode b_Mo_addWork 42 = .ok (.if_icmp .ge 62, 3) := by decide +kernel
theorem d_Mo_addWork_45 : decode b_Mo_addWork 45 = .ok (.aload_n 0, 1) := by decide +kernel
theorem d_Mo_addWork_46 : decode b_Mo_addWork 46 = .ok (.getfield 66, 3) := by decide +kernel
theorem d_Mo_addWork_49 : decode b_Mo_addWork 49 = .ok (.iload_n 1, 1) := by decide +kernel
theorem d_Mo_addWork_50 : decode b_Mo_addWork 50 = .ok (.baload, 1) := by decide +kernel
theorem d_Mo_addWork_51 : decode b_Mo_addWork 51 = .ok (.ifCond .ne 6, 3) := by decide +kernel
theorem d_Mo_addWork_54 : decode b_Mo_addWork 54 = .ok (.goto 44, 3) := by decide +kernel
theorem d_Mo_addWork_57 : decode b_Mo_addWork 57 = .ok (.aload_n 0, 1) := by decide +kernel
theorem d_Mo_addWork_58 : decode b_Mo_addWork 58 = .ok (.getfield 29, 3) := by decide +kernel
theorem d_Mo_addWork_61 : decode b_Mo_addWork 61 = .ok (.bipush 8, 2) := by decide +kernel
theorem d_Mo_addWork_63 : decode b_Mo_addWork 63 = .ok (.aload_n 0, 1) := by decide +kernel
theorem d_Mo_addWork_64 : decode b_Mo_addWork 64 = .ok (.getfield 155, 3) := by decide +kernel
theorem d_Mo_addWork_67 : decode b_Mo_addWork 67 = .ok (.imul, 1) := by decide +kernel
theorem d_Mo_addWork_68 : decode b_Mo_addWork 68 = .ok (.iload_n 1, 1) := by decide +kernel
theorem d_Mo_addWork_69 : decode b_Mo_addWork 69 = .ok (.bipush 64, 2) := by decide +kernel
theorem d_Mo_addWork_71 : decode b_Mo_addWork 71 = .ok (.idiv, 1) := by decide +kernel
theorem d_Mo_addWork_72 : decode b_Mo_addWork 72 = .ok (.iadd, 1) := by decide +kernel
theorem d_Mo_addWork_73 : decode b_Mo_addWork 73 = .ok (.dup2, 1) := by decide +kernel
theorem d_Mo_addWork_74 : decode b_Mo_addWork 74 = .ok (.laload, 1) := by decide +kernel
theorem d_Mo_addWork_75 : decode b_Mo_addWork 75 = .ok (.lconst 1, 1) := by decide +kernel
theorem d_Mo_addWork_76 : decode b_Mo_addWork 76 = .ok (.iload_n 1, 1) := by decide +kernel
theorem d_Mo_addWork_77 : decode b_Mo_addWork 77 = .ok (.bipush 64, 2) := by decide +kernel
theorem d_Mo_addWork_79 : decode b_Mo_addWork 79 = .ok (.irem, 1) := by decide +kernel
theorem d_Mo_addWork_80 : decode b_Mo_addWork 80 = .ok (.lshl, 1) := by decide +kernel
theorem d_Mo_addWork_81 : decode b_Mo_addWork 81 = .ok (.lor, 1) := by decide +kernel
theorem d_Mo_addWork_82 : decode b_Mo_addWork 82 = .ok (.lastore, 1) := by decide +kernel
theorem d_Mo_addWork_83 : decode b_Mo_addWork 83 = .ok (.aload_n 0, 1) := by decide +kernel
theorem d_Mo_addWork_84 : decode b_Mo_addWork 84 = .ok (.getfield 32, 3) := by decide +kernel
theorem d_Mo_addWork_87 : decode b_Mo_addWork 87 = .ok (.iload_n 1, 1) := by decide +kernel
theorem d_Mo_addWork_88 : decode b_Mo_addWork 88 = .ok (.dup2, 1) := by decide +kernel
theorem d_Mo_addWork_89 : decode b_Mo_addWork 89 = .ok (.iaload, 1) := by decide +kernel
theorem d_Mo_addWork_90 : decode b_Mo_addWork 90 = .ok (.iconst 1, 1) := by decide +kernel
theorem d_Mo_addWork_91 : decode b_Mo_addWork 91 = .ok (.aload_n 0, 1) := by decide +kernel
theorem d_Mo_addWork_92 : decode b_Mo_addWork 92 = .ok (.getfield 155, 3) := by decide +kernel
theorem d_Mo_addWork_95 : decode b_Mo_addWork 95 = .ok (.ishl, 1) := by decide +kernel
theorem d_Mo_addWork_96 : decode b_Mo_addWork 96 = .ok (.ior, 1) := by decide +kernel
theorem d_Mo_addWork_97 : decode b_Mo_addWork 97 = .ok (.iastore, 1) := by decide +kernel
theorem d_Mo_addWork_98 : decode b_Mo_addWork 98 = .ok (.iinc 1 1, 3) := by decide +kernel
theorem d_Mo_addWork_101 : decode b_Mo_addWork 101 = .ok (.goto (-64), 3) := by decide +kernel
theorem d_Mo_addWork_104 : decode b_Mo_addWork 104 = .ok (.aload_n 0, 1) := by decide +kernel
theorem d_Mo_addWork_105 : decode b_Mo_addWork 105 = .ok (.dup, 1) := by decide +kernel
theorem d_Mo_addWork_106 : decode b_Mo_addWork 106 = .ok (.getfield 155, 3) := by decide +kernel
theorem d_Mo_addWork_109 : decode b_Mo_addWork 109 = .ok (.iconst 1, 1) := by decide +kernel
theorem d_Mo_addWork_110 : decode b_Mo_addWork 110 = .ok (.iadd, 1) := by decide +kernel
theorem d_Mo_addWork_111 : decode b_Mo_addWork 111 = .ok (.putfield 155, 3) := by decide +kernel
theorem d_Mo_addWork_114 : decode b_Mo_addWork 114 = .ok (.return_, 1) := by decide +kernel
theorem d_Mo_clear_0 : decode b_Mo_clear 0 = .ok (.aload_n 0, 1) := by decide +kernel
theorem d_Mo_clear_1 : decode b_Mo_clear 1 = .ok (.iconst 0, 1) := by decide +kernel
theorem d_Mo_clear_2 : decode b_Mo_clear 2 = .ok (.putfield 85, 3) := by decide +kernel
end
section
theorem d_Mo_clear_5 : decode b_Mo_clear 5 = .ok (.aload_n 0, 1) := by decide +kernel
theorem d_Mo_clear_6 : decode b_Mo_clear 6 = .ok (.iconst 0, 1) := by decide +kernel
theorem d_Mo_clear_7 : decode b_Mo_clear 7 = .ok (.putfield 88, 3) := by decide +kernel
theorem d_Mo_clear_10 : decode b_Mo_clear 10 = .ok (.aload_n 0, 1) := by decide +kernel
theorem d_Mo_clear_11 : decode b_Mo_clear 11 = .ok (.iconst 0, 1) := by decide +kernel
theorem d_Mo_clear_12 : decode b_Mo_clear 12 = .ok (.putfield 138, 3) := by decide +kernel
theorem d_Mo_clear_15 : decode b_Mo_clear 15 = .ok (.aload_n 0, 1) := by decide +kernel
theorem d_Mo_clear_16 : decode b_Mo_clear 16 = .ok (.iconst 0, 1) := by decide +kernel
theorem d_Mo_clear_17 : decode b_Mo_clear 17 = .ok (.putfield 155, 3) := by decide +kernel
theorem d_Mo_clear_20 : decode b_Mo_clear 20 = .ok (.iconst 0, 1) := by decide +kernel
theorem d_Mo_clear_21 : decode b_Mo_clear 21 = .ok (.istore_n 1, 1) := by decide +kernel
theorem d_Mo_clear_22 : decode b_Mo_clear 22 = .ok (.iload_n 1, 1) := by decide +kernel
theorem d_Mo_clear_23 : decode b_Mo_clear 23 = .ok (.sipush 512, 3) := by decide +kernel
theorem d_Mo_clear_26 : decode b_Mo_clear 26 = .ok (.if_icmp .ge 16, 3) := by decide +kernel
theorem d_Mo_clear_29 : decode b_Mo_clear 29 = .ok (.aload_n 0, 1) := by decide +kernel
theorem d_Mo_clear_30 : decode b_Mo_clear 30 = .ok (.getfield 32, 3) := by decide +kernel
theorem d_Mo_clear_33 : decode b_Mo_clear 33 = .ok (.iload_n 1, 1) := by decide +kernel
theorem d_Mo_clear_34 : decode b_Mo_clear 34 = .ok (.iconst 0, 1) := by decide +kernel
theorem d_Mo_clear_35 : decode b_Mo_clear 35 = .ok (.iastore, 1) := by decide +kernel
theorem d_Mo_clear_36 : decode b_Mo_clear 36 = .ok (.iinc 1 1, 3) := by decide +kernel
theorem d_Mo_clear_39 : decode b_Mo_clear 39 = .ok (.goto (-17), 3) := by decide +kernel
theorem d_Mo_clear_42 : decode b_Mo_clear 42 = .ok (.aload_n 0, 1) := by decide +kernel
theorem d_Mo_clear_43 : decode b_Mo_clear 43 = .ok (.invokevirtual 145, 3) := by decide +kernel
theorem d_Mo_clear_46 : decode b_Mo_clear 46 = .ok (.return_, 1) := by decide +kernel
theorem d_Mo_prove_0 : decode b_Mo_prove 0 = .ok (.aload_n 0, 1) := by decide +kernel
theorem d_Mo_prove_1 : decode b_Mo_prove 1 = .ok (.iconst 0, 1) := by decide +kernel
theorem d_Mo_prove_2 : decode b_Mo_prove 2 = .ok (.putfield 85, 3) := by decide +kernel
theorem d_Mo_prove_5 : decode b_Mo_prove 5 = .ok (.iload_n 1, 1) := by decide +kernel
theorem d_Mo_prove_6 : decode b_Mo_prove 6 = .ok (.iconst 1, 1) := by decide +kernel
theorem d_Mo_prove_7 : decode b_Mo_prove 7 = .ok (.if_icmp .lt 9, 3) := by decide +kernel
theorem d_Mo_prove_10 : decode b_Mo_prove 10 = .ok (.iload_n 1, 1) := by decide +kernel
theorem d_Mo_prove_11 : decode b_Mo_prove 11 = .ok (.bipush 40, 2) := by decide +kernel
theorem d_Mo_prove_13 : decode b_Mo_prove 13 = .ok (.if_icmp .le 9, 3) := by decide +kernel
theorem d_Mo_prove_16 : decode b_Mo_prove 16 = .ok (.aload_n 0, 1) := by decide +kernel
theorem d_Mo_prove_17 : decode b_Mo_prove 17 = .ok (.iconst 1, 1) := by decide +kernel
theorem d_Mo_prove_18 : decode b_Mo_prove 18 = .ok (.invokevirtual 132, 3) := by decide +kernel
theorem d_Mo_prove_21 : decode b_Mo_prove 21 = .ok (.ireturn, 1) := by decide +kernel
theorem d_Mo_prove_22 : decode b_Mo_prove 22 = .ok (.iconst 1, 1) := by decide +kernel
theorem d_Mo_prove_23 : decode b_Mo_prove 23 = .ok (.istore_n 2, 1) := by decide +kernel
theorem d_Mo_prove_24 : decode b_Mo_prove 24 = .ok (.iconst 0, 1) := by decide +kernel
theorem d_Mo_prove_25 : decode b_Mo_prove 25 = .ok (.istore_n 3, 1) := by decide +kernel
theorem d_Mo_prove_26 : decode b_Mo_prove 26 = .ok (.iload_n 3, 1) := by decide +kernel
theorem d_Mo_prove_27 : decode b_Mo_prove 27 = .ok (.iload_n 1, 1) := by decide +kernel
theorem d_Mo_prove_28 : decode b_Mo_prove 28 = .ok (.if_icmp .ge 61, 3) := by decide +kernel
theorem d_Mo_prove_31 : decode b_Mo_prove 31 = .ok (.iload_n 2, 1) := by decide +kernel
theorem d_Mo_prove_32 : decode b_Mo_prove 32 = .ok (.ifCond .eq 57, 3) := by decide +kernel
theorem d_Mo_prove_35 : decode b_Mo_prove 35 = .ok (.aload_n 0, 1) := by decide +kernel
theorem d_Mo_prove_36 : decode b_Mo_prove 36 = .ok (.invokevirtual 210, 3) := by decide +kernel
theorem d_Mo_prove_39 : decode b_Mo_prove 39 = .ok (.aload_n 0, 1) := by decide +kernel
theorem d_Mo_prove_40 : decode b_Mo_prove 40 = .ok (.getfield 35, 3) := by decide +kernel
theorem d_Mo_prove_43 : decode b_Mo_prove 43 = .ok (.iconst (-1), 1) := by decide +kernel
theorem d_Mo_prove_44 : decode b_Mo_prove 44 = .ok (.if_icmp .ne 26, 3) := by decide +kernel
theorem d_Mo_prove_47 : decode b_Mo_prove 47 = .ok (.aload_n 0, 1) := by decide +kernel
theorem d_Mo_prove_48 : decode b_Mo_prove 48 = .ok (.invokevirtual 213, 3) := by decide +kernel
theorem d_Mo_prove_51 : decode b_Mo_prove 51 = .ok (.ifCond .eq 7, 3) := by decide +kernel
theorem d_Mo_prove_54 : decode b_Mo_prove 54 = .ok (.iconst 2, 1) := by decide +kernel
theorem d_Mo_prove_55 : decode b_Mo_prove 55 = .ok (.goto 7, 3) := by decide +kernel
theorem d_Mo_prove_58 : decode b_Mo_prove 58 = .ok (.aload_n 0, 1) := by decide +kernel
theorem d_Mo_prove_59 : decode b_Mo_prove 59 = .ok (.invokevirtual 216, 3) := by decide +kernel
theorem d_Mo_prove_62 : decode b_Mo_prove 62 = .ok (.istore 4, 2) := by decide +kernel
theorem d_Mo_prove_64 : decode b_Mo_prove 64 = .ok (.aload_n 0, 1) := by decide +kernel
theorem d_Mo_prove_65 : decode b_Mo_prove 65 = .ok (.iload 4, 2) := by decide +kernel
theorem d_Mo_prove_67 : decode b_Mo_prove 67 = .ok (.putfield 35, 3) := by decide +kernel
theorem d_Mo_prove_70 : decode b_Mo_prove 70 = .ok (.aload_n 0, 1) := by decide +kernel
theorem d_Mo_prove_71 : decode b_Mo_prove 71 = .ok (.getfield 35, 3) := by decide +kernel
theorem d_Mo_prove_74 : decode b_Mo_prove 74 = .ok (.ifCond .ne 7, 3) := by decide +kernel
theorem d_Mo_prove_77 : decode b_Mo_prove 77 = .ok (.iconst 1, 1) := by decide +kernel
theorem d_Mo_prove_78 : decode b_Mo_prove 78 = .ok (.goto 4, 3) := by decide +kernel
theorem d_Mo_prove_81 : decode b_Mo_prove 81 = .ok (.iconst 0, 1) := by decide +kernel
theorem d_Mo_prove_82 : decode b_Mo_prove 82 = .ok (.istore_n 2, 1) := by decide +kernel
theorem d_Mo_prove_83 : decode b_Mo_prove 83 = .ok (.iinc 3 1, 3) := by decide +kernel
theorem d_Mo_prove_86 : decode b_Mo_prove 86 = .ok (.goto (-60), 3) := by decide +kernel
theorem d_Mo_prove_89 : decode b_Mo_prove 89 = .ok (.aload_n 0, 1) := by decide +kernel
theorem d_Mo_prove_90 : decode b_Mo_prove 90 = .ok (.getfield 35, 3) := by decide +kernel
theorem d_Mo_prove_93 : decode b_Mo_prove 93 = .ok (.ireturn, 1) := by decide +kernel
theorem d_Mo_search_0 : decode b_Mo_search 0 = .ok (.aload_n 0, 1) := by decide +kernel
theorem d_Mo_search_1 : decode b_Mo_search 1 = .ok (.invokevirtual 145, 3) := by decide +kernel
theorem d_Mo_search_4 : decode b_Mo_search 4 = .ok (.aload_n 0, 1) := by decide +kernel
theorem d_Mo_search_5 : decode b_Mo_search 5 = .ok (.getfield 39, 3) := by decide +kernel
theorem d_Mo_search_8 : decode b_Mo_search 8 = .ok (.iconst 0, 1) := by decide +kernel
theorem d_Mo_search_9 : decode b_Mo_search 9 = .ok (.iconst 0, 1) := by decide +kernel
theorem d_Mo_search_10 : decode b_Mo_search 10 = .ok (.iastore, 1) := by decide +kernel
theorem d_Mo_search_11 : decode b_Mo_search 11 = .ok (.aload_n 0, 1) := by decide +kernel
theorem d_Mo_search_12 : decode b_Mo_search 12 = .ok (.getfield 42, 3) := by decide +kernel
theorem d_Mo_search_15 : decode b_Mo_search 15 = .ok (.iconst 0, 1) := by decide +kernel
theorem d_Mo_search_16 : decode b_Mo_search 16 = .ok (.aload_n 0, 1) := by decide +kernel
theorem d_Mo_search_17 : decode b_Mo_search 17 = .ok (.getfield 32, 3) := by decide +kernel
theorem d_Mo_search_20 : decode b_Mo_search 20 = .ok (.iconst 0, 1) := by decide +kernel
theorem d_Mo_search_21 : decode b_Mo_search 21 = .ok (.iaload, 1) := by decide +kernel
theorem d_Mo_search_22 : decode b_Mo_search 22 = .ok (.iastore, 1) := by decide +kernel
theorem d_Mo_search_23 : decode b_Mo_search 23 = .ok (.aload_n 0, 1) := by decide +kernel
theorem d_Mo_search_24 : decode b_Mo_search 24 = .ok (.getfield 45, 3) := by decide +kernel
theorem d_Mo_search_27 : decode b_Mo_search 27 = .ok (.iconst 0, 1) := by decide +kernel
theorem d_Mo_search_28 : decode b_Mo_search 28 = .ok (.iconst (-1), 1) := by decide +kernel
theorem d_Mo_search_29 : decode b_Mo_search 29 = .ok (.iastore, 1) := by decide +kernel
theorem d_Mo_search_30 : decode b_Mo_search 30 = .ok (.aload_n 0, 1) := by decide +kernel
theorem d_Mo_search_31 : decode b_Mo_search 31 = .ok (.getfield 48, 3) := by decide +kernel
theorem d_Mo_search_34 : decode b_Mo_search 34 = .ok (.iconst 0, 1) := by decide +kernel
theorem d_Mo_search_35 : decode b_Mo_search 35 = .ok (.iconst (-1), 1) := by decide +kernel
theorem d_Mo_search_36 : decode b_Mo_search 36 = .ok (.iastore, 1) := by decide +kernel
theorem d_Mo_search_37 : decode b_Mo_search 37 = .ok (.aload_n 0, 1) := by decide +kernel
theorem d_Mo_search_38 : decode b_Mo_search 38 = .ok (.iconst 1, 1) := by decide +kernel
theorem d_Mo_search_39 : decode b_Mo_search 39 = .ok (.putfield 123, 3) := by decide +kernel
theorem d_Mo_search_42 : decode b_Mo_search 42 = .ok (.iconst 1, 1) := by decide +kernel
theorem d_Mo_search_43 : decode b_Mo_search 43 = .ok (.istore_n 1, 1) := by decide +kernel
theorem d_Mo_search_44 : decode b_Mo_search 44 = .ok (.iconst 0, 1) := by decide +kernel
theorem d_Mo_search_45 : decode b_Mo_search 45 = .ok (.istore_n 2, 1) := by decide +kernel
theorem d_Mo_search_46 : decode b_Mo_search 46 = .ok (.iload_n 2, 1) := by decide +kernel
theorem d_Mo_search_47 : decode b_Mo_search 47 = .ok (.aload_n 0, 1) := by decide +kernel
theorem d_Mo_search_48 : decode b_Mo_search 48 = .ok (.getfield 123, 3) := by decide +kernel
theorem d_Mo_search_51 : decode b_Mo_search 51 = .ok (.if_icmp .ge 55, 3) := by decide +kernel
theorem d_Mo_search_54 : decode b_Mo_search 54 = .ok (.iload_n 1, 1) := by decide +kernel
theorem d_Mo_search_55 : decode b_Mo_search 55 = .ok (.ifCond .eq 51, 3) := by decide +kernel
theorem d_Mo_search_58 : decode b_Mo_search 58 = .ok (.iconst 0, 1) := by decide +kernel
theorem d_Mo_search_59 : decode b_Mo_search 59 = .ok (.istore_n 3, 1) := by decide +kernel
theorem d_Mo_search_60 : decode b_Mo_search 60 = .ok (.iload_n 3, 1) := by decide +kernel
theorem d_Mo_search_61 : decode b_Mo_search 61 = .ok (.aload_n 0, 1) := by decide +kernel
theorem d_Mo_search_62 : decode b_Mo_search 62 = .ok (.getfield 138, 3) := by decide +kernel
theorem d_Mo_search_65 : decode b_Mo_search 65 = .ok (.if_icmp .ge 35, 3) := by decide +kernel
theorem d_Mo_search_68 : decode b_Mo_search 68 = .ok (.iload_n 1, 1) := by decide +kernel
theorem d_Mo_search_69 : decode b_Mo_search 69 = .ok (.ifCond .eq 31, 3) := by decide +kernel
theorem d_Mo_search_72 : decode b_Mo_search 72 = .ok (.aload_n 0, 1) := by decide +kernel
theorem d_Mo_search_73 : decode b_Mo_search 73 = .ok (.getfield 13, 3) := by decide +kernel
theorem d_Mo_search_76 : decode b_Mo_search 76 = .ok (.iload_n 3, 1) := by decide +kernel
theorem d_Mo_search_77 : decode b_Mo_search 77 = .ok (.iaload, 1) := by decide +kernel
theorem d_Mo_search_78 : decode b_Mo_search 78 = .ok (.aload_n 0, 1) := by decide +kernel
theorem d_Mo_search_79 : decode b_Mo_search 79 = .ok (.getfield 39, 3) := by decide +kernel
theorem d_Mo_search_82 : decode b_Mo_search 82 = .ok (.iload_n 2, 1) := by decide +kernel
theorem d_Mo_search_83 : decode b_Mo_search 83 = .ok (.iaload, 1) := by decide +kernel
theorem d_Mo_search_84 : decode b_Mo_search 84 = .ok (.if_icmp .ne 10, 3) := by decide +kernel
theorem d_Mo_search_87 : decode b_Mo_search 87 = .ok (.aload_n 0, 1) := by decide +kernel
theorem d_Mo_search_88 : decode b_Mo_search 88 = .ok (.iload_n 2, 1) := by decide +kernel
theorem d_Mo_search_89 : decode b_Mo_search 89 = .ok (.iload_n 3, 1) := by decide +kernel
theorem d_Mo_search_90 : decode b_Mo_search 90 = .ok (.invokevirtual 174, 3) := by decide +kernel
theorem d_Mo_search_93 : decode b_Mo_search 93 = .ok (.istore_n 1, 1) := by decide +kernel
theorem d_Mo_search_94 : decode b_Mo_search 94 = .ok (.iinc 3 1, 3) := by decide +kernel
theorem d_Mo_search_97 : decode b_Mo_search 97 = .ok (.goto (-37), 3) := by decide +kernel
theorem d_Mo_search_100 : decode b_Mo_search 100 = .ok (.iinc 2 1, 3) := by decide +kernel
theorem d_Mo_search_103 : decode b_Mo_search 103 = .ok (.goto (-57), 3) := by decide +kernel
theorem d_Mo_search_106 : decode b_Mo_search 106 = .ok (.iload_n 1, 1) := by decide +kernel
theorem d_Mo_search_107 : decode b_Mo_search 107 = .ok (.ifCond .eq 8, 3) := by decide +kernel
theorem d_Mo_search_110 : decode b_Mo_search 110 = .ok (.aload_n 0, 1) := by decide +kernel
theorem d_Mo_search_111 : decode b_Mo_search 111 = .ok (.iconst 1, 1) := by decide +kernel
theorem d_Mo_search_112 : decode b_Mo_search 112 = .ok (.putfield 35, 3) := by decide +kernel
theorem d_Mo_search_115 : decode b_Mo_search 115 = .ok (.aload_n 0, 1) := by decide +kernel
theorem d_Mo_search_116 : decode b_Mo_search 116 = .ok (.getfield 35, 3) := by decide +kernel
theorem d_Mo_search_119 : decode b_Mo_search 119 = .ok (.iconst (-1), 1) := by decide +kernel
theorem d_Mo_search_120 : decode b_Mo_search 120 = .ok (.if_icmp .eq 4, 3) := by decide +kernel
theorem d_Mo_search_123 : decode b_Mo_search 123 = .ok (.return_, 1) := by decide +kernel
theorem d_Mo_search_124 : decode b_Mo_search 124 = .ok (.iconst 0, 1) := by decide +kernel
theorem d_Mo_search_125 : decode b_Mo_search 125 = .ok (.istore_n 2, 1) := by decide +kernel
theorem d_Mo_search_126 : decode b_Mo_search 126 = .ok (.aload_n 0, 1) := by decide +kernel
theorem d_Mo_search_127 : decode b_Mo_search 127 = .ok (.getfield 123, 3) := by decide +kernel
theorem d_Mo_search_130 : decode b_Mo_search 130 = .ok (.iconst 1, 1) := by decide +kernel
theorem d_Mo_search_131 : decode b_Mo_search 131 = .ok (.isub, 1) := by decide +kernel
theorem d_Mo_search_132 : decode b_Mo_search 132 = .ok (.istore_n 3, 1) := by decide +kernel
theorem d_Mo_search_133 : decode b_Mo_search 133 = .ok (.iload_n 3, 1) := by decide +kernel
theorem d_Mo_search_134 : decode b_Mo_search 134 = .ok (.ifCond .le 16, 3) := by decide +kernel
theorem d_Mo_search_137 : decode b_Mo_search 137 = .ok (.iinc 2 1, 3) := by decide +kernel
theorem d_Mo_search_140 : decode b_Mo_search 140 = .ok (.aload_n 0, 1) := by decide +kernel
theorem d_Mo_search_141 : decode b_Mo_search 141 = .ok (.getfield 45, 3) := by decide +kernel
theorem d_Mo_search_144 : decode b_Mo_search 144 = .ok (.iload_n 3, 1) := by decide +kernel
theorem d_Mo_search_145 : decode b_Mo_search 145 = .ok (.iaload, 1) := by decide +kernel
theorem d_Mo_search_146 : decode b_Mo_search 146 = .ok (.istore_n 3, 1) := by decide +kernel
theorem d_Mo_search_147 : decode b_Mo_search 147 = .ok (.goto (-14), 3) := by decide +kernel
theorem d_Mo_search_150 : decode b_Mo_search 150 = .ok (.aload_n 0, 1) := by decide +kernel
theorem d_Mo_search_151 : decode b_Mo_search 151 = .ok (.iload_n 2, 1) := by decide +kernel
theorem d_Mo_search_152 : decode b_Mo_search 152 = .ok (.putfield 51, 3) := by decide +kernel
theorem d_Mo_search_155 : decode b_Mo_search 155 = .ok (.aload_n 0, 1) := by decide +kernel
theorem d_Mo_search_156 : decode b_Mo_search 156 = .ok (.getfield 123, 3) := by decide +kernel
theorem d_Mo_search_159 : decode b_Mo_search 159 = .ok (.iconst 1, 1) := by decide +kernel
theorem d_Mo_search_160 : decode b_Mo_search 160 = .ok (.isub, 1) := by decide +kernel
theorem d_Mo_search_161 : decode b_Mo_search 161 = .ok (.istore_n 3, 1) := by decide +kernel
theorem d_Mo_search_162 : decode b_Mo_search 162 = .ok (.iload_n 3, 1) := by decide +kernel
theorem d_Mo_search_163 : decode b_Mo_search 163 = .ok (.ifCond .le 28, 3) := by decide +kernel
theorem d_Mo_search_166 : decode b_Mo_search 166 = .ok (.iinc 2 (-1), 3) := by decide +kernel
theorem d_Mo_search_169 : decode b_Mo_search 169 = .ok (.aload_n 0, 1) := by decide +kernel
theorem d_Mo_search_170 : decode b_Mo_search 170 = .ok (.getfield 54, 3) := by decide +kernel
theorem d_Mo_search_173 : decode b_Mo_search 173 = .ok (.iload_n 2, 1) := by decide +kernel
theorem d_Mo_search_174 : decode b_Mo_search 174 = .ok (.aload_n 0, 1) := by decide +kernel
theorem d_Mo_search_175 : decode b_Mo_search 175 = .ok (.getfield 48, 3) := by decide +kernel
theorem d_Mo_search_178 : decode b_Mo_search 178 = .ok (.iload_n 3, 1) := by decide +kernel
theorem d_Mo_search_179 : decode b_Mo_search 179 = .ok (.iaload, 1) := by decide +kernel
theorem d_Mo_search_180 : decode b_Mo_search 180 = .ok (.iastore, 1) := by decide +kernel
theorem d_Mo_search_181 : decode b_Mo_search 181 = .ok (.aload_n 0, 1) := by decide +kernel
theorem d_Mo_search_182 : decode b_Mo_search 182 = .ok (.getfield 45, 3) := by decide +kernel
theorem d_Mo_search_185 : decode b_Mo_search 185 = .ok (.iload_n 3, 1) := by decide +kernel
theorem d_Mo_search_186 : decode b_Mo_search 186 = .ok (.iaload, 1) := by decide +kernel
theorem d_Mo_search_187 : decode b_Mo_search 187 = .ok (.istore_n 3, 1) := by decide +kernel
theorem d_Mo_search_188 : decode b_Mo_search 188 = .ok (.goto (-26), 3) := by decide +kernel
theorem d_Mo_search_191 : decode b_Mo_search 191 = .ok (.return_, 1) := by decide +kernel
theorem d_Mo_spread_0 : decode b_Mo_spread 0 = .ok (.iconst 0, 1) := by decide +kernel
theorem d_Mo_spread_1 : decode b_Mo_spread 1 = .ok (.istore_n 3, 1) := by decide +kernel
theorem d_Mo_spread_2 : decode b_Mo_spread 2 = .ok (.iload_n 3, 1) := by decide +kernel
theorem d_Mo_spread_3 : decode b_Mo_spread 3 = .ok (.iconst 1, 1) := by decide +kernel
theorem d_Mo_spread_4 : decode b_Mo_spread 4 = .ok (.aload_n 0, 1) := by decide +kernel
theorem d_Mo_spread_5 : decode b_Mo_spread 5 = .ok (.getfield 155, 3) := by decide +kernel
theorem d_Mo_spread_8 : decode b_Mo_spread 8 = .ok (.ishl, 1) := by decide +kernel
theorem d_Mo_spread_9 : decode b_Mo_spread 9 = .ok (.if_icmp .ge 16, 3) := by decide +kernel
theorem d_Mo_spread_12 : decode b_Mo_spread 12 = .ok (.aload_n 0, 1) := by decide +kernel
theorem d_Mo_spread_13 : decode b_Mo_spread 13 = .ok (.getfield 60, 3) := by decide +kernel
theorem d_Mo_spread_16 : decode b_Mo_spread 16 = .ok (.iload_n 3, 1) := by decide +kernel
theorem d_Mo_spread_17 : decode b_Mo_spread 17 = .ok (.iconst 0, 1) := by decide +kernel
theorem d_Mo_spread_18 : decode b_Mo_spread 18 = .ok (.iastore, 1) := by decide +kernel
theorem d_Mo_spread_19 : decode b_Mo_spread 19 = .ok (.iinc 3 1, 3) := by decide +kernel
theorem d_Mo_spread_22 : decode b_Mo_spread 22 = .ok (.goto (-20), 3) := by decide +kernel
theorem d_Mo_spread_25 : decode b_Mo_spread 25 = .ok (.iconst 0, 1) := by decide +kernel
theorem d_Mo_spread_26 : decode b_Mo_spread 26 = .ok (.istore_n 3, 1) := by decide +kernel
theorem d_Mo_spread_27 : decode b_Mo_spread 27 = .ok (.iload_n 3, 1) := by decide +kernel
theorem d_Mo_spread_28 : decode b_Mo_spread 28 = .ok (.aload_n 0, 1) := by decide +kernel
theorem d_Mo_spread_29 : decode b_Mo_spread 29 = .ok (.getfield 82, 3) := by decide +kernel
theorem d_Mo_spread_32 : decode b_Mo_spread 32 = .ok (.if_icmp .ge 30, 3) := by decide +kernel
theorem d_Mo_spread_35 : decode b_Mo_spread 35 = .ok (.aload_n 0, 1) := by decide +kernel
theorem d_Mo_spread_36 : decode b_Mo_spread 36 = .ok (.getfield 32, 3) := by decide +kernel
theorem d_Mo_spread_39 : decode b_Mo_spread 39 = .ok (.iload_n 3, 1) := by decide +kernel
theorem d_Mo_spread_40 : decode b_Mo_spread 40 = .ok (.iaload, 1) := by decide +kernel
theorem d_Mo_spread_41 : decode b_Mo_spread 41 = .ok (.aload_n 0, 1) := by decide +kernel
theorem d_Mo_spread_42 : decode b_Mo_spread 42 = .ok (.getfield 42, 3) := by decide +kernel
theorem d_Mo_spread_45 : decode b_Mo_spread 45 = .ok (.iload_n 1, 1) := by decide +kernel
theorem d_Mo_spread_46 : decode b_Mo_spread 46 = .ok (.iaload, 1) := by decide +kernel
theorem d_Mo_spread_47 : decode b_Mo_spread 47 = .ok (.if_icmp .ne 9, 3) := by decide +kernel
theorem d_Mo_spread_50 : decode b_Mo_spread 50 = .ok (.aload_n 0, 1) := by decide +kernel
theorem d_Mo_spread_51 : decode b_Mo_spread 51 = .ok (.iload_n 2, 1) := by decide +kernel
theorem d_Mo_spread_52 : decode b_Mo_spread 52 = .ok (.iload_n 3, 1) := by decide +kernel
theorem d_Mo_spread_53 : decode b_Mo_spread 53 = .ok (.invokevirtual 168, 3) := by decide +kernel
theorem d_Mo_spread_56 : decode b_Mo_spread 56 = .ok (.iinc 3 1, 3) := by decide +kernel
theorem d_Mo_spread_59 : decode b_Mo_spread 59 = .ok (.goto (-32), 3) := by decide +kernel
theorem d_Mo_spread_62 : decode b_Mo_spread 62 = .ok (.iconst 0, 1) := by decide +kernel
theorem d_Mo_spread_63 : decode b_Mo_spread 63 = .ok (.istore_n 3, 1) := by decide +kernel
theorem d_Mo_spread_64 : decode b_Mo_spread 64 = .ok (.iload_n 3, 1) := by decide +kernel
theorem d_Mo_spread_65 : decode b_Mo_spread 65 = .ok (.iconst 1, 1) := by decide +kernel
theorem d_Mo_spread_66 : decode b_Mo_spread 66 = .ok (.aload_n 0, 1) := by decide +kernel
theorem d_Mo_spread_67 : decode b_Mo_spread 67 = .ok (.getfield 155, 3) := by decide +kernel
theorem d_Mo_spread_70 : decode b_Mo_spread 70 = .ok (.ishl, 1) := by decide +kernel
theorem d_Mo_spread_71 : decode b_Mo_spread 71 = .ok (.if_icmp .ge 119, 3) := by decide +kernel
theorem d_Mo_spread_74 : decode b_Mo_spread 74 = .ok (.aload_n 0, 1) := by decide +kernel
theorem d_Mo_spread_75 : decode b_Mo_spread 75 = .ok (.getfield 60, 3) := by decide +kernel
theorem d_Mo_spread_78 : decode b_Mo_spread 78 = .ok (.iload_n 3, 1) := by decide +kernel
theorem d_Mo_spread_79 : decode b_Mo_spread 79 = .ok (.iaload, 1) := by decide +kernel
theorem d_Mo_spread_80 : decode b_Mo_spread 80 = .ok (.ifCond .eq 104, 3) := by decide +kernel
theorem d_Mo_spread_83 : decode b_Mo_spread 83 = .ok (.aload_n 0, 1) := by decide +kernel
theorem d_Mo_spread_84 : decode b_Mo_spread 84 = .ok (.aload_n 0, 1) := by decide +kernel
theorem d_Mo_spread_85 : decode b_Mo_spread 85 = .ok (.getfield 16, 3) := by decide +kernel
theorem d_Mo_spread_88 : decode b_Mo_spread 88 = .ok (.iload_n 2, 1) := by decide +kernel
theorem d_Mo_spread_89 : decode b_Mo_spread 89 = .ok (.iaload, 1) := by decide +kernel
theorem d_Mo_spread_90 : decode b_Mo_spread 90 = .ok (.iload_n 3, 1) := by decide +kernel
theorem d_Mo_spread_91 : decode b_Mo_spread 91 = .ok (.invokevirtual 171, 3) := by decide +kernel
theorem d_Mo_spread_94 : decode b_Mo_spread 94 = .ok (.ifCond .eq 6, 3) := by decide +kernel
theorem d_Mo_spread_97 : decode b_Mo_spread 97 = .ok (.goto 87, 3) := by decide +kernel
theorem d_Mo_spread_100 : decode b_Mo_spread 100 = .ok (.aload_n 0, 1) := by decide +kernel
theorem d_Mo_spread_101 : decode b_Mo_spread 101 = .ok (.getfield 123, 3) := by decide +kernel
theorem d_Mo_spread_104 : decode b_Mo_spread 104 = .ok (.sipush 200, 3) := by decide +kernel
theorem d_Mo_spread_107 : decode b_Mo_spread 107 = .ok (.if_icmp .ne 10, 3) := by decide +kernel
theorem d_Mo_spread_110 : decode b_Mo_spread 110 = .ok (.aload_n 0, 1) := by decide +kernel
theorem d_Mo_spread_111 : decode b_Mo_spread 111 = .ok (.iconst 3, 1) := by decide +kernel
theorem d_Mo_spread_112 : decode b_Mo_spread 112 = .ok (.putfield 35, 3) := by decide +kernel
theorem d_Mo_spread_115 : decode b_Mo_spread 115 = .ok (.iconst 0, 1) := by decide +kernel
theorem d_Mo_spread_116 : decode b_Mo_spread 116 = .ok (.ireturn, 1) := by decide +kernel
theorem d_Mo_spread_117 : decode b_Mo_spread 117 = .ok (.aload_n 0, 1) := by decide +kernel
theorem d_Mo_spread_118 : decode b_Mo_spread 118 = .ok (.getfield 39, 3) := by decide +kernel
theorem d_Mo_spread_121 : decode b_Mo_spread 121 = .ok (.aload_n 0, 1) := by decide +kernel
theorem d_Mo_spread_122 : decode b_Mo_spread 122 = .ok (.getfield 123, 3) := by decide +kernel
theorem d_Mo_spread_125 : decode b_Mo_spread 125 = .ok (.aload_n 0, 1) := by decide +kernel
theorem d_Mo_spread_126 : decode b_Mo_spread 126 = .ok (.getfield 16, 3) := by decide +kernel
theorem d_Mo_spread_129 : decode b_Mo_spread 129 = .ok (.iload_n 2, 1) := by decide +kernel
theorem d_Mo_spread_130 : decode b_Mo_spread 130 = .ok (.iaload, 1) := by decide +kernel
theorem d_Mo_spread_131 : decode b_Mo_spread 131 = .ok (.iastore, 1) := by decide +kernel
theorem d_Mo_spread_132 : decode b_Mo_spread 132 = .ok (.aload_n 0, 1) := by decide +kernel
theorem d_Mo_spread_133 : decode b_Mo_spread 133 = .ok (.getfield 42, 3) := by decide +kernel
theorem d_Mo_spread_136 : decode b_Mo_spread 136 = .ok (.aload_n 0, 1) := by decide +kernel
theorem d_Mo_spread_137 : decode b_Mo_spread 137 = .ok (.getfield 123, 3) := by decide +kernel
theorem d_Mo_spread_140 : decode b_Mo_spread 140 = .ok (.iload_n 3, 1) := by decide +kernel
theorem d_Mo_spread_141 : decode b_Mo_spread 141 = .ok (.iastore, 1) := by decide +kernel
theorem d_Mo_spread_142 : decode b_Mo_spread 142 = .ok (.aload_n 0, 1) := by decide +kernel
theorem d_Mo_spread_143 : decode b_Mo_spread 143 = .ok (.getfield 45, 3) := by decide +kernel
theorem d_Mo_spread_146 : decode b_Mo_spread 146 = .ok (.aload_n 0, 1) := by decide +kernel
theorem d_Mo_spread_147 : decode b_Mo_spread 147 = .ok (.getfield 123, 3) := by decide +kernel
theorem d_Mo_spread_150 : decode b_Mo_spread 150 = .ok (.iload_n 1, 1) := by decide +kernel
theorem d_Mo_spread_151 : decode b_Mo_spread 151 = .ok (.iastore, 1) := by decide +kernel
theorem d_Mo_spread_152 : decode b_Mo_spread 152 = .ok (.aload_n 0, 1) := by decide +kernel
theorem d_Mo_spread_153 : decode b_Mo_spread 153 = .ok (.getfield 48, 3) := by decide +kernel
theorem d_Mo_spread_156 : decode b_Mo_spread 156 = .ok (.aload_n 0, 1) := by decide +kernel
theorem d_Mo_spread_157 : decode b_Mo_spread 157 = .ok (.getfield 123, 3) := by decide +kernel
theorem d_Mo_spread_160 : decode b_Mo_spread 160 = .ok (.iload_n 2, 1) := by decide +kernel
theorem d_Mo_spread_161 : decode b_Mo_spread 161 = .ok (.iastore, 1) := by decide +kernel
theorem d_Mo_spread_162 : decode b_Mo_spread 162 = .ok (.aload_n 0, 1) := by decide +kernel
theorem d_Mo_spread_163 : decode b_Mo_spread 163 = .ok (.dup, 1) := by decide +kernel
theorem d_Mo_spread_164 : decode b_Mo_spread 164 = .ok (.getfield 123, 3) := by decide +kernel
theorem d_Mo_spread_167 : decode b_Mo_spread 167 = .ok (.iconst 1, 1) := by decide +kernel
theorem d_Mo_spread_168 : decode b_Mo_spread 168 = .ok (.iadd, 1) := by decide +kernel
theorem d_Mo_spread_169 : decode b_Mo_spread 169 = .ok (.putfield 123, 3) := by decide +kernel
theorem d_Mo_spread_172 : decode b_Mo_spread 172 = .ok (.aload_n 0, 1) := by decide +kernel
theorem d_Mo_spread_173 : decode b_Mo_spread 173 = .ok (.getfield 16, 3) := by decide +kernel
theorem d_Mo_spread_176 : decode b_Mo_spread 176 = .ok (.iload_n 2, 1) := by decide +kernel
theorem d_Mo_spread_177 : decode b_Mo_spread 177 = .ok (.iaload, 1) := by decide +kernel
theorem d_Mo_spread_178 : decode b_Mo_spread 178 = .ok (.iconst 1, 1) := by decide +kernel
theorem d_Mo_spread_179 : decode b_Mo_spread 179 = .ok (.if_icmp .ne 5, 3) := by decide +kernel
theorem d_Mo_spread_182 : decode b_Mo_spread 182 = .ok (.iconst 0, 1) := by decide +kernel
theorem d_Mo_spread_183 : decode b_Mo_spread 183 = .ok (.ireturn, 1) := by decide +kernel
theorem d_Mo_spread_184 : decode b_Mo_spread 184 = .ok (.iinc 3 1, 3) := by decide +kernel
theorem d_Mo_spread_187 : decode b_Mo_spread 187 = .ok (.goto (-123), 3) := by decide +kernel
theorem d_Mo_spread_190 : decode b_Mo_spread 190 = .ok (.iconst 1, 1) := by decide +kernel
theorem d_Mo_spread_191 : decode b_Mo_spread 191 = .ok (.ireturn, 1) := by decide +kernel
theorem d_Mo_mark_0 : decode b_Mo_mark 0 = .ok (.aload_n 0, 1) := by decide +kernel
theorem d_Mo_mark_1 : decode b_Mo_mark 1 = .ok (.getfield 19, 3) := by decide +kernel
theorem d_Mo_mark_4 : decode b_Mo_mark 4 = .ok (.iload_n 1, 1) := by decide +kernel
theorem d_Mo_mark_5 : decode b_Mo_mark 5 = .ok (.iaload, 1) := by decide +kernel
theorem d_Mo_mark_6 : decode b_Mo_mark 6 = .ok (.ifCond .ne 20, 3) := by decide +kernel
theorem d_Mo_mark_9 : decode b_Mo_mark 9 = .ok (.aload_n 0, 1) := by decide +kernel
theorem d_Mo_mark_10 : decode b_Mo_mark 10 = .ok (.getfield 60, 3) := by decide +kernel
theorem d_Mo_mark_13 : decode b_Mo_mark 13 = .ok (.aload_n 0, 1) := by decide +kernel
theorem d_Mo_mark_14 : decode b_Mo_mark 14 = .ok (.getfield 32, 3) := by decide +kernel
theorem d_Mo_mark_17 : decode b_Mo_mark 17 = .ok (.aload_n 0, 1) := by decide +kernel
theorem d_Mo_mark_18 : decode b_Mo_mark 18 = .ok (.iload_n 1, 1) := by decide +kernel
theorem d_Mo_mark_19 : decode b_Mo_mark 19 = .ok (.iload_n 2, 1) := by decide +kernel
theorem d_Mo_mark_20 : decode b_Mo_mark 20 = .ok (.invokevirtual 161, 3) := by decide +kernel
theorem d_Mo_mark_23 : decode b_Mo_mark 23 = .ok (.iaload, 1) := by decide +kernel
theorem d_Mo_mark_24 : decode b_Mo_mark 24 = .ok (.iconst 1, 1) := by decide +kernel
theorem d_Mo_mark_25 : decode b_Mo_mark 25 = .ok (.iastore, 1) := by decide +kernel
theorem d_Mo_mark_26 : decode b_Mo_mark 26 = .ok (.aload_n 0, 1) := by decide +kernel
theorem d_Mo_mark_27 : decode b_Mo_mark 27 = .ok (.getfield 19, 3) := by decide +kernel
theorem d_Mo_mark_30 : decode b_Mo_mark 30 = .ok (.iload_n 1, 1) := by decide +kernel
theorem d_Mo_mark_31 : decode b_Mo_mark 31 = .ok (.iaload, 1) := by decide +kernel
theorem d_Mo_mark_32 : decode b_Mo_mark 32 = .ok (.iconst 2, 1) := by decide +kernel
theorem d_Mo_mark_33 : decode b_Mo_mark 33 = .ok (.if_icmp .ne 24, 3) := by decide +kernel
theorem d_Mo_mark_36 : decode b_Mo_mark 36 = .ok (.aload_n 0, 1) := by decide +kernel
theorem d_Mo_mark_37 : decode b_Mo_mark 37 = .ok (.iload_n 1, 1) := by decide +kernel
theorem d_Mo_mark_38 : decode b_Mo_mark 38 = .ok (.iload_n 2, 1) := by decide +kernel
theorem d_Mo_mark_39 : decode b_Mo_mark 39 = .ok (.invokevirtual 164, 3) := by decide +kernel
theorem d_Mo_mark_42 : decode b_Mo_mark 42 = .ok (.ifCond .eq 15, 3) := by decide +kernel
theorem d_Mo_mark_45 : decode b_Mo_mark 45 = .ok (.aload_n 0, 1) := by decide +kernel
theorem d_Mo_mark_46 : decode b_Mo_mark 46 = .ok (.getfield 60, 3) := by decide +kernel
theorem d_Mo_mark_49 : decode b_Mo_mark 49 = .ok (.aload_n 0, 1) := by decide +kernel
theorem d_Mo_mark_50 : decode b_Mo_mark 50 = .ok (.getfield 32, 3) := by decide +kernel
theorem d_Mo_mark_53 : decode b_Mo_mark 53 = .ok (.iload_n 2, 1) := by decide +kernel
theorem d_Mo_mark_54 : decode b_Mo_mark 54 = .ok (.iaload, 1) := by decide +kernel
theorem d_Mo_mark_55 : decode b_Mo_mark 55 = .ok (.iconst 1, 1) := by decide +kernel
theorem d_Mo_mark_56 : decode b_Mo_mark 56 = .ok (.iastore, 1) := by decide +kernel
theorem d_Mo_mark_57 : decode b_Mo_mark 57 = .ok (.iconst 0, 1) := by decide +kernel
theorem d_Mo_mark_58 : decode b_Mo_mark 58 = .ok (.istore_n 3, 1) := by decide +kernel
theorem d_Mo_mark_59 : decode b_Mo_mark 59 = .ok (.iload_n 3, 1) := by decide +kernel
theorem d_Mo_mark_60 : decode b_Mo_mark 60 = .ok (.aload_n 0, 1) := by decide +kernel
theorem d_Mo_mark_61 : decode b_Mo_mark 61 = .ok (.getfield 79, 3) := by decide +kernel
theorem d_Mo_mark_64 : decode b_Mo_mark 64 = .ok (.if_icmp .gt 42, 3) := by decide +kernel
theorem d_Mo_mark_67 : decode b_Mo_mark 67 = .ok (.aload_n 0, 1) := by decide +kernel
theorem d_Mo_mark_68 : decode b_Mo_mark 68 = .ok (.getfield 19, 3) := by decide +kernel
theorem d_Mo_mark_71 : decode b_Mo_mark 71 = .ok (.iload_n 1, 1) := by decide +kernel
theorem d_Mo_mark_72 : decode b_Mo_mark 72 = .ok (.iaload, 1) := by decide +kernel
theorem d_Mo_mark_73 : decode b_Mo_mark 73 = .ok (.iconst 1, 1) := by decide +kernel
theorem d_Mo_mark_74 : decode b_Mo_mark 74 = .ok (.if_icmp .ne 32, 3) := by decide +kernel
theorem d_Mo_mark_77 : decode b_Mo_mark 77 = .ok (.aload_n 0, 1) := by decide +kernel
theorem d_Mo_mark_78 : decode b_Mo_mark 78 = .ok (.getfield 60, 3) := by decide +kernel
theorem d_Mo_mark_81 : decode b_Mo_mark 81 = .ok (.aload_n 0, 1) := by decide +kernel
theorem d_Mo_mark_82 : decode b_Mo_mark 82 = .ok (.getfield 32, 3) := by decide +kernel
theorem d_Mo_mark_85 : decode b_Mo_mark 85 = .ok (.aload_n 0, 1) := by decide +kernel
theorem d_Mo_mark_86 : decode b_Mo_mark 86 = .ok (.iload_n 2, 1) := by decide +kernel
theorem d_Mo_mark_87 : decode b_Mo_mark 87 = .ok (.aload_n 0, 1) := by decide +kernel
theorem d_Mo_mark_88 : decode b_Mo_mark 88 = .ok (.getfield 22, 3) := by decide +kernel
theorem d_Mo_mark_91 : decode b_Mo_mark 91 = .ok (.iload_n 1, 1) := by decide +kernel
theorem d_Mo_mark_92 : decode b_Mo_mark 92 = .ok (.iaload, 1) := by decide +kernel
theorem d_Mo_mark_93 : decode b_Mo_mark 93 = .ok (.iload_n 3, 1) := by decide +kernel
theorem d_Mo_mark_94 : decode b_Mo_mark 94 = .ok (.invokevirtual 152, 3) := by decide +kernel
theorem d_Mo_mark_97 : decode b_Mo_mark 97 = .ok (.iaload, 1) := by decide +kernel
theorem d_Mo_mark_98 : decode b_Mo_mark 98 = .ok (.iconst 1, 1) := by decide +kernel
theorem d_Mo_mark_99 : decode b_Mo_mark 99 = .ok (.iastore, 1) := by decide +kernel
theorem d_Mo_mark_100 : decode b_Mo_mark 100 = .ok (.iinc 3 1, 3) := by decide +kernel
theorem d_Mo_mark_103 : decode b_Mo_mark 103 = .ok (.goto (-44), 3) := by decide +kernel
theorem d_Mo_mark_106 : decode b_Mo_mark 106 = .ok (.return_, 1) := by decide +kernel
theorem d_Mo_led_0 : decode b_Mo_led 0 = .ok (.aload_n 0, 1) := by decide +kernel
theorem d_Mo_led_1 : decode b_Mo_led 1 = .ok (.iload_n 2, 1) := by decide +kernel
theorem d_Mo_led_2 : decode b_Mo_led 2 = .ok (.aload_n 0, 1) := by decide +kernel
theorem d_Mo_led_3 : decode b_Mo_led 3 = .ok (.getfield 22, 3) := by decide +kernel
theorem d_Mo_led_6 : decode b_Mo_led 6 = .ok (.iload_n 1, 1) := by decide +kernel
theorem d_Mo_led_7 : decode b_Mo_led 7 = .ok (.iaload, 1) := by decide +kernel
theorem d_Mo_led_8 : decode b_Mo_led 8 = .ok (.aload_n 0, 1) := by decide +kernel
theorem d_Mo_led_9 : decode b_Mo_led 9 = .ok (.getfield 25, 3) := by decide +kernel
theorem d_Mo_led_12 : decode b_Mo_led 12 = .ok (.bipush 24, 2) := by decide +kernel
theorem d_Mo_led_14 : decode b_Mo_led 14 = .ok (.iload_n 1, 1) := by decide +kernel
theorem d_Mo_led_15 : decode b_Mo_led 15 = .ok (.imul, 1) := by decide +kernel
theorem d_Mo_led_16 : decode b_Mo_led 16 = .ok (.iload_n 2, 1) := by decide +kernel
theorem d_Mo_led_17 : decode b_Mo_led 17 = .ok (.invokestatic 148, 3) := by decide +kernel
theorem d_Mo_led_20 : decode b_Mo_led 20 = .ok (.aload_n 0, 1) := by decide +kernel
theorem d_Mo_led_21 : decode b_Mo_led 21 = .ok (.getfield 25, 3) := by decide +kernel
theorem d_Mo_led_24 : decode b_Mo_led 24 = .ok (.bipush 24, 2) := by decide +kernel
theorem d_Mo_led_26 : decode b_Mo_led 26 = .ok (.iload_n 1, 1) := by decide +kernel
theorem d_Mo_led_27 : decode b_Mo_led 27 = .ok (.imul, 1) := by decide +kernel
theorem d_Mo_led_28 : decode b_Mo_led 28 = .ok (.bipush 8, 2) := by decide +kernel
theorem d_Mo_led_30 : decode b_Mo_led 30 = .ok (.iadd, 1) := by decide +kernel
theorem d_Mo_led_31 : decode b_Mo_led 31 = .ok (.iload_n 2, 1) := by decide +kernel
theorem d_Mo_led_32 : decode b_Mo_led 32 = .ok (.invokestatic 148, 3) := by decide +kernel
theorem d_Mo_led_35 : decode b_Mo_led 35 = .ok (.iconst 1, 1) := by decide +kernel
theorem d_Mo_led_36 : decode b_Mo_led 36 = .ok (.ishl, 1) := by decide +kernel
theorem d_Mo_led_37 : decode b_Mo_led 37 = .ok (.ior, 1) := by decide +kernel
theorem d_Mo_led_38 : decode b_Mo_led 38 = .ok (.aload_n 0, 1) := by decide +kernel
theorem d_Mo_led_39 : decode b_Mo_led 39 = .ok (.getfield 25, 3) := by decide +kernel
theorem d_Mo_led_42 : decode b_Mo_led 42 = .ok (.bipush 24, 2) := by decide +kernel
theorem d_Mo_led_44 : decode b_Mo_led 44 = .ok (.iload_n 1, 1) := by decide +kernel
theorem d_Mo_led_45 : decode b_Mo_led 45 = .ok (.imul, 1) := by decide +kernel
theorem d_Mo_led_46 : decode b_Mo_led 46 = .ok (.bipush 16, 2) := by decide +kernel
theorem d_Mo_led_48 : decode b_Mo_led 48 = .ok (.iadd, 1) := by decide +kernel
theorem d_Mo_led_49 : decode b_Mo_led 49 = .ok (.iload_n 2, 1) := by decide +kernel
theorem d_Mo_led_50 : decode b_Mo_led 50 = .ok (.invokestatic 148, 3) := by decide +kernel
theorem d_Mo_led_53 : decode b_Mo_led 53 = .ok (.iconst 2, 1) := by decide +kernel
theorem d_Mo_led_54 : decode b_Mo_led 54 = .ok (.ishl, 1) := by decide +kernel
theorem d_Mo_led_55 : decode b_Mo_led 55 = .ok (.ior, 1) := by decide +kernel
theorem d_Mo_led_56 : decode b_Mo_led 56 = .ok (.invokevirtual 152, 3) := by decide +kernel
theorem d_Mo_led_59 : decode b_Mo_led 59 = .ok (.ireturn, 1) := by decide +kernel
theorem d_Mo_bit_0 : decode b_Mo_bit 0 = .ok (.aload_n 0, 1) := by decide +kernel
theorem d_Mo_bit_1 : decode b_Mo_bit 1 = .ok (.iload_n 1, 1) := by decide +kernel
theorem d_Mo_bit_2 : decode b_Mo_bit 2 = .ok (.iload_n 2, 1) := by decide +kernel
theorem d_Mo_bit_3 : decode b_Mo_bit 3 = .ok (.bipush 64, 2) := by decide +kernel
theorem d_Mo_bit_5 : decode b_Mo_bit 5 = .ok (.idiv, 1) := by decide +kernel
theorem d_Mo_bit_6 : decode b_Mo_bit 6 = .ok (.iadd, 1) := by decide +kernel
theorem d_Mo_bit_7 : decode b_Mo_bit 7 = .ok (.laload, 1) := by decide +kernel
theorem d_Mo_bit_8 : decode b_Mo_bit 8 = .ok (.iload_n 2, 1) := by decide +kernel
theorem d_Mo_bit_9 : decode b_Mo_bit 9 = .ok (.bipush 64, 2) := by decide +kernel
theorem d_Mo_bit_11 : decode b_Mo_bit 11 = .ok (.irem, 1) := by decide +kernel
theorem d_Mo_bit_12 : decode b_Mo_bit 12 = .ok (.lshr, 1) := by decide +kernel
theorem d_Mo_bit_13 : decode b_Mo_bit 13 = .ok (.l2i, 1) := by decide +kernel
theorem d_Mo_bit_14 : decode b_Mo_bit 14 = .ok (.iconst 1, 1) := by decide +kernel
theorem d_Mo_bit_15 : decode b_Mo_bit 15 = .ok (.iand, 1) := by decide +kernel
theorem d_Mo_bit_16 : decode b_Mo_bit 16 = .ok (.ireturn, 1) := by decide +kernel
theorem d_Mo_with_0 : decode b_Mo_with 0 = .ok (.iload_n 1, 1) := by decide +kernel
theorem d_Mo_with_1 : decode b_Mo_with 1 = .ok (.aload_n 0, 1) := by decide +kernel
theorem d_Mo_with_2 : decode b_Mo_with 2 = .ok (.getfield 79, 3) := by decide +kernel
theorem d_Mo_with_5 : decode b_Mo_with 5 = .ok (.iload_n 2, 1) := by decide +kernel
theorem d_Mo_with_6 : decode b_Mo_with 6 = .ok (.aload_n 0, 1) := by decide +kernel
theorem d_Mo_with_7 : decode b_Mo_with 7 = .ok (.getfield 76, 3) := by decide +kernel
theorem d_Mo_with_10 : decode b_Mo_with 10 = .ok (.imul, 1) := by decide +kernel
theorem d_Mo_with_11 : decode b_Mo_with 11 = .ok (.ishl, 1) := by decide +kernel
theorem d_Mo_with_12 : decode b_Mo_with 12 = .ok (.iconst (-1), 1) := by decide +kernel
theorem d_Mo_with_13 : decode b_Mo_with 13 = .ok (.ixor, 1) := by decide +kernel
theorem d_Mo_with_14 : decode b_Mo_with 14 = .ok (.iand, 1) := by decide +kernel
theorem d_Mo_with_15 : decode b_Mo_with 15 = .ok (.iload_n 3, 1) := by decide +kernel
theorem d_Mo_with_16 : decode b_Mo_with 16 = .ok (.aload_n 0, 1) := by decide +kernel
theorem d_Mo_with_17 : decode b_Mo_with 17 = .ok (.getfield 79, 3) := by decide +kernel
theorem d_Mo_with_20 : decode b_Mo_with 20 = .ok (.iand, 1) := by decide +kernel
theorem d_Mo_with_21 : decode b_Mo_with 21 = .ok (.iload_n 2, 1) := by decide +kernel
theorem d_Mo_with_22 : decode b_Mo_with 22 = .ok (.aload_n 0, 1) := by decide +kernel
theorem d_Mo_with_23 : decode b_Mo_with 23 = .ok (.getfield 76, 3) := by decide +kernel
theorem d_Mo_with_26 : decode b_Mo_with 26 = .ok (.imul, 1) := by decide +kernel
theorem d_Mo_with_27 : decode b_Mo_with 27 = .ok (.ishl, 1) := by decide +kernel
theorem d_Mo_with_28 : decode b_Mo_with 28 = .ok (.ior, 1) := by decide +kernel
theorem d_Mo_with_29 : decode b_Mo_with 29 = .ok (.ireturn, 1) := by decide +kernel
theorem d_Mo_isOn_0 : decode b_Mo_isOn 0 = .ok (.aload_n 0, 1) := by decide +kernel
theorem d_Mo_isOn_1 : decode b_Mo_isOn 1 = .ok (.getfield 25, 3) := by decide +kernel
theorem d_Mo_isOn_4 : decode b_Mo_isOn 4 = .ok (.bipush 24, 2) := by decide +kernel
theorem d_Mo_isOn_6 : decode b_Mo_isOn 6 = .ok (.iload_n 1, 1) := by decide +kernel
theorem d_Mo_isOn_7 : decode b_Mo_isOn 7 = .ok (.imul, 1) := by decide +kernel
theorem d_Mo_isOn_8 : decode b_Mo_isOn 8 = .ok (.iload_n 2, 1) := by decide +kernel
theorem d_Mo_isOn_9 : decode b_Mo_isOn 9 = .ok (.invokestatic 148, 3) := by decide +kernel
theorem d_Mo_isOn_12 : decode b_Mo_isOn 12 = .ok (.iconst 1, 1) := by decide +kernel
theorem d_Mo_isOn_13 : decode b_Mo_isOn 13 = .ok (.if_icmp .ne 7, 3) := by decide +kernel
theorem d_Mo_isOn_16 : decode b_Mo_isOn 16 = .ok (.iconst 1, 1) := by decide +kernel
theorem d_Mo_isOn_17 : decode b_Mo_isOn 17 = .ok (.goto 4, 3) := by decide +kernel
theorem d_Mo_isOn_20 : decode b_Mo_isOn 20 = .ok (.iconst 0, 1) := by decide +kernel
theorem d_Mo_isOn_21 : decode b_Mo_isOn 21 = .ok (.ireturn, 1) := by decide +kernel
theorem d_Mo_known_0 : decode b_Mo_known 0 = .ok (.iconst 0, 1) := by decide +kernel
theorem d_Mo_known_1 : decode b_Mo_known 1 = .ok (.istore_n 3, 1) := by decide +kernel
theorem d_Mo_known_2 : decode b_Mo_known 2 = .ok (.iload_n 3, 1) := by decide +kernel
theorem d_Mo_known_3 : decode b_Mo_known 3 = .ok (.aload_n 0, 1) := by decide +kernel
theorem d_Mo_known_4 : decode b_Mo_known 4 = .ok (.getfield 123, 3) := by decide +kernel
theorem d_Mo_known_7 : decode b_Mo_known 7 = .ok (.if_icmp .ge 31, 3) := by decide +kernel
theorem d_Mo_known_10 : decode b_Mo_known 10 = .ok (.aload_n 0, 1) := by decide +kernel
theorem d_Mo_known_11 : decode b_Mo_known 11 = .ok (.getfield 39, 3) := by decide +kernel
theorem d_Mo_known_14 : decode b_Mo_known 14 = .ok (.iload_n 3, 1) := by decide +kernel
theorem d_Mo_known_15 : decode b_Mo_known 15 = .ok (.iaload, 1) := by decide +kernel
theorem d_Mo_known_16 : decode b_Mo_known 16 = .ok (.iload_n 1, 1) := by decide +kernel
theorem d_Mo_known_17 : decode b_Mo_known 17 = .ok (.if_icmp .ne 15, 3) := by decide +kernel
theorem d_Mo_known_20 : decode b_Mo_known 20 = .ok (.aload_n 0, 1) := by decide +kernel
theorem d_Mo_known_21 : decode b_Mo_known 21 = .ok (.getfield 42, 3) := by decide +kernel
theorem d_Mo_known_24 : decode b_Mo_known 24 = .ok (.iload_n 3, 1) := by decide +kernel
theorem d_Mo_known_25 : decode b_Mo_known 25 = .ok (.iaload, 1) := by decide +kernel
theorem d_Mo_known_26 : decode b_Mo_known 26 = .ok (.iload_n 2, 1) := by decide +kernel
theorem d_Mo_known_27 : decode b_Mo_known 27 = .ok (.if_icmp .ne 5, 3) := by decide +kernel
theorem d_Mo_known_30 : decode b_Mo_known 30 = .ok (.iconst 1, 1) := by decide +kernel
theorem d_Mo_known_31 : decode b_Mo_known 31 = .ok (.ireturn, 1) := by decide +kernel
theorem d_Mo_known_32 : decode b_Mo_known 32 = .ok (.iinc 3 1, 3) := by decide +kernel
theorem d_Mo_known_35 : decode b_Mo_known 35 = .ok (.goto (-33), 3) := by decide +kernel
theorem d_Mo_known_38 : decode b_Mo_known 38 = .ok (.iconst 0, 1) := by decide +kernel
theorem d_Mo_known_39 : decode b_Mo_known 39 = .ok (.ireturn, 1) := by decide +kernel
theorem d_Mo_isTrue_0 : decode b_Mo_isTrue 0 = .ok (.iconst 0, 1) := by decide +kernel
theorem d_Mo_isTrue_1 : decode b_Mo_isTrue 1 = .ok (.istore_n 1, 1) := by decide +kernel
theorem d_Mo_isTrue_2 : decode b_Mo_isTrue 2 = .ok (.iload_n 1, 1) := by decide +kernel
theorem d_Mo_isTrue_3 : decode b_Mo_isTrue 3 = .ok (.aload_n 0, 1) := by decide +kernel
theorem d_Mo_isTrue_4 : decode b_Mo_isTrue 4 = .ok (.getfield 82, 3) := by decide +kernel
theorem d_Mo_isTrue_7 : decode b_Mo_isTrue 7 = .ok (.if_icmp .ge 16, 3) := by decide +kernel
theorem d_Mo_isTrue_10 : decode b_Mo_isTrue 10 = .ok (.aload_n 0, 1) := by decide +kernel
theorem d_Mo_isTrue_11 : decode b_Mo_isTrue 11 = .ok (.getfield 66, 3) := by decide +kernel
theorem d_Mo_isTrue_14 : decode b_Mo_isTrue 14 = .ok (.iload_n 1, 1) := by decide +kernel
theorem d_Mo_isTrue_15 : decode b_Mo_isTrue 15 = .ok (.iconst 1, 1) := by decide +kernel
theorem d_Mo_isTrue_16 : decode b_Mo_isTrue 16 = .ok (.bastore, 1) := by decide +kernel
theorem d_Mo_isTrue_17 : decode b_Mo_isTrue 17 = .ok (.iinc 1 1, 3) := by decide +kernel
theorem d_Mo_isTrue_20 : decode b_Mo_isTrue 20 = .ok (.goto (-18), 3) := by decide +kernel
theorem d_Mo_isTrue_23 : decode b_Mo_isTrue 23 = .ok (.aload_n 0, 1) := by decide +kernel
theorem d_Mo_isTrue_24 : decode b_Mo_isTrue 24 = .ok (.aload_n 0, 1) := by decide +kernel
theorem d_Mo_isTrue_25 : decode b_Mo_isTrue 25 = .ok (.getfield 51, 3) := by decide +kernel
theorem d_Mo_isTrue_28 : decode b_Mo_isTrue 28 = .ok (.invokevirtual 183, 3) := by decide +kernel
theorem d_Mo_isTrue_31 : decode b_Mo_isTrue 31 = .ok (.aload_n 0, 1) := by decide +kernel
theorem d_Mo_isTrue_32 : decode b_Mo_isTrue 32 = .ok (.getfield 51, 3) := by decide +kernel
theorem d_Mo_isTrue_35 : decode b_Mo_isTrue 35 = .ok (.iconst 1, 1) := by decide +kernel
theorem d_Mo_isTrue_36 : decode b_Mo_isTrue 36 = .ok (.isub, 1) := by decide +kernel
theorem d_Mo_isTrue_37 : decode b_Mo_isTrue 37 = .ok (.istore_n 1, 1) := by decide +kernel
theorem d_Mo_isTrue_38 : decode b_Mo_isTrue 38 = .ok (.iload_n 1, 1) := by decide +kernel
theorem d_Mo_isTrue_39 : decode b_Mo_isTrue 39 = .ok (.ifCond .lt 24, 3) := by decide +kernel
theorem d_Mo_isTrue_42 : decode b_Mo_isTrue 42 = .ok (.aload_n 0, 1) := by decide +kernel
theorem d_Mo_isTrue_43 : decode b_Mo_isTrue 43 = .ok (.aload_n 0, 1) := by decide +kernel
theorem d_Mo_isTrue_44 : decode b_Mo_isTrue 44 = .ok (.getfield 54, 3) := by decide +kernel
theorem d_Mo_isTrue_47 : decode b_Mo_isTrue 47 = .ok (.iload_n 1, 1) := by decide +kernel
theorem d_Mo_isTrue_48 : decode b_Mo_isTrue 48 = .ok (.iaload, 1) := by decide +kernel
theorem d_Mo_isTrue_49 : decode b_Mo_isTrue 49 = .ok (.invokevirtual 187, 3) := by decide +kernel
theorem d_Mo_isTrue_52 : decode b_Mo_isTrue 52 = .ok (.aload_n 0, 1) := by decide +kernel
theorem d_Mo_isTrue_53 : decode b_Mo_isTrue 53 = .ok (.iload_n 1, 1) := by decide +kernel
theorem d_Mo_isTrue_54 : decode b_Mo_isTrue 54 = .ok (.invokevirtual 183, 3) := by decide +kernel
theorem d_Mo_isTrue_57 : decode b_Mo_isTrue 57 = .ok (.iinc 1 (-1), 3) := by decide +kernel
theorem d_Mo_isTrue_60 : decode b_Mo_isTrue 60 = .ok (.goto (-22), 3) := by decide +kernel
theorem d_Mo_isTrue_63 : decode b_Mo_isTrue 63 = .ok (.aload_n 0, 1) := by decide +kernel
theorem d_Mo_isTrue_64 : decode b_Mo_isTrue 64 = .ok (.iconst 0, 1) := by decide +kernel
theorem d_Mo_isTrue_65 : decode b_Mo_isTrue 65 = .ok (.iconst 0, 1) := by decide +kernel
theorem d_Mo_isTrue_66 : decode b_Mo_isTrue 66 = .ok (.invokevirtual 180, 3) := by decide +kernel
theorem d_Mo_isTrue_69 : decode b_Mo_isTrue 69 = .ok (.ifCond .ne 5, 3) := by decide +kernel
theorem d_Mo_isTrue_72 : decode b_Mo_isTrue 72 = .ok (.iconst 0, 1) := by decide +kernel
theorem d_Mo_isTrue_73 : decode b_Mo_isTrue 73 = .ok (.ireturn, 1) := by decide +kernel
theorem d_Mo_isTrue_74 : decode b_Mo_isTrue 74 = .ok (.iconst 0, 1) := by decide +kernel
theorem d_Mo_isTrue_75 : decode b_Mo_isTrue 75 = .ok (.istore_n 1, 1) := by decide +kernel
theorem d_Mo_isTrue_76 : decode b_Mo_isTrue 76 = .ok (.aload_n 0, 1) := by decide +kernel
theorem d_Mo_isTrue_77 : decode b_Mo_isTrue 77 = .ok (.iconst 0, 1) := by decide +kernel
theorem d_Mo_isTrue_78 : decode b_Mo_isTrue 78 = .ok (.putfield 126, 3) := by decide +kernel
theorem d_Mo_isTrue_81 : decode b_Mo_isTrue 81 = .ok (.iconst 0, 1) := by decide +kernel
theorem d_Mo_isTrue_82 : decode b_Mo_isTrue 82 = .ok (.istore_n 2, 1) := by decide +kernel
theorem d_Mo_isTrue_83 : decode b_Mo_isTrue 83 = .ok (.iload_n 2, 1) := by decide +kernel
theorem d_Mo_isTrue_84 : decode b_Mo_isTrue 84 = .ok (.aload_n 0, 1) := by decide +kernel
theorem d_Mo_isTrue_85 : decode b_Mo_isTrue 85 = .ok (.getfield 51, 3) := by decide +kernel
theorem d_Mo_isTrue_88 : decode b_Mo_isTrue 88 = .ok (.if_icmp .ge 112, 3) := by decide +kernel
theorem d_Mo_isTrue_91 : decode b_Mo_isTrue 91 = .ok (.aload_n 0, 1) := by decide +kernel
theorem d_Mo_isTrue_92 : decode b_Mo_isTrue 92 = .ok (.getfield 54, 3) := by decide +kernel
theorem d_Mo_isTrue_95 : decode b_Mo_isTrue 95 = .ok (.iload_n 2, 1) := by decide +kernel
theorem d_Mo_isTrue_96 : decode b_Mo_isTrue 96 = .ok (.iaload, 1) := by decide +kernel
theorem d_Mo_isTrue_97 : decode b_Mo_isTrue 97 = .ok (.istore_n 3, 1) := by decide +kernel
theorem d_Mo_isTrue_98 : decode b_Mo_isTrue 98 = .ok (.aload_n 0, 1) := by decide +kernel
theorem d_Mo_isTrue_99 : decode b_Mo_isTrue 99 = .ok (.getfield 19, 3) := by decide +kernel
theorem d_Mo_isTrue_102 : decode b_Mo_isTrue 102 = .ok (.iload_n 3, 1) := by decide +kernel
theorem d_Mo_isTrue_103 : decode b_Mo_isTrue 103 = .ok (.iaload, 1) := by decide +kernel
theorem d_Mo_isTrue_104 : decode b_Mo_isTrue 104 = .ok (.ifCond .ne 10, 3) := by decide +kernel
theorem d_Mo_isTrue_107 : decode b_Mo_isTrue 107 = .ok (.aload_n 0, 1) := by decide +kernel
theorem d_Mo_isTrue_108 : decode b_Mo_isTrue 108 = .ok (.iload_n 3, 1) := by decide +kernel
theorem d_Mo_isTrue_109 : decode b_Mo_isTrue 109 = .ok (.iload_n 1, 1) := by decide +kernel
theorem d_Mo_isTrue_110 : decode b_Mo_isTrue 110 = .ok (.invokevirtual 161, 3) := by decide +kernel
theorem d_Mo_isTrue_113 : decode b_Mo_isTrue 113 = .ok (.istore_n 1, 1) := by decide +kernel
theorem d_Mo_isTrue_114 : decode b_Mo_isTrue 114 = .ok (.aload_n 0, 1) := by decide +kernel
theorem d_Mo_isTrue_115 : decode b_Mo_isTrue 115 = .ok (.getfield 19, 3) := by decide +kernel
theorem d_Mo_isTrue_118 : decode b_Mo_isTrue 118 = .ok (.iload_n 3, 1) := by decide +kernel
theorem d_Mo_isTrue_119 : decode b_Mo_isTrue 119 = .ok (.iaload, 1) := by decide +kernel
theorem d_Mo_isTrue_120 : decode b_Mo_isTrue 120 = .ok (.iconst 1, 1) := by decide +kernel
theorem d_Mo_isTrue_121 : decode b_Mo_isTrue 121 = .ok (.if_icmp .eq 6, 3) := by decide +kernel
theorem d_Mo_isTrue_124 : decode b_Mo_isTrue 124 = .ok (.goto 70, 3) := by decide +kernel
theorem d_Mo_isTrue_127 : decode b_Mo_isTrue 127 = .ok (.iconst 0, 1) := by decide +kernel
theorem d_Mo_isTrue_128 : decode b_Mo_isTrue 128 = .ok (.istore 4, 2) := by decide +kernel
theorem d_Mo_isTrue_130 : decode b_Mo_isTrue 130 = .ok (.aload_n 0, 1) := by decide +kernel
theorem d_Mo_isTrue_131 : decode b_Mo_isTrue 131 = .ok (.iload_n 2, 1) := by decide +kernel
theorem d_Mo_isTrue_132 : decode b_Mo_isTrue 132 = .ok (.iconst 1, 1) := by decide +kernel
theorem d_Mo_isTrue_133 : decode b_Mo_isTrue 133 = .ok (.iadd, 1) := by decide +kernel
theorem d_Mo_isTrue_134 : decode b_Mo_isTrue 134 = .ok (.aload_n 0, 1) := by decide +kernel
theorem d_Mo_isTrue_135 : decode b_Mo_isTrue 135 = .ok (.iload_n 1, 1) := by decide +kernel
theorem d_Mo_isTrue_136 : decode b_Mo_isTrue 136 = .ok (.aload_n 0, 1) := by decide +kernel
theorem d_Mo_isTrue_137 : decode b_Mo_isTrue 137 = .ok (.getfield 22, 3) := by decide +kernel
theorem d_Mo_isTrue_140 : decode b_Mo_isTrue 140 = .ok (.iload_n 3, 1) := by decide +kernel
theorem d_Mo_isTrue_141 : decode b_Mo_isTrue 141 = .ok (.iaload, 1) := by decide +kernel
theorem d_Mo_isTrue_142 : decode b_Mo_isTrue 142 = .ok (.iload 4, 2) := by decide +kernel
theorem d_Mo_isTrue_144 : decode b_Mo_isTrue 144 = .ok (.invokevirtual 152, 3) := by decide +kernel
theorem d_Mo_isTrue_147 : decode b_Mo_isTrue 147 = .ok (.invokevirtual 180, 3) := by decide +kernel
theorem d_Mo_isTrue_150 : decode b_Mo_isTrue 150 = .ok (.ifCond .ne 9, 3) := by decide +kernel
theorem d_Mo_isTrue_153 : decode b_Mo_isTrue 153 = .ok (.iinc 4 1, 3) := by decide +kernel
theorem d_Mo_isTrue_156 : decode b_Mo_isTrue 156 = .ok (.goto (-26), 3) := by decide +kernel
theorem d_Mo_isTrue_159 : decode b_Mo_isTrue 159 = .ok (.aload_n 0, 1) := by decide +kernel
theorem d_Mo_isTrue_160 : decode b_Mo_isTrue 160 = .ok (.iload_n 1, 1) := by decide +kernel
theorem d_Mo_isTrue_161 : decode b_Mo_isTrue 161 = .ok (.aload_n 0, 1) := by decide +kernel
theorem d_Mo_isTrue_162 : decode b_Mo_isTrue 162 = .ok (.getfield 22, 3) := by decide +kernel
theorem d_Mo_isTrue_165 : decode b_Mo_isTrue 165 = .ok (.iload_n 3, 1) := by decide +kernel
theorem d_Mo_isTrue_166 : decode b_Mo_isTrue 166 = .ok (.iaload, 1) := by decide +kernel
theorem d_Mo_isTrue_167 : decode b_Mo_isTrue 167 = .ok (.iload 4, 2) := by decide +kernel
theorem d_Mo_isTrue_169 : decode b_Mo_isTrue 169 = .ok (.invokevirtual 152, 3) := by decide +kernel
theorem d_Mo_isTrue_172 : decode b_Mo_isTrue 172 = .ok (.istore_n 1, 1) := by decide +kernel
theorem d_Mo_isTrue_173 : decode b_Mo_isTrue 173 = .ok (.aload_n 0, 1) := by decide +kernel
theorem d_Mo_isTrue_174 : decode b_Mo_isTrue 174 = .ok (.getfield 57, 3) := by decide +kernel
theorem d_Mo_isTrue_177 : decode b_Mo_isTrue 177 = .ok (.aload_n 0, 1) := by decide +kernel
theorem d_Mo_isTrue_178 : decode b_Mo_isTrue 178 = .ok (.getfield 126, 3) := by decide +kernel
theorem d_Mo_isTrue_181 : decode b_Mo_isTrue 181 = .ok (.iload 4, 2) := by decide +kernel
theorem d_Mo_isTrue_183 : decode b_Mo_isTrue 183 = .ok (.iastore, 1) := by decide +kernel
theorem d_Mo_isTrue_184 : decode b_Mo_isTrue 184 = .ok (.aload_n 0, 1) := by decide +kernel
theorem d_Mo_isTrue_185 : decode b_Mo_isTrue 185 = .ok (.dup, 1) := by decide +kernel
theorem d_Mo_isTrue_186 : decode b_Mo_isTrue 186 = .ok (.getfield 126, 3) := by decide +kernel
theorem d_Mo_isTrue_189 : decode b_Mo_isTrue 189 = .ok (.iconst 1, 1) := by decide +kernel
theorem d_Mo_isTrue_190 : decode b_Mo_isTrue 190 = .ok (.iadd, 1) := by decide +kernel
theorem d_Mo_isTrue_191 : decode b_Mo_isTrue 191 = .ok (.putfield 126, 3) := by decide +kernel
theorem d_Mo_isTrue_194 : decode b_Mo_isTrue 194 = .ok (.iinc 2 1, 3) := by decide +kernel
theorem d_Mo_isTrue_197 : decode b_Mo_isTrue 197 = .ok (.goto (-114), 3) := by decide +kernel
theorem d_Mo_isTrue_200 : decode b_Mo_isTrue 200 = .ok (.iconst 1, 1) := by decide +kernel
theorem d_Mo_isTrue_201 : decode b_Mo_isTrue 201 = .ok (.ireturn, 1) := by decide +kernel
theorem d_Mo_store_0 : decode b_Mo_store 0 = .ok (.bipush 8, 2) := by decide +kernel
theorem d_Mo_store_2 : decode b_Mo_store 2 = .ok (.iload_n 1, 1) := by decide +kernel
theorem d_Mo_store_3 : decode b_Mo_store 3 = .ok (.imul, 1) := by decide +kernel
theorem d_Mo_store_4 : decode b_Mo_store 4 = .ok (.istore_n 2, 1) := by decide +kernel
theorem d_Mo_store_5 : decode b_Mo_store 5 = .ok (.iload_n 2, 1) := by decide +kernel
theorem d_Mo_store_6 : decode b_Mo_store 6 = .ok (.bipush 8, 2) := by decide +kernel
theorem d_Mo_store_8 : decode b_Mo_store 8 = .ok (.iload_n 1, 1) := by decide +kernel
theorem d_Mo_store_9 : decode b_Mo_store 9 = .ok (.imul, 1) := by decide +kernel
theorem d_Mo_store_10 : decode b_Mo_store 10 = .ok (.bipush 8, 2) := by decide +kernel
theorem d_Mo_store_12 : decode b_Mo_store 12 = .ok (.iadd, 1) := by decide +kernel
theorem d_Mo_store_13 : decode b_Mo_store 13 = .ok (.if_icmp .ge 16, 3) := by decide +kernel
theorem d_Mo_store_16 : decode b_Mo_store 16 = .ok (.aload_n 0, 1) := by decide +kernel
theorem d_Mo_store_17 : decode b_Mo_store 17 = .ok (.getfield 63, 3) := by decide +kernel
theorem d_Mo_store_20 : decode b_Mo_store 20 = .ok (.iload_n 2, 1) := by decide +kernel
theorem d_Mo_store_21 : decode b_Mo_store 21 = .ok (.lconst 0, 1) := by decide +kernel
theorem d_Mo_store_22 : decode b_Mo_store 22 = .ok (.lastore, 1) := by decide +kernel
theorem d_Mo_store_23 : decode b_Mo_store 23 = .ok (.iinc 2 1, 3) := by decide +kernel
theorem d_Mo_store_26 : decode b_Mo_store 26 = .ok (.goto (-21), 3) := by decide +kernel
theorem d_Mo_store_29 : decode b_Mo_store 29 = .ok (.iconst 0, 1) := by decide +kernel
theorem d_Mo_store_30 : decode b_Mo_store 30 = .ok (.istore_n 2, 1) := by decide +kernel
theorem d_Mo_store_31 : decode b_Mo_store 31 = .ok (.iload_n 2, 1) := by decide +kernel
theorem d_Mo_store_32 : decode b_Mo_store 32 = .ok (.aload_n 0, 1) := by decide +kernel
theorem d_Mo_store_33 : decode b_Mo_store 33 = .ok (.getfield 82, 3) := by decide +kernel
theorem d_Mo_store_36 : decode b_Mo_store 36 = .ok (.if_icmp .ge 41, 3) := by decide +kernel
theorem d_Mo_store_39 : decode b_Mo_store 39 = .ok (.aload_n 0, 1) := by decide +kernel
theorem d_Mo_store_40 : decode b_Mo_store 40 = .ok (.getfield 66, 3) := by decide +kernel
theorem d_Mo_store_43 : decode b_Mo_store 43 = .ok (.iload_n 2, 1) := by decide +kernel
theorem d_Mo_store_44 : decode b_Mo_store 44 = .ok (.baload, 1) := by decide +kernel
theorem d_Mo_store_45 : decode b_Mo_store 45 = .ok (.ifCond .eq 26, 3) := by decide +kernel
theorem d_Mo_store_48 : decode b_Mo_store 48 = .ok (.aload_n 0, 1) := by decide +kernel
theorem d_Mo_store_49 : decode b_Mo_store 49 = .ok (.getfield 63, 3) := by decide +kernel
theorem d_Mo_store_52 : decode b_Mo_store 52 = .ok (.bipush 8, 2) := by decide +kernel
theorem d_Mo_store_54 : decode b_Mo_store 54 = .ok (.iload_n 1, 1) := by decide +kernel
theorem d_Mo_store_55 : decode b_Mo_store 55 = .ok (.imul, 1) := by decide +kernel
theorem d_Mo_store_56 : decode b_Mo_store 56 = .ok (.iload_n 2, 1) := by decide +kernel
theorem d_Mo_store_57 : decode b_Mo_store 57 = .ok (.bipush 64, 2) := by decide +kernel
theorem d_Mo_store_59 : decode b_Mo_store 59 = .ok (.idiv, 1) := by decide +kernel
theorem d_Mo_store_60 : decode b_Mo_store 60 = .ok (.iadd, 1) := by decide +kernel
theorem d_Mo_store_61 : decode b_Mo_store 61 = .ok (.dup2, 1) := by decide +kernel
theorem d_Mo_store_62 : decode b_Mo_store 62 = .ok (.laload, 1) := by decide +kernel
theorem d_Mo_store_63 : decode b_Mo_store 63 = .ok (.lconst 1, 1) := by decide +kernel
theorem d_Mo_store_64 : decode b_Mo_store 64 = .ok (.iload_n 2, 1) := by decide +kernel
theorem d_Mo_store_65 : decode b_Mo_store 65 = .ok (.bipush 64, 2) := by decide +kernel
theorem d_Mo_store_67 : decode b_Mo_store 67 = .ok (.irem, 1) := by decide +kernel
theorem d_Mo_store_68 : decode b_Mo_store 68 = .ok (.lshl, 1) := by decide +kernel
theorem d_Mo_store_69 : decode b_Mo_store 69 = .ok (.lor, 1) := by decide +kernel
theorem d_Mo_store_70 : decode b_Mo_store 70 = .ok (.lastore, 1) := by decide +kernel
theorem d_Mo_store_71 : decode b_Mo_store 71 = .ok (.iinc 2 1, 3) := by decide +kernel
theorem d_Mo_store_74 : decode b_Mo_store 74 = .ok (.goto (-43), 3) := by decide +kernel
theorem d_Mo_store_77 : decode b_Mo_store 77 = .ok (.return_, 1) := by decide +kernel
theorem d_Mo_before_0 : decode b_Mo_before 0 = .ok (.iconst 0, 1) := by decide +kernel
theorem d_Mo_before_1 : decode b_Mo_before 1 = .ok (.istore_n 2, 1) := by decide +kernel
theorem d_Mo_before_2 : decode b_Mo_before 2 = .ok (.iload_n 2, 1) := by decide +kernel
theorem d_Mo_before_3 : decode b_Mo_before 3 = .ok (.aload_n 0, 1) := by decide +kernel
theorem d_Mo_before_4 : decode b_Mo_before 4 = .ok (.getfield 82, 3) := by decide +kernel
theorem d_Mo_before_7 : decode b_Mo_before 7 = .ok (.if_icmp .ge 29, 3) := by decide +kernel
theorem d_Mo_before_10 : decode b_Mo_before 10 = .ok (.aload_n 0, 1) := by decide +kernel
theorem d_Mo_before_11 : decode b_Mo_before 11 = .ok (.getfield 60, 3) := by decide +kernel
theorem d_Mo_before_14 : decode b_Mo_before 14 = .ok (.iload_n 2, 1) := by decide +kernel
theorem d_Mo_before_15 : decode b_Mo_before 15 = .ok (.aload_n 0, 1) := by decide +kernel
theorem d_Mo_before_16 : decode b_Mo_before 16 = .ok (.iload_n 1, 1) := by decide +kernel
theorem d_Mo_before_17 : decode b_Mo_before 17 = .ok (.iload_n 2, 1) := by decide +kernel
theorem d_Mo_before_18 : decode b_Mo_before 18 = .ok (.invokevirtual 177, 3) := by decide +kernel
theorem d_Mo_before_21 : decode b_Mo_before 21 = .ok (.ifCond .eq 7, 3) := by decide +kernel
theorem d_Mo_before_24 : decode b_Mo_before 24 = .ok (.iconst 1, 1) := by decide +kernel
theorem d_Mo_before_25 : decode b_Mo_before 25 = .ok (.goto 4, 3) := by decide +kernel
theorem d_Mo_before_28 : decode b_Mo_before 28 = .ok (.iconst 0, 1) := by decide +kernel
theorem d_Mo_before_29 : decode b_Mo_before 29 = .ok (.iastore, 1) := by decide +kernel
theorem d_Mo_before_30 : decode b_Mo_before 30 = .ok (.iinc 2 1, 3) := by decide +kernel
theorem d_Mo_before_33 : decode b_Mo_before 33 = .ok (.goto (-31), 3) := by decide +kernel
theorem d_Mo_before_36 : decode b_Mo_before 36 = .ok (.iconst 0, 1) := by decide +kernel
theorem d_Mo_before_37 : decode b_Mo_before 37 = .ok (.istore_n 2, 1) := by decide +kernel
theorem d_Mo_before_38 : decode b_Mo_before 38 = .ok (.iload_n 2, 1) := by decide +kernel
theorem d_Mo_before_39 : decode b_Mo_before 39 = .ok (.aload_n 0, 1) := by decide +kernel
theorem d_Mo_before_40 : decode b_Mo_before 40 = .ok (.getfield 82, 3) := by decide +kernel
theorem d_Mo_before_43 : decode b_Mo_before 43 = .ok (.if_icmp .ge 30, 3) := by decide +kernel
theorem d_Mo_before_46 : decode b_Mo_before 46 = .ok (.aload_n 0, 1) := by decide +kernel
theorem d_Mo_before_47 : decode b_Mo_before 47 = .ok (.getfield 66, 3) := by decide +kernel
theorem d_Mo_before_50 : decode b_Mo_before 50 = .ok (.iload_n 2, 1) := by decide +kernel
theorem d_Mo_before_51 : decode b_Mo_before 51 = .ok (.aload_n 0, 1) := by decide +kernel
theorem d_Mo_before_52 : decode b_Mo_before 52 = .ok (.getfield 60, 3) := by decide +kernel
theorem d_Mo_before_55 : decode b_Mo_before 55 = .ok (.iload_n 2, 1) := by decide +kernel
theorem d_Mo_before_56 : decode b_Mo_before 56 = .ok (.iaload, 1) := by decide +kernel
theorem d_Mo_before_57 : decode b_Mo_before 57 = .ok (.iconst 1, 1) := by decide +kernel
theorem d_Mo_before_58 : decode b_Mo_before 58 = .ok (.if_icmp .ne 7, 3) := by decide +kernel
theorem d_Mo_before_61 : decode b_Mo_before 61 = .ok (.iconst 1, 1) := by decide +kernel
theorem d_Mo_before_62 : decode b_Mo_before 62 = .ok (.goto 4, 3) := by decide +kernel
theorem d_Mo_before_65 : decode b_Mo_before 65 = .ok (.iconst 0, 1) := by decide +kernel
theorem d_Mo_before_66 : decode b_Mo_before 66 = .ok (.bastore, 1) := by decide +kernel
theorem d_Mo_before_67 : decode b_Mo_before 67 = .ok (.iinc 2 1, 3) := by decide +kernel
theorem d_Mo_before_70 : decode b_Mo_before 70 = .ok (.goto (-32), 3) := by decide +kernel
theorem d_Mo_before_73 : decode b_Mo_before 73 = .ok (.return_, 1) := by decide +kernel
theorem d_Mo_leadsIn_0 : decode b_Mo_leadsIn 0 = .ok (.aload_n 0, 1) := by decide +kernel
theorem d_Mo_leadsIn_1 : decode b_Mo_leadsIn 1 = .ok (.getfield 19, 3) := by decide +kernel
theorem d_Mo_leadsIn_4 : decode b_Mo_leadsIn 4 = .ok (.iload_n 1, 1) := by decide +kernel
theorem d_Mo_leadsIn_5 : decode b_Mo_leadsIn 5 = .ok (.iaload, 1) := by decide +kernel
theorem d_Mo_leadsIn_6 : decode b_Mo_leadsIn 6 = .ok (.ifCond .ne 15, 3) := by decide +kernel
theorem d_Mo_leadsIn_9 : decode b_Mo_leadsIn 9 = .ok (.aload_n 0, 1) := by decide +kernel
theorem d_Mo_leadsIn_10 : decode b_Mo_leadsIn 10 = .ok (.getfield 66, 3) := by decide +kernel
theorem d_Mo_leadsIn_13 : decode b_Mo_leadsIn 13 = .ok (.aload_n 0, 1) := by decide +kernel
theorem d_Mo_leadsIn_14 : decode b_Mo_leadsIn 14 = .ok (.iload_n 1, 1) := by decide +kernel
theorem d_Mo_leadsIn_15 : decode b_Mo_leadsIn 15 = .ok (.iload_n 2, 1) := by decide +kernel
theorem d_Mo_leadsIn_16 : decode b_Mo_leadsIn 16 = .ok (.invokevirtual 161, 3) := by decide +kernel
theorem d_Mo_leadsIn_19 : decode b_Mo_leadsIn 19 = .ok (.baload, 1) := by decide +kernel
theorem d_Mo_leadsIn_20 : decode b_Mo_leadsIn 20 = .ok (.ireturn, 1) := by decide +kernel
theorem d_Mo_leadsIn_21 : decode b_Mo_leadsIn 21 = .ok (.aload_n 0, 1) := by decide +kernel
theorem d_Mo_leadsIn_22 : decode b_Mo_leadsIn 22 = .ok (.getfield 19, 3) := by decide +kernel
theorem d_Mo_leadsIn_25 : decode b_Mo_leadsIn 25 = .ok (.iload_n 1, 1) := by decide +kernel
theorem d_Mo_leadsIn_26 : decode b_Mo_leadsIn 26 = .ok (.iaload, 1) := by decide +kernel
theorem d_Mo_leadsIn_27 : decode b_Mo_leadsIn 27 = .ok (.iconst 2, 1) := by decide +kernel
theorem d_Mo_leadsIn_28 : decode b_Mo_leadsIn 28 = .ok (.if_icmp .ne 27, 3) := by decide +kernel
theorem d_Mo_leadsIn_31 : decode b_Mo_leadsIn 31 = .ok (.aload_n 0, 1) := by decide +kernel
theorem d_Mo_leadsIn_32 : decode b_Mo_leadsIn 32 = .ok (.iload_n 1, 1) := by decide +kernel
theorem d_Mo_leadsIn_33 : decode b_Mo_leadsIn 33 = .ok (.iload_n 2, 1) := by decide +kernel
theorem d_Mo_leadsIn_34 : decode b_Mo_leadsIn 34 = .ok (.invokevirtual 164, 3) := by decide +kernel
theorem d_Mo_leadsIn_37 : decode b_Mo_leadsIn 37 = .ok (.ifCond .eq 16, 3) := by decide +kernel
theorem d_Mo_leadsIn_40 : decode b_Mo_leadsIn 40 = .ok (.aload_n 0, 1) := by decide +kernel
theorem d_Mo_leadsIn_41 : decode b_Mo_leadsIn 41 = .ok (.getfield 66, 3) := by decide +kernel
theorem d_Mo_leadsIn_44 : decode b_Mo_leadsIn 44 = .ok (.iload_n 2, 1) := by decide +kernel
theorem d_Mo_leadsIn_45 : decode b_Mo_leadsIn 45 = .ok (.baload, 1) := by decide +kernel
theorem d_Mo_leadsIn_46 : decode b_Mo_leadsIn 46 = .ok (.ifCond .eq 7, 3) := by decide +kernel
theorem d_Mo_leadsIn_49 : decode b_Mo_leadsIn 49 = .ok (.iconst 1, 1) := by decide +kernel
theorem d_Mo_leadsIn_50 : decode b_Mo_leadsIn 50 = .ok (.goto 4, 3) := by decide +kernel
theorem d_Mo_leadsIn_53 : decode b_Mo_leadsIn 53 = .ok (.iconst 0, 1) := by decide +kernel
theorem d_Mo_leadsIn_54 : decode b_Mo_leadsIn 54 = .ok (.ireturn, 1) := by decide +kernel
theorem d_Mo_leadsIn_55 : decode b_Mo_leadsIn 55 = .ok (.iconst 0, 1) := by decide +kernel
theorem d_Mo_leadsIn_56 : decode b_Mo_leadsIn 56 = .ok (.istore_n 3, 1) := by decide +kernel
theorem d_Mo_leadsIn_57 : decode b_Mo_leadsIn 57 = .ok (.iconst 0, 1) := by decide +kernel
theorem d_Mo_leadsIn_58 : decode b_Mo_leadsIn 58 = .ok (.istore 4, 2) := by decide +kernel
theorem d_Mo_leadsIn_60 : decode b_Mo_leadsIn 60 = .ok (.iload 4, 2) := by decide +kernel
theorem d_Mo_leadsIn_62 : decode b_Mo_leadsIn 62 = .ok (.aload_n 0, 1) := by decide +kernel
theorem d_Mo_leadsIn_63 : decode b_Mo_leadsIn 63 = .ok (.getfield 79, 3) := by decide +kernel
theorem d_Mo_leadsIn_66 : decode b_Mo_leadsIn 66 = .ok (.if_icmp .gt 40, 3) := by decide +kernel
theorem d_Mo_leadsIn_69 : decode b_Mo_leadsIn 69 = .ok (.iload_n 3, 1) := by decide +kernel
theorem d_Mo_leadsIn_70 : decode b_Mo_leadsIn 70 = .ok (.ifCond .ne 24, 3) := by decide +kernel
theorem d_Mo_leadsIn_73 : decode b_Mo_leadsIn 73 = .ok (.aload_n 0, 1) := by decide +kernel
theorem d_Mo_leadsIn_74 : decode b_Mo_leadsIn 74 = .ok (.getfield 66, 3) := by decide +kernel
theorem d_Mo_leadsIn_77 : decode b_Mo_leadsIn 77 = .ok (.aload_n 0, 1) := by decide +kernel
theorem d_Mo_leadsIn_78 : decode b_Mo_leadsIn 78 = .ok (.iload_n 2, 1) := by decide +kernel
theorem d_Mo_leadsIn_79 : decode b_Mo_leadsIn 79 = .ok (.aload_n 0, 1) := by decide +kernel
theorem d_Mo_leadsIn_80 : decode b_Mo_leadsIn 80 = .ok (.getfield 22, 3) := by decide +kernel
theorem d_Mo_leadsIn_83 : decode b_Mo_leadsIn 83 = .ok (.iload_n 1, 1) := by decide +kernel
theorem d_Mo_leadsIn_84 : decode b_Mo_leadsIn 84 = .ok (.iaload, 1) := by decide +kernel
theorem d_Mo_leadsIn_85 : decode b_Mo_leadsIn 85 = .ok (.iload 4, 2) := by decide +kernel
theorem d_Mo_leadsIn_87 : decode b_Mo_leadsIn 87 = .ok (.invokevirtual 152, 3) := by decide +kernel
theorem d_Mo_leadsIn_90 : decode b_Mo_leadsIn 90 = .ok (.baload, 1) := by decide +kernel
theorem d_Mo_leadsIn_91 : decode b_Mo_leadsIn 91 = .ok (.ifCond .eq 7, 3) := by decide +kernel
theorem d_Mo_leadsIn_94 : decode b_Mo_leadsIn 94 = .ok (.iconst 1, 1) := by decide +kernel
theorem d_Mo_leadsIn_95 : decode b_Mo_leadsIn 95 = .ok (.goto 4, 3) := by decide +kernel
theorem d_Mo_leadsIn_98 : decode b_Mo_leadsIn 98 = .ok (.iconst 0, 1) := by decide +kernel
theorem d_Mo_leadsIn_99 : decode b_Mo_leadsIn 99 = .ok (.istore_n 3, 1) := by decide +kernel
theorem d_Mo_leadsIn_100 : decode b_Mo_leadsIn 100 = .ok (.iinc 4 1, 3) := by decide +kernel
theorem d_Mo_leadsIn_103 : decode b_Mo_leadsIn 103 = .ok (.goto (-43), 3) := by decide +kernel
theorem d_Mo_leadsIn_106 : decode b_Mo_leadsIn 106 = .ok (.iload_n 3, 1) := by decide +kernel
theorem d_Mo_leadsIn_107 : decode b_Mo_leadsIn 107 = .ok (.ireturn, 1) := by decide +kernel
theorem d_Mo_isIn_0 : decode b_Mo_isIn 0 = .ok (.aload_n 0, 1) := by decide +kernel
theorem d_Mo_isIn_1 : decode b_Mo_isIn 1 = .ok (.getfield 63, 3) := by decide +kernel
theorem d_Mo_isIn_4 : decode b_Mo_isIn 4 = .ok (.bipush 8, 2) := by decide +kernel
theorem d_Mo_isIn_6 : decode b_Mo_isIn 6 = .ok (.iload_n 1, 1) := by decide +kernel
theorem d_Mo_isIn_7 : decode b_Mo_isIn 7 = .ok (.imul, 1) := by decide +kernel
theorem d_Mo_isIn_8 : decode b_Mo_isIn 8 = .ok (.iload_n 2, 1) := by decide +kernel
theorem d_Mo_isIn_9 : decode b_Mo_isIn 9 = .ok (.invokestatic 148, 3) := by decide +kernel
theorem d_Mo_isIn_12 : decode b_Mo_isIn 12 = .ok (.iconst 1, 1) := by decide +kernel
theorem d_Mo_isIn_13 : decode b_Mo_isIn 13 = .ok (.if_icmp .ne 7, 3) := by decide +kernel
theorem d_Mo_isIn_16 : decode b_Mo_isIn 16 = .ok (.iconst 1, 1) := by decide +kernel
theorem d_Mo_isIn_17 : decode b_Mo_isIn 17 = .ok (.goto 4, 3) := by decide +kernel
theorem d_Mo_isIn_20 : decode b_Mo_isIn 20 = .ok (.iconst 0, 1) := by decide +kernel
theorem d_Mo_isIn_21 : decode b_Mo_isIn 21 = .ok (.ireturn, 1) := by decide +kernel
theorem d_Mo_refine_0 : decode b_Mo_refine 0 = .ok (.aload_n 0, 1) := by decide +kernel
theorem d_Mo_refine_1 : decode b_Mo_refine 1 = .ok (.iconst 0, 1) := by decide +kernel
theorem d_Mo_refine_2 : decode b_Mo_refine 2 = .ok (.putfield 190, 3) := by decide +kernel
theorem d_Mo_refine_5 : decode b_Mo_refine 5 = .ok (.aload_n 0, 1) := by decide +kernel
theorem d_Mo_refine_6 : decode b_Mo_refine 6 = .ok (.getfield 155, 3) := by decide +kernel
theorem d_Mo_refine_9 : decode b_Mo_refine 9 = .ok (.istore_n 1, 1) := by decide +kernel
theorem d_Mo_refine_10 : decode b_Mo_refine 10 = .ok (.aload_n 0, 1) := by decide +kernel
theorem d_Mo_refine_11 : decode b_Mo_refine 11 = .ok (.getfield 51, 3) := by decide +kernel
theorem d_Mo_refine_14 : decode b_Mo_refine 14 = .ok (.iconst 1, 1) := by decide +kernel
theorem d_Mo_refine_15 : decode b_Mo_refine 15 = .ok (.isub, 1) := by decide +kernel
theorem d_Mo_refine_16 : decode b_Mo_refine 16 = .ok (.istore_n 2, 1) := by decide +kernel
theorem d_Mo_refine_17 : decode b_Mo_refine 17 = .ok (.iload_n 2, 1) := by decide +kernel
theorem d_Mo_refine_18 : decode b_Mo_refine 18 = .ok (.ifCond .lt 50, 3) := by decide +kernel
theorem d_Mo_refine_21 : decode b_Mo_refine 21 = .ok (.aload_n 0, 1) := by decide +kernel
theorem d_Mo_refine_22 : decode b_Mo_refine 22 = .ok (.aload_n 0, 1) := by decide +kernel
theorem d_Mo_refine_23 : decode b_Mo_refine 23 = .ok (.getfield 54, 3) := by decide +kernel
theorem d_Mo_refine_26 : decode b_Mo_refine 26 = .ok (.iload_n 2, 1) := by decide +kernel
theorem d_Mo_refine_27 : decode b_Mo_refine 27 = .ok (.iaload, 1) := by decide +kernel
theorem d_Mo_refine_28 : decode b_Mo_refine 28 = .ok (.invokevirtual 203, 3) := by decide +kernel
theorem d_Mo_refine_31 : decode b_Mo_refine 31 = .ok (.iconst 0, 1) := by decide +kernel
theorem d_Mo_refine_32 : decode b_Mo_refine 32 = .ok (.istore_n 3, 1) := by decide +kernel
theorem d_Mo_refine_33 : decode b_Mo_refine 33 = .ok (.iload_n 3, 1) := by decide +kernel
theorem d_Mo_refine_34 : decode b_Mo_refine 34 = .ok (.aload_n 0, 1) := by decide +kernel
theorem d_Mo_refine_35 : decode b_Mo_refine 35 = .ok (.getfield 190, 3) := by decide +kernel
theorem d_Mo_refine_38 : decode b_Mo_refine 38 = .ok (.if_icmp .ge 24, 3) := by decide +kernel
theorem d_Mo_refine_41 : decode b_Mo_refine 41 = .ok (.aload_n 0, 1) := by decide +kernel
theorem d_Mo_refine_42 : decode b_Mo_refine 42 = .ok (.iload_n 3, 1) := by decide +kernel
theorem d_Mo_refine_43 : decode b_Mo_refine 43 = .ok (.invokevirtual 193, 3) := by decide +kernel
theorem d_Mo_refine_46 : decode b_Mo_refine 46 = .ok (.aload_n 0, 1) := by decide +kernel
theorem d_Mo_refine_47 : decode b_Mo_refine 47 = .ok (.invokevirtual 206, 3) := by decide +kernel
theorem d_Mo_refine_50 : decode b_Mo_refine 50 = .ok (.iconst 2, 1) := by decide +kernel
theorem d_Mo_refine_51 : decode b_Mo_refine 51 = .ok (.if_icmp .ne 5, 3) := by decide +kernel
theorem d_Mo_refine_54 : decode b_Mo_refine 54 = .ok (.iconst 3, 1) := by decide +kernel
theorem d_Mo_refine_55 : decode b_Mo_refine 55 = .ok (.ireturn, 1) := by decide +kernel
theorem d_Mo_refine_56 : decode b_Mo_refine 56 = .ok (.iinc 3 1, 3) := by decide +kernel
theorem d_Mo_refine_59 : decode b_Mo_refine 59 = .ok (.goto (-26), 3) := by decide +kernel
theorem d_Mo_refine_62 : decode b_Mo_refine 62 = .ok (.iinc 2 (-1), 3) := by decide +kernel
theorem d_Mo_refine_65 : decode b_Mo_refine 65 = .ok (.goto (-48), 3) := by decide +kernel
theorem d_Mo_refine_68 : decode b_Mo_refine 68 = .ok (.iconst 0, 1) := by decide +kernel
theorem d_Mo_refine_69 : decode b_Mo_refine 69 = .ok (.istore_n 2, 1) := by decide +kernel
theorem d_Mo_refine_70 : decode b_Mo_refine 70 = .ok (.iload_n 2, 1) := by decide +kernel
theorem d_Mo_refine_71 : decode b_Mo_refine 71 = .ok (.iconst 3, 1) := by decide +kernel
theorem d_Mo_refine_72 : decode b_Mo_refine 72 = .ok (.if_icmp .ge 96, 3) := by decide +kernel
theorem d_Mo_refine_75 : decode b_Mo_refine 75 = .ok (.aload_n 0, 1) := by decide +kernel
theorem d_Mo_refine_76 : decode b_Mo_refine 76 = .ok (.getfield 155, 3) := by decide +kernel
theorem d_Mo_refine_79 : decode b_Mo_refine 79 = .ok (.iload_n 1, 1) := by decide +kernel
theorem d_Mo_refine_80 : decode b_Mo_refine 80 = .ok (.if_icmp .ne 88, 3) := by decide +kernel
theorem d_Mo_refine_83 : decode b_Mo_refine 83 = .ok (.iconst 0, 1) := by decide +kernel
theorem d_Mo_refine_84 : decode b_Mo_refine 84 = .ok (.istore_n 3, 1) := by decide +kernel
theorem d_Mo_refine_85 : decode b_Mo_refine 85 = .ok (.iload_n 3, 1) := by decide +kernel
theorem d_Mo_refine_86 : decode b_Mo_refine 86 = .ok (.aload_n 0, 1) := by decide +kernel
theorem d_Mo_refine_87 : decode b_Mo_refine 87 = .ok (.getfield 76, 3) := by decide +kernel
theorem d_Mo_refine_90 : decode b_Mo_refine 90 = .ok (.if_icmp .ge 72, 3) := by decide +kernel
theorem d_Mo_refine_93 : decode b_Mo_refine 93 = .ok (.aload_n 0, 1) := by decide +kernel
theorem d_Mo_refine_94 : decode b_Mo_refine 94 = .ok (.getfield 155, 3) := by decide +kernel
theorem d_Mo_refine_97 : decode b_Mo_refine 97 = .ok (.iload_n 1, 1) := by decide +kernel
theorem d_Mo_refine_98 : decode b_Mo_refine 98 = .ok (.if_icmp .ne 64, 3) := by decide +kernel
theorem d_Mo_refine_101 : decode b_Mo_refine 101 = .ok (.iconst 0, 1) := by decide +kernel
theorem d_Mo_refine_102 : decode b_Mo_refine 102 = .ok (.istore 4, 2) := by decide +kernel
theorem d_Mo_refine_104 : decode b_Mo_refine 104 = .ok (.iload 4, 2) := by decide +kernel
theorem d_Mo_refine_106 : decode b_Mo_refine 106 = .ok (.aload_n 0, 1) := by decide +kernel
theorem d_Mo_refine_107 : decode b_Mo_refine 107 = .ok (.getfield 82, 3) := by decide +kernel
theorem d_Mo_refine_110 : decode b_Mo_refine 110 = .ok (.if_icmp .ge 36, 3) := by decide +kernel
theorem d_Mo_refine_113 : decode b_Mo_refine 113 = .ok (.aload_n 0, 1) := by decide +kernel
theorem d_Mo_refine_114 : decode b_Mo_refine 114 = .ok (.getfield 66, 3) := by decide +kernel
theorem d_Mo_refine_117 : decode b_Mo_refine 117 = .ok (.iload 4, 2) := by decide +kernel
theorem d_Mo_refine_119 : decode b_Mo_refine 119 = .ok (.aload_n 0, 1) := by decide +kernel
theorem d_Mo_refine_120 : decode b_Mo_refine 120 = .ok (.iload 4, 2) := by decide +kernel
theorem d_Mo_refine_122 : decode b_Mo_refine 122 = .ok (.iload_n 2, 1) := by decide +kernel
theorem d_Mo_refine_123 : decode b_Mo_refine 123 = .ok (.invokevirtual 108, 3) := by decide +kernel
theorem d_Mo_refine_126 : decode b_Mo_refine 126 = .ok (.iload_n 3, 1) := by decide +kernel
theorem d_Mo_refine_127 : decode b_Mo_refine 127 = .ok (.ishr, 1) := by decide +kernel
theorem d_Mo_refine_128 : decode b_Mo_refine 128 = .ok (.iconst 1, 1) := by decide +kernel
theorem d_Mo_refine_129 : decode b_Mo_refine 129 = .ok (.iand, 1) := by decide +kernel
theorem d_Mo_refine_130 : decode b_Mo_refine 130 = .ok (.iconst 1, 1) := by decide +kernel
theorem d_Mo_refine_131 : decode b_Mo_refine 131 = .ok (.if_icmp .ne 7, 3) := by decide +kernel
theorem d_Mo_refine_134 : decode b_Mo_refine 134 = .ok (.iconst 1, 1) := by decide +kernel
theorem d_Mo_refine_135 : decode b_Mo_refine 135 = .ok (.goto 4, 3) := by decide +kernel
theorem d_Mo_refine_138 : decode b_Mo_refine 138 = .ok (.iconst 0, 1) := by decide +kernel
theorem d_Mo_refine_139 : decode b_Mo_refine 139 = .ok (.bastore, 1) := by decide +kernel
theorem d_Mo_refine_140 : decode b_Mo_refine 140 = .ok (.iinc 4 1, 3) := by decide +kernel
theorem d_Mo_refine_143 : decode b_Mo_refine 143 = .ok (.goto (-39), 3) := by decide +kernel
theorem d_Mo_refine_146 : decode b_Mo_refine 146 = .ok (.aload_n 0, 1) := by decide +kernel
theorem d_Mo_refine_147 : decode b_Mo_refine 147 = .ok (.invokevirtual 206, 3) := by decide +kernel
theorem d_Mo_refine_150 : decode b_Mo_refine 150 = .ok (.iconst 2, 1) := by decide +kernel
theorem d_Mo_refine_151 : decode b_Mo_refine 151 = .ok (.if_icmp .ne 5, 3) := by decide +kernel
theorem d_Mo_refine_154 : decode b_Mo_refine 154 = .ok (.iconst 3, 1) := by decide +kernel
theorem d_Mo_refine_155 : decode b_Mo_refine 155 = .ok (.ireturn, 1) := by decide +kernel
theorem d_Mo_refine_156 : decode b_Mo_refine 156 = .ok (.iinc 3 1, 3) := by decide +kernel
theorem d_Mo_refine_159 : decode b_Mo_refine 159 = .ok (.goto (-74), 3) := by decide +kernel
theorem d_Mo_refine_162 : decode b_Mo_refine 162 = .ok (.iinc 2 1, 3) := by decide +kernel
theorem d_Mo_refine_165 : decode b_Mo_refine 165 = .ok (.goto (-95), 3) := by decide +kernel
theorem d_Mo_refine_168 : decode b_Mo_refine 168 = .ok (.iconst 0, 1) := by decide +kernel
theorem d_Mo_refine_169 : decode b_Mo_refine 169 = .ok (.ireturn, 1) := by decide +kernel
theorem d_Mo_along_0 : decode b_Mo_along 0 = .ok (.iconst 0, 1) := by decide +kernel
theorem d_Mo_along_1 : decode b_Mo_along 1 = .ok (.istore_n 2, 1) := by decide +kernel
theorem d_Mo_along_2 : decode b_Mo_along 2 = .ok (.iconst 0, 1) := by decide +kernel
theorem d_Mo_along_3 : decode b_Mo_along 3 = .ok (.istore_n 3, 1) := by decide +kernel
theorem d_Mo_along_4 : decode b_Mo_along 4 = .ok (.iload_n 3, 1) := by decide +kernel
theorem d_Mo_along_5 : decode b_Mo_along 5 = .ok (.aload_n 0, 1) := by decide +kernel
theorem d_Mo_along_6 : decode b_Mo_along 6 = .ok (.getfield 190, 3) := by decide +kernel
theorem d_Mo_along_9 : decode b_Mo_along 9 = .ok (.if_icmp .ge 62, 3) := by decide +kernel
theorem d_Mo_along_12 : decode b_Mo_along 12 = .ok (.aload_n 0, 1) := by decide +kernel
theorem d_Mo_along_13 : decode b_Mo_along 13 = .ok (.iload_n 3, 1) := by decide +kernel
theorem d_Mo_along_14 : decode b_Mo_along 14 = .ok (.invokevirtual 193, 3) := by decide +kernel
theorem d_Mo_along_17 : decode b_Mo_along 17 = .ok (.aload_n 0, 1) := by decide +kernel
theorem d_Mo_along_18 : decode b_Mo_along 18 = .ok (.getfield 19, 3) := by decide +kernel
theorem d_Mo_along_21 : decode b_Mo_along 21 = .ok (.iload_n 1, 1) := by decide +kernel
theorem d_Mo_along_22 : decode b_Mo_along 22 = .ok (.iaload, 1) := by decide +kernel
theorem d_Mo_along_23 : decode b_Mo_along 23 = .ok (.iconst 1, 1) := by decide +kernel
theorem d_Mo_along_24 : decode b_Mo_along 24 = .ok (.if_icmp .ne 19, 3) := by decide +kernel
theorem d_Mo_along_27 : decode b_Mo_along 27 = .ok (.aload_n 0, 1) := by decide +kernel
theorem d_Mo_along_28 : decode b_Mo_along 28 = .ok (.aload_n 0, 1) := by decide +kernel
theorem d_Mo_along_29 : decode b_Mo_along 29 = .ok (.getfield 22, 3) := by decide +kernel
theorem d_Mo_along_32 : decode b_Mo_along 32 = .ok (.iload_n 1, 1) := by decide +kernel
theorem d_Mo_along_33 : decode b_Mo_along 33 = .ok (.iaload, 1) := by decide +kernel
theorem d_Mo_along_34 : decode b_Mo_along 34 = .ok (.invokevirtual 196, 3) := by decide +kernel
theorem d_Mo_along_37 : decode b_Mo_along 37 = .ok (.ifCond .eq 6, 3) := by decide +kernel
theorem d_Mo_along_40 : decode b_Mo_along 40 = .ok (.goto 25, 3) := by decide +kernel
theorem d_Mo_along_43 : decode b_Mo_along 43 = .ok (.aload_n 0, 1) := by decide +kernel
theorem d_Mo_along_44 : decode b_Mo_along 44 = .ok (.getfield 19, 3) := by decide +kernel
theorem d_Mo_along_47 : decode b_Mo_along 47 = .ok (.iload_n 1, 1) := by decide +kernel
theorem d_Mo_along_48 : decode b_Mo_along 48 = .ok (.iaload, 1) := by decide +kernel
theorem d_Mo_along_49 : decode b_Mo_along 49 = .ok (.ifCond .ne 8, 3) := by decide +kernel
theorem d_Mo_along_52 : decode b_Mo_along 52 = .ok (.aload_n 0, 1) := by decide +kernel
theorem d_Mo_along_53 : decode b_Mo_along 53 = .ok (.iload_n 1, 1) := by decide +kernel
theorem d_Mo_along_54 : decode b_Mo_along 54 = .ok (.invokevirtual 187, 3) := by decide +kernel
theorem d_Mo_along_57 : decode b_Mo_along 57 = .ok (.aload_n 0, 1) := by decide +kernel
theorem d_Mo_along_58 : decode b_Mo_along 58 = .ok (.iload_n 2, 1) := by decide +kernel
theorem d_Mo_along_59 : decode b_Mo_along 59 = .ok (.invokevirtual 183, 3) := by decide +kernel
theorem d_Mo_along_62 : decode b_Mo_along 62 = .ok (.iinc 2 1, 3) := by decide +kernel
theorem d_Mo_along_65 : decode b_Mo_along 65 = .ok (.iinc 3 1, 3) := by decide +kernel
theorem d_Mo_along_68 : decode b_Mo_along 68 = .ok (.goto (-64), 3) := by decide +kernel
end
section
theorem d_Mo_along_71 : decode b_Mo_along 71 = .ok (.aload_n 0, 1) := by decide +kernel
theorem d_Mo_along_72 : decode b_Mo_along 72 = .ok (.iload_n 2, 1) := by decide +kernel
theorem d_Mo_along_73 : decode b_Mo_along 73 = .ok (.putfield 190, 3) := by decide +kernel
theorem d_Mo_along_76 : decode b_Mo_along 76 = .ok (.aload_n 0, 1) := by decide +kernel
theorem d_Mo_along_77 : decode b_Mo_along 77 = .ok (.getfield 19, 3) := by decide +kernel
theorem d_Mo_along_80 : decode b_Mo_along 80 = .ok (.iload_n 1, 1) := by decide +kernel
theorem d_Mo_along_81 : decode b_Mo_along 81 = .ok (.iaload, 1) := by decide +kernel
theorem d_Mo_along_82 : decode b_Mo_along 82 = .ok (.iconst 2, 1) := by decide +kernel
theorem d_Mo_along_83 : decode b_Mo_along 83 = .ok (.if_icmp .eq 4, 3) := by decide +kernel
theorem d_Mo_along_86 : decode b_Mo_along 86 = .ok (.return_, 1) := by decide +kernel
theorem d_Mo_along_87 : decode b_Mo_along 87 = .ok (.iconst 0, 1) := by decide +kernel
theorem d_Mo_along_88 : decode b_Mo_along 88 = .ok (.istore_n 3, 1) := by decide +kernel
theorem d_Mo_along_89 : decode b_Mo_along 89 = .ok (.iload_n 3, 1) := by decide +kernel
theorem d_Mo_along_90 : decode b_Mo_along 90 = .ok (.aload_n 0, 1) := by decide +kernel
theorem d_Mo_along_91 : decode b_Mo_along 91 = .ok (.getfield 82, 3) := by decide +kernel
theorem d_Mo_along_94 : decode b_Mo_along 94 = .ok (.if_icmp .ge 21, 3) := by decide +kernel
theorem d_Mo_along_97 : decode b_Mo_along 97 = .ok (.aload_n 0, 1) := by decide +kernel
theorem d_Mo_along_98 : decode b_Mo_along 98 = .ok (.getfield 66, 3) := by decide +kernel
theorem d_Mo_along_101 : decode b_Mo_along 101 = .ok (.iload_n 3, 1) := by decide +kernel
theorem d_Mo_along_102 : decode b_Mo_along 102 = .ok (.aload_n 0, 1) := by decide +kernel
theorem d_Mo_along_103 : decode b_Mo_along 103 = .ok (.iload_n 1, 1) := by decide +kernel
theorem d_Mo_along_104 : decode b_Mo_along 104 = .ok (.iload_n 3, 1) := by decide +kernel
theorem d_Mo_along_105 : decode b_Mo_along 105 = .ok (.invokevirtual 164, 3) := by decide +kernel
theorem d_Mo_along_108 : decode b_Mo_along 108 = .ok (.bastore, 1) := by decide +kernel
theorem d_Mo_along_109 : decode b_Mo_along 109 = .ok (.iinc 3 1, 3) := by decide +kernel
theorem d_Mo_along_112 : decode b_Mo_along 112 = .ok (.goto (-23), 3) := by decide +kernel
theorem d_Mo_along_115 : decode b_Mo_along 115 = .ok (.aload_n 0, 1) := by decide +kernel
theorem d_Mo_along_116 : decode b_Mo_along 116 = .ok (.aload_n 0, 1) := by decide +kernel
theorem d_Mo_along_117 : decode b_Mo_along 117 = .ok (.getfield 190, 3) := by decide +kernel
theorem d_Mo_along_120 : decode b_Mo_along 120 = .ok (.invokevirtual 183, 3) := by decide +kernel
theorem d_Mo_along_123 : decode b_Mo_along 123 = .ok (.aload_n 0, 1) := by decide +kernel
theorem d_Mo_along_124 : decode b_Mo_along 124 = .ok (.dup, 1) := by decide +kernel
theorem d_Mo_along_125 : decode b_Mo_along 125 = .ok (.getfield 190, 3) := by decide +kernel
theorem d_Mo_along_128 : decode b_Mo_along 128 = .ok (.iconst 1, 1) := by decide +kernel
theorem d_Mo_along_129 : decode b_Mo_along 129 = .ok (.iadd, 1) := by decide +kernel
theorem d_Mo_along_130 : decode b_Mo_along 130 = .ok (.putfield 190, 3) := by decide +kernel
theorem d_Mo_along_133 : decode b_Mo_along 133 = .ok (.return_, 1) := by decide +kernel
theorem d_Mo_fetch_0 : decode b_Mo_fetch 0 = .ok (.iconst 0, 1) := by decide +kernel
theorem d_Mo_fetch_1 : decode b_Mo_fetch 1 = .ok (.istore_n 2, 1) := by decide +kernel
theorem d_Mo_fetch_2 : decode b_Mo_fetch 2 = .ok (.iload_n 2, 1) := by decide +kernel
theorem d_Mo_fetch_3 : decode b_Mo_fetch 3 = .ok (.aload_n 0, 1) := by decide +kernel
theorem d_Mo_fetch_4 : decode b_Mo_fetch 4 = .ok (.getfield 82, 3) := by decide +kernel
theorem d_Mo_fetch_7 : decode b_Mo_fetch 7 = .ok (.if_icmp .ge 21, 3) := by decide +kernel
theorem d_Mo_fetch_10 : decode b_Mo_fetch 10 = .ok (.aload_n 0, 1) := by decide +kernel
theorem d_Mo_fetch_11 : decode b_Mo_fetch 11 = .ok (.getfield 66, 3) := by decide +kernel
theorem d_Mo_fetch_14 : decode b_Mo_fetch 14 = .ok (.iload_n 2, 1) := by decide +kernel
theorem d_Mo_fetch_15 : decode b_Mo_fetch 15 = .ok (.aload_n 0, 1) := by decide +kernel
theorem d_Mo_fetch_16 : decode b_Mo_fetch 16 = .ok (.iload_n 1, 1) := by decide +kernel
theorem d_Mo_fetch_17 : decode b_Mo_fetch 17 = .ok (.iload_n 2, 1) := by decide +kernel
theorem d_Mo_fetch_18 : decode b_Mo_fetch 18 = .ok (.invokevirtual 180, 3) := by decide +kernel
theorem d_Mo_fetch_21 : decode b_Mo_fetch 21 = .ok (.bastore, 1) := by decide +kernel
theorem d_Mo_fetch_22 : decode b_Mo_fetch 22 = .ok (.iinc 2 1, 3) := by decide +kernel
theorem d_Mo_fetch_25 : decode b_Mo_fetch 25 = .ok (.goto (-23), 3) := by decide +kernel
theorem d_Mo_fetch_28 : decode b_Mo_fetch 28 = .ok (.return_, 1) := by decide +kernel
theorem d_Mo_hangsOn_0 : decode b_Mo_hangsOn 0 = .ok (.iconst 0, 1) := by decide +kernel
theorem d_Mo_hangsOn_1 : decode b_Mo_hangsOn 1 = .ok (.istore_n 2, 1) := by decide +kernel
theorem d_Mo_hangsOn_2 : decode b_Mo_hangsOn 2 = .ok (.iconst 0, 1) := by decide +kernel
theorem d_Mo_hangsOn_3 : decode b_Mo_hangsOn 3 = .ok (.istore_n 3, 1) := by decide +kernel
theorem d_Mo_hangsOn_4 : decode b_Mo_hangsOn 4 = .ok (.iload_n 3, 1) := by decide +kernel
theorem d_Mo_hangsOn_5 : decode b_Mo_hangsOn 5 = .ok (.aload_n 0, 1) := by decide +kernel
theorem d_Mo_hangsOn_6 : decode b_Mo_hangsOn 6 = .ok (.getfield 82, 3) := by decide +kernel
theorem d_Mo_hangsOn_9 : decode b_Mo_hangsOn 9 = .ok (.if_icmp .ge 40, 3) := by decide +kernel
theorem d_Mo_hangsOn_12 : decode b_Mo_hangsOn 12 = .ok (.iload_n 2, 1) := by decide +kernel
theorem d_Mo_hangsOn_13 : decode b_Mo_hangsOn 13 = .ok (.ifCond .ne 24, 3) := by decide +kernel
theorem d_Mo_hangsOn_16 : decode b_Mo_hangsOn 16 = .ok (.aload_n 0, 1) := by decide +kernel
theorem d_Mo_hangsOn_17 : decode b_Mo_hangsOn 17 = .ok (.getfield 66, 3) := by decide +kernel
theorem d_Mo_hangsOn_20 : decode b_Mo_hangsOn 20 = .ok (.iload_n 3, 1) := by decide +kernel
theorem d_Mo_hangsOn_21 : decode b_Mo_hangsOn 21 = .ok (.baload, 1) := by decide +kernel
theorem d_Mo_hangsOn_22 : decode b_Mo_hangsOn 22 = .ok (.aload_n 0, 1) := by decide +kernel
theorem d_Mo_hangsOn_23 : decode b_Mo_hangsOn 23 = .ok (.getfield 66, 3) := by decide +kernel
theorem d_Mo_hangsOn_26 : decode b_Mo_hangsOn 26 = .ok (.aload_n 0, 1) := by decide +kernel
theorem d_Mo_hangsOn_27 : decode b_Mo_hangsOn 27 = .ok (.iload_n 3, 1) := by decide +kernel
theorem d_Mo_hangsOn_28 : decode b_Mo_hangsOn 28 = .ok (.iload_n 1, 1) := by decide +kernel
theorem d_Mo_hangsOn_29 : decode b_Mo_hangsOn 29 = .ok (.iconst 0, 1) := by decide +kernel
theorem d_Mo_hangsOn_30 : decode b_Mo_hangsOn 30 = .ok (.invokevirtual 152, 3) := by decide +kernel
theorem d_Mo_hangsOn_33 : decode b_Mo_hangsOn 33 = .ok (.baload, 1) := by decide +kernel
theorem d_Mo_hangsOn_34 : decode b_Mo_hangsOn 34 = .ok (.if_icmp .eq 7, 3) := by decide +kernel
theorem d_Mo_hangsOn_37 : decode b_Mo_hangsOn 37 = .ok (.iconst 1, 1) := by decide +kernel
theorem d_Mo_hangsOn_38 : decode b_Mo_hangsOn 38 = .ok (.goto 4, 3) := by decide +kernel
theorem d_Mo_hangsOn_41 : decode b_Mo_hangsOn 41 = .ok (.iconst 0, 1) := by decide +kernel
theorem d_Mo_hangsOn_42 : decode b_Mo_hangsOn 42 = .ok (.istore_n 2, 1) := by decide +kernel
theorem d_Mo_hangsOn_43 : decode b_Mo_hangsOn 43 = .ok (.iinc 3 1, 3) := by decide +kernel
theorem d_Mo_hangsOn_46 : decode b_Mo_hangsOn 46 = .ok (.goto (-42), 3) := by decide +kernel
theorem d_Mo_hangsOn_49 : decode b_Mo_hangsOn 49 = .ok (.iload_n 2, 1) := by decide +kernel
theorem d_Mo_hangsOn_50 : decode b_Mo_hangsOn 50 = .ok (.ireturn, 1) := by decide +kernel
theorem d_Mo_offer_0 : decode b_Mo_offer 0 = .ok (.aload_n 0, 1) := by decide +kernel
theorem d_Mo_offer_1 : decode b_Mo_offer 1 = .ok (.invokevirtual 199, 3) := by decide +kernel
theorem d_Mo_offer_4 : decode b_Mo_offer 4 = .ok (.ifCond .ne 5, 3) := by decide +kernel
theorem d_Mo_offer_7 : decode b_Mo_offer 7 = .ok (.iconst 0, 1) := by decide +kernel
theorem d_Mo_offer_8 : decode b_Mo_offer 8 = .ok (.ireturn, 1) := by decide +kernel
theorem d_Mo_offer_9 : decode b_Mo_offer 9 = .ok (.aload_n 0, 1) := by decide +kernel
theorem d_Mo_offer_10 : decode b_Mo_offer 10 = .ok (.getfield 155, 3) := by decide +kernel
theorem d_Mo_offer_13 : decode b_Mo_offer 13 = .ok (.bipush 12, 2) := by decide +kernel
theorem d_Mo_offer_15 : decode b_Mo_offer 15 = .ok (.if_icmp .ne 5, 3) := by decide +kernel
theorem d_Mo_offer_18 : decode b_Mo_offer 18 = .ok (.iconst 2, 1) := by decide +kernel
theorem d_Mo_offer_19 : decode b_Mo_offer 19 = .ok (.ireturn, 1) := by decide +kernel
theorem d_Mo_offer_20 : decode b_Mo_offer 20 = .ok (.aload_n 0, 1) := by decide +kernel
theorem d_Mo_offer_21 : decode b_Mo_offer 21 = .ok (.invokevirtual 158, 3) := by decide +kernel
theorem d_Mo_offer_24 : decode b_Mo_offer 24 = .ok (.iconst 1, 1) := by decide +kernel
theorem d_Mo_offer_25 : decode b_Mo_offer 25 = .ok (.ireturn, 1) := by decide +kernel
theorem d_Mo_splits_0 : decode b_Mo_splits 0 = .ok (.iconst 0, 1) := by decide +kernel
theorem d_Mo_splits_1 : decode b_Mo_splits 1 = .ok (.istore_n 1, 1) := by decide +kernel
theorem d_Mo_splits_2 : decode b_Mo_splits 2 = .ok (.iload_n 1, 1) := by decide +kernel
theorem d_Mo_splits_3 : decode b_Mo_splits 3 = .ok (.iconst 1, 1) := by decide +kernel
theorem d_Mo_splits_4 : decode b_Mo_splits 4 = .ok (.aload_n 0, 1) := by decide +kernel
theorem d_Mo_splits_5 : decode b_Mo_splits 5 = .ok (.getfield 155, 3) := by decide +kernel
theorem d_Mo_splits_8 : decode b_Mo_splits 8 = .ok (.ishl, 1) := by decide +kernel
theorem d_Mo_splits_9 : decode b_Mo_splits 9 = .ok (.if_icmp .ge 16, 3) := by decide +kernel
theorem d_Mo_splits_12 : decode b_Mo_splits 12 = .ok (.aload_n 0, 1) := by decide +kernel
theorem d_Mo_splits_13 : decode b_Mo_splits 13 = .ok (.getfield 60, 3) := by decide +kernel
theorem d_Mo_splits_16 : decode b_Mo_splits 16 = .ok (.iload_n 1, 1) := by decide +kernel
theorem d_Mo_splits_17 : decode b_Mo_splits 17 = .ok (.iconst 0, 1) := by decide +kernel
theorem d_Mo_splits_18 : decode b_Mo_splits 18 = .ok (.iastore, 1) := by decide +kernel
theorem d_Mo_splits_19 : decode b_Mo_splits 19 = .ok (.iinc 1 1, 3) := by decide +kernel
theorem d_Mo_splits_22 : decode b_Mo_splits 22 = .ok (.goto (-20), 3) := by decide +kernel
theorem d_Mo_splits_25 : decode b_Mo_splits 25 = .ok (.iconst 0, 1) := by decide +kernel
theorem d_Mo_splits_26 : decode b_Mo_splits 26 = .ok (.istore_n 1, 1) := by decide +kernel
theorem d_Mo_splits_27 : decode b_Mo_splits 27 = .ok (.iconst 0, 1) := by decide +kernel
theorem d_Mo_splits_28 : decode b_Mo_splits 28 = .ok (.istore_n 2, 1) := by decide +kernel
theorem d_Mo_splits_29 : decode b_Mo_splits 29 = .ok (.iload_n 2, 1) := by decide +kernel
theorem d_Mo_splits_30 : decode b_Mo_splits 30 = .ok (.aload_n 0, 1) := by decide +kernel
theorem d_Mo_splits_31 : decode b_Mo_splits 31 = .ok (.getfield 82, 3) := by decide +kernel
theorem d_Mo_splits_34 : decode b_Mo_splits 34 = .ok (.if_icmp .ge 62, 3) := by decide +kernel
theorem d_Mo_splits_37 : decode b_Mo_splits 37 = .ok (.aload_n 0, 1) := by decide +kernel
theorem d_Mo_splits_38 : decode b_Mo_splits 38 = .ok (.getfield 60, 3) := by decide +kernel
theorem d_Mo_splits_41 : decode b_Mo_splits 41 = .ok (.aload_n 0, 1) := by decide +kernel
theorem d_Mo_splits_42 : decode b_Mo_splits 42 = .ok (.getfield 32, 3) := by decide +kernel
theorem d_Mo_splits_45 : decode b_Mo_splits 45 = .ok (.iload_n 2, 1) := by decide +kernel
theorem d_Mo_splits_46 : decode b_Mo_splits 46 = .ok (.iaload, 1) := by decide +kernel
theorem d_Mo_splits_47 : decode b_Mo_splits 47 = .ok (.dup2, 1) := by decide +kernel
theorem d_Mo_splits_48 : decode b_Mo_splits 48 = .ok (.iaload, 1) := by decide +kernel
theorem d_Mo_splits_49 : decode b_Mo_splits 49 = .ok (.aload_n 0, 1) := by decide +kernel
theorem d_Mo_splits_50 : decode b_Mo_splits 50 = .ok (.getfield 66, 3) := by decide +kernel
theorem d_Mo_splits_53 : decode b_Mo_splits 53 = .ok (.iload_n 2, 1) := by decide +kernel
theorem d_Mo_splits_54 : decode b_Mo_splits 54 = .ok (.baload, 1) := by decide +kernel
theorem d_Mo_splits_55 : decode b_Mo_splits 55 = .ok (.ifCond .eq 7, 3) := by decide +kernel
theorem d_Mo_splits_58 : decode b_Mo_splits 58 = .ok (.iconst 1, 1) := by decide +kernel
theorem d_Mo_splits_59 : decode b_Mo_splits 59 = .ok (.goto 4, 3) := by decide +kernel
theorem d_Mo_splits_62 : decode b_Mo_splits 62 = .ok (.iconst 2, 1) := by decide +kernel
theorem d_Mo_splits_63 : decode b_Mo_splits 63 = .ok (.ior, 1) := by decide +kernel
theorem d_Mo_splits_64 : decode b_Mo_splits 64 = .ok (.iastore, 1) := by decide +kernel
theorem d_Mo_splits_65 : decode b_Mo_splits 65 = .ok (.iload_n 1, 1) := by decide +kernel
theorem d_Mo_splits_66 : decode b_Mo_splits 66 = .ok (.ifCond .ne 18, 3) := by decide +kernel
theorem d_Mo_splits_69 : decode b_Mo_splits 69 = .ok (.aload_n 0, 1) := by decide +kernel
theorem d_Mo_splits_70 : decode b_Mo_splits 70 = .ok (.getfield 60, 3) := by decide +kernel
theorem d_Mo_splits_73 : decode b_Mo_splits 73 = .ok (.aload_n 0, 1) := by decide +kernel
theorem d_Mo_splits_74 : decode b_Mo_splits 74 = .ok (.getfield 32, 3) := by decide +kernel
theorem d_Mo_splits_77 : decode b_Mo_splits 77 = .ok (.iload_n 2, 1) := by decide +kernel
theorem d_Mo_splits_78 : decode b_Mo_splits 78 = .ok (.iaload, 1) := by decide +kernel
theorem d_Mo_splits_79 : decode b_Mo_splits 79 = .ok (.iaload, 1) := by decide +kernel
theorem d_Mo_splits_80 : decode b_Mo_splits 80 = .ok (.iconst 3, 1) := by decide +kernel
theorem d_Mo_splits_81 : decode b_Mo_splits 81 = .ok (.if_icmp .ne 7, 3) := by decide +kernel
theorem d_Mo_splits_84 : decode b_Mo_splits 84 = .ok (.iconst 1, 1) := by decide +kernel
theorem d_Mo_splits_85 : decode b_Mo_splits 85 = .ok (.goto 4, 3) := by decide +kernel
theorem d_Mo_splits_88 : decode b_Mo_splits 88 = .ok (.iconst 0, 1) := by decide +kernel
theorem d_Mo_splits_89 : decode b_Mo_splits 89 = .ok (.istore_n 1, 1) := by decide +kernel
theorem d_Mo_splits_90 : decode b_Mo_splits 90 = .ok (.iinc 2 1, 3) := by decide +kernel
theorem d_Mo_splits_93 : decode b_Mo_splits 93 = .ok (.goto (-64), 3) := by decide +kernel
theorem d_Mo_splits_96 : decode b_Mo_splits 96 = .ok (.iload_n 1, 1) := by decide +kernel
theorem d_Mo_splits_97 : decode b_Mo_splits 97 = .ok (.ireturn, 1) := by decide +kernel
theorem d_Mo_outcome_0 : decode b_Mo_outcome 0 = .ok (.aload_n 0, 1) := by decide +kernel
theorem d_Mo_outcome_1 : decode b_Mo_outcome 1 = .ok (.iconst 0, 1) := by decide +kernel
theorem d_Mo_outcome_2 : decode b_Mo_outcome 2 = .ok (.putfield 85, 3) := by decide +kernel
theorem d_Mo_outcome_5 : decode b_Mo_outcome 5 = .ok (.aload_n 0, 1) := by decide +kernel
theorem d_Mo_outcome_6 : decode b_Mo_outcome 6 = .ok (.getfield 35, 3) := by decide +kernel
theorem d_Mo_outcome_9 : decode b_Mo_outcome 9 = .ok (.ireturn, 1) := by decide +kernel
theorem d_Mo_edges_0 : decode b_Mo_edges 0 = .ok (.aload_n 0, 1) := by decide +kernel
theorem d_Mo_edges_1 : decode b_Mo_edges 1 = .ok (.iconst 0, 1) := by decide +kernel
theorem d_Mo_edges_2 : decode b_Mo_edges 2 = .ok (.putfield 85, 3) := by decide +kernel
theorem d_Mo_edges_5 : decode b_Mo_edges 5 = .ok (.aload_n 0, 1) := by decide +kernel
theorem d_Mo_edges_6 : decode b_Mo_edges 6 = .ok (.getfield 138, 3) := by decide +kernel
theorem d_Mo_edges_9 : decode b_Mo_edges 9 = .ok (.ireturn, 1) := by decide +kernel
theorem d_Mo_predicates_0 : decode b_Mo_predicates 0 = .ok (.aload_n 0, 1) := by decide +kernel
theorem d_Mo_predicates_1 : decode b_Mo_predicates 1 = .ok (.iconst 0, 1) := by decide +kernel
theorem d_Mo_predicates_2 : decode b_Mo_predicates 2 = .ok (.putfield 85, 3) := by decide +kernel
theorem d_Mo_predicates_5 : decode b_Mo_predicates 5 = .ok (.aload_n 0, 1) := by decide +kernel
theorem d_Mo_predicates_6 : decode b_Mo_predicates 6 = .ok (.getfield 155, 3) := by decide +kernel
theorem d_Mo_predicates_9 : decode b_Mo_predicates 9 = .ok (.ireturn, 1) := by decide +kernel
theorem d_Mo_holds_0 : decode b_Mo_holds 0 = .ok (.aload_n 0, 1) := by decide +kernel
theorem d_Mo_holds_1 : decode b_Mo_holds 1 = .ok (.iconst 0, 1) := by decide +kernel
theorem d_Mo_holds_2 : decode b_Mo_holds 2 = .ok (.putfield 85, 3) := by decide +kernel
theorem d_Mo_holds_5 : decode b_Mo_holds 5 = .ok (.iload_n 1, 1) := by decide +kernel
theorem d_Mo_holds_6 : decode b_Mo_holds 6 = .ok (.ifCond .lt 41, 3) := by decide +kernel
theorem d_Mo_holds_9 : decode b_Mo_holds 9 = .ok (.iload_n 1, 1) := by decide +kernel
theorem d_Mo_holds_10 : decode b_Mo_holds 10 = .ok (.aload_n 0, 1) := by decide +kernel
theorem d_Mo_holds_11 : decode b_Mo_holds 11 = .ok (.getfield 155, 3) := by decide +kernel
theorem d_Mo_holds_14 : decode b_Mo_holds 14 = .ok (.if_icmp .ge 33, 3) := by decide +kernel
theorem d_Mo_holds_17 : decode b_Mo_holds 17 = .ok (.aload_n 0, 1) := by decide +kernel
theorem d_Mo_holds_18 : decode b_Mo_holds 18 = .ok (.iload_n 2, 1) := by decide +kernel
theorem d_Mo_holds_19 : decode b_Mo_holds 19 = .ok (.invokevirtual 219, 3) := by decide +kernel
theorem d_Mo_holds_22 : decode b_Mo_holds 22 = .ok (.ifCond .eq 25, 3) := by decide +kernel
theorem d_Mo_holds_25 : decode b_Mo_holds 25 = .ok (.aload_n 0, 1) := by decide +kernel
theorem d_Mo_holds_26 : decode b_Mo_holds 26 = .ok (.getfield 29, 3) := by decide +kernel
theorem d_Mo_holds_29 : decode b_Mo_holds 29 = .ok (.bipush 8, 2) := by decide +kernel
theorem d_Mo_holds_31 : decode b_Mo_holds 31 = .ok (.iload_n 1, 1) := by decide +kernel
theorem d_Mo_holds_32 : decode b_Mo_holds 32 = .ok (.imul, 1) := by decide +kernel
theorem d_Mo_holds_33 : decode b_Mo_holds 33 = .ok (.iload_n 2, 1) := by decide +kernel
theorem d_Mo_holds_34 : decode b_Mo_holds 34 = .ok (.invokestatic 148, 3) := by decide +kernel
theorem d_Mo_holds_37 : decode b_Mo_holds 37 = .ok (.iconst 1, 1) := by decide +kernel
theorem d_Mo_holds_38 : decode b_Mo_holds 38 = .ok (.if_icmp .ne 7, 3) := by decide +kernel
theorem d_Mo_holds_41 : decode b_Mo_holds 41 = .ok (.iconst 1, 1) := by decide +kernel
theorem d_Mo_holds_42 : decode b_Mo_holds 42 = .ok (.goto 4, 3) := by decide +kernel
theorem d_Mo_holds_45 : decode b_Mo_holds 45 = .ok (.iconst 0, 1) := by decide +kernel
theorem d_Mo_holds_46 : decode b_Mo_holds 46 = .ok (.ireturn, 1) := by decide +kernel
theorem d_Mo_holds_47 : decode b_Mo_holds 47 = .ok (.aload_n 0, 1) := by decide +kernel
theorem d_Mo_holds_48 : decode b_Mo_holds 48 = .ok (.iconst 1, 1) := by decide +kernel
theorem d_Mo_holds_49 : decode b_Mo_holds 49 = .ok (.putfield 85, 3) := by decide +kernel
theorem d_Mo_holds_52 : decode b_Mo_holds 52 = .ok (.iconst 0, 1) := by decide +kernel
theorem d_Mo_holds_53 : decode b_Mo_holds 53 = .ok (.ireturn, 1) := by decide +kernel
theorem d_Mo_isState_0 : decode b_Mo_isState 0 = .ok (.iload_n 1, 1) := by decide +kernel
theorem d_Mo_isState_1 : decode b_Mo_isState 1 = .ok (.ifCond .lt 15, 3) := by decide +kernel
theorem d_Mo_isState_4 : decode b_Mo_isState 4 = .ok (.iload_n 1, 1) := by decide +kernel
theorem d_Mo_isState_5 : decode b_Mo_isState 5 = .ok (.aload_n 0, 1) := by decide +kernel
theorem d_Mo_isState_6 : decode b_Mo_isState 6 = .ok (.getfield 82, 3) := by decide +kernel
theorem d_Mo_isState_9 : decode b_Mo_isState 9 = .ok (.if_icmp .ge 7, 3) := by decide +kernel
theorem d_Mo_isState_12 : decode b_Mo_isState 12 = .ok (.iconst 1, 1) := by decide +kernel
theorem d_Mo_isState_13 : decode b_Mo_isState 13 = .ok (.goto 4, 3) := by decide +kernel
theorem d_Mo_isState_16 : decode b_Mo_isState 16 = .ok (.iconst 0, 1) := by decide +kernel
theorem d_Mo_isState_17 : decode b_Mo_isState 17 = .ok (.ireturn, 1) := by decide +kernel
theorem d_Mo_signature_0 : decode b_Mo_signature 0 = .ok (.aload_n 0, 1) := by decide +kernel
theorem d_Mo_signature_1 : decode b_Mo_signature 1 = .ok (.iconst 0, 1) := by decide +kernel
theorem d_Mo_signature_2 : decode b_Mo_signature 2 = .ok (.putfield 85, 3) := by decide +kernel
theorem d_Mo_signature_5 : decode b_Mo_signature 5 = .ok (.aload_n 0, 1) := by decide +kernel
theorem d_Mo_signature_6 : decode b_Mo_signature 6 = .ok (.iload_n 1, 1) := by decide +kernel
theorem d_Mo_signature_7 : decode b_Mo_signature 7 = .ok (.invokevirtual 219, 3) := by decide +kernel
theorem d_Mo_signature_10 : decode b_Mo_signature 10 = .ok (.ifCond .eq 12, 3) := by decide +kernel
theorem d_Mo_signature_13 : decode b_Mo_signature 13 = .ok (.aload_n 0, 1) := by decide +kernel
theorem d_Mo_signature_14 : decode b_Mo_signature 14 = .ok (.getfield 32, 3) := by decide +kernel
theorem d_Mo_signature_17 : decode b_Mo_signature 17 = .ok (.iload_n 1, 1) := by decide +kernel
theorem d_Mo_signature_18 : decode b_Mo_signature 18 = .ok (.iaload, 1) := by decide +kernel
theorem d_Mo_signature_19 : decode b_Mo_signature 19 = .ok (.goto 8, 3) := by decide +kernel
theorem d_Mo_signature_22 : decode b_Mo_signature 22 = .ok (.aload_n 0, 1) := by decide +kernel
theorem d_Mo_signature_23 : decode b_Mo_signature 23 = .ok (.iconst 1, 1) := by decide +kernel
theorem d_Mo_signature_24 : decode b_Mo_signature 24 = .ok (.invokevirtual 132, 3) := by decide +kernel
theorem d_Mo_signature_27 : decode b_Mo_signature 27 = .ok (.i2s, 1) := by decide +kernel
theorem d_Mo_signature_28 : decode b_Mo_signature 28 = .ok (.ireturn, 1) := by decide +kernel
theorem d_Mo_follow_0 : decode b_Mo_follow 0 = .ok (.aload_n 0, 1) := by decide +kernel
theorem d_Mo_follow_1 : decode b_Mo_follow 1 = .ok (.iconst 0, 1) := by decide +kernel
theorem d_Mo_follow_2 : decode b_Mo_follow 2 = .ok (.putfield 85, 3) := by decide +kernel
theorem d_Mo_follow_5 : decode b_Mo_follow 5 = .ok (.iload_n 1, 1) := by decide +kernel
theorem d_Mo_follow_6 : decode b_Mo_follow 6 = .ok (.ifCond .lt 19, 3) := by decide +kernel
theorem d_Mo_follow_9 : decode b_Mo_follow 9 = .ok (.iload_n 1, 1) := by decide +kernel
theorem d_Mo_follow_10 : decode b_Mo_follow 10 = .ok (.aload_n 0, 1) := by decide +kernel
theorem d_Mo_follow_11 : decode b_Mo_follow 11 = .ok (.getfield 138, 3) := by decide +kernel
theorem d_Mo_follow_14 : decode b_Mo_follow 14 = .ok (.if_icmp .ge 11, 3) := by decide +kernel
theorem d_Mo_follow_17 : decode b_Mo_follow 17 = .ok (.aload_n 0, 1) := by decide +kernel
theorem d_Mo_follow_18 : decode b_Mo_follow 18 = .ok (.iload_n 2, 1) := by decide +kernel
theorem d_Mo_follow_19 : decode b_Mo_follow 19 = .ok (.invokevirtual 219, 3) := by decide +kernel
theorem d_Mo_follow_22 : decode b_Mo_follow 22 = .ok (.ifCond .ne 9, 3) := by decide +kernel
theorem d_Mo_follow_25 : decode b_Mo_follow 25 = .ok (.aload_n 0, 1) := by decide +kernel
theorem d_Mo_follow_26 : decode b_Mo_follow 26 = .ok (.iconst 1, 1) := by decide +kernel
theorem d_Mo_follow_27 : decode b_Mo_follow 27 = .ok (.invokevirtual 132, 3) := by decide +kernel
theorem d_Mo_follow_30 : decode b_Mo_follow 30 = .ok (.ireturn, 1) := by decide +kernel
theorem d_Mo_follow_31 : decode b_Mo_follow 31 = .ok (.aload_n 0, 1) := by decide +kernel
theorem d_Mo_follow_32 : decode b_Mo_follow 32 = .ok (.getfield 19, 3) := by decide +kernel
theorem d_Mo_follow_35 : decode b_Mo_follow 35 = .ok (.iload_n 1, 1) := by decide +kernel
theorem d_Mo_follow_36 : decode b_Mo_follow 36 = .ok (.iaload, 1) := by decide +kernel
theorem d_Mo_follow_37 : decode b_Mo_follow 37 = .ok (.ifCond .ne 10, 3) := by decide +kernel
theorem d_Mo_follow_40 : decode b_Mo_follow 40 = .ok (.aload_n 0, 1) := by decide +kernel
theorem d_Mo_follow_41 : decode b_Mo_follow 41 = .ok (.iload_n 1, 1) := by decide +kernel
theorem d_Mo_follow_42 : decode b_Mo_follow 42 = .ok (.iload_n 2, 1) := by decide +kernel
theorem d_Mo_follow_43 : decode b_Mo_follow 43 = .ok (.invokevirtual 161, 3) := by decide +kernel
theorem d_Mo_follow_46 : decode b_Mo_follow 46 = .ok (.ireturn, 1) := by decide +kernel
theorem d_Mo_follow_47 : decode b_Mo_follow 47 = .ok (.aload_n 0, 1) := by decide +kernel
theorem d_Mo_follow_48 : decode b_Mo_follow 48 = .ok (.getfield 19, 3) := by decide +kernel
theorem d_Mo_follow_51 : decode b_Mo_follow 51 = .ok (.iload_n 1, 1) := by decide +kernel
theorem d_Mo_follow_52 : decode b_Mo_follow 52 = .ok (.iaload, 1) := by decide +kernel
theorem d_Mo_follow_53 : decode b_Mo_follow 53 = .ok (.iconst 1, 1) := by decide +kernel
theorem d_Mo_follow_54 : decode b_Mo_follow 54 = .ok (.if_icmp .ne 16, 3) := by decide +kernel
theorem d_Mo_follow_57 : decode b_Mo_follow 57 = .ok (.aload_n 0, 1) := by decide +kernel
theorem d_Mo_follow_58 : decode b_Mo_follow 58 = .ok (.iload_n 2, 1) := by decide +kernel
theorem d_Mo_follow_59 : decode b_Mo_follow 59 = .ok (.aload_n 0, 1) := by decide +kernel
theorem d_Mo_follow_60 : decode b_Mo_follow 60 = .ok (.getfield 22, 3) := by decide +kernel
theorem d_Mo_follow_63 : decode b_Mo_follow 63 = .ok (.iload_n 1, 1) := by decide +kernel
theorem d_Mo_follow_64 : decode b_Mo_follow 64 = .ok (.iaload, 1) := by decide +kernel
theorem d_Mo_follow_65 : decode b_Mo_follow 65 = .ok (.iload_n 3, 1) := by decide +kernel
theorem d_Mo_follow_66 : decode b_Mo_follow 66 = .ok (.invokevirtual 152, 3) := by decide +kernel
theorem d_Mo_follow_69 : decode b_Mo_follow 69 = .ok (.ireturn, 1) := by decide +kernel
theorem d_Mo_follow_70 : decode b_Mo_follow 70 = .ok (.aload_n 0, 1) := by decide +kernel
theorem d_Mo_follow_71 : decode b_Mo_follow 71 = .ok (.iload_n 1, 1) := by decide +kernel
theorem d_Mo_follow_72 : decode b_Mo_follow 72 = .ok (.iload_n 2, 1) := by decide +kernel
theorem d_Mo_follow_73 : decode b_Mo_follow 73 = .ok (.invokevirtual 164, 3) := by decide +kernel
theorem d_Mo_follow_76 : decode b_Mo_follow 76 = .ok (.ifCond .eq 7, 3) := by decide +kernel
theorem d_Mo_follow_79 : decode b_Mo_follow 79 = .ok (.iload_n 2, 1) := by decide +kernel
theorem d_Mo_follow_80 : decode b_Mo_follow 80 = .ok (.goto 4, 3) := by decide +kernel
theorem d_Mo_follow_83 : decode b_Mo_follow 83 = .ok (.iconst (-1), 1) := by decide +kernel
theorem d_Mo_follow_84 : decode b_Mo_follow 84 = .ok (.ireturn, 1) := by decide +kernel
theorem d_Mo_nodes_0 : decode b_Mo_nodes 0 = .ok (.aload_n 0, 1) := by decide +kernel
theorem d_Mo_nodes_1 : decode b_Mo_nodes 1 = .ok (.iconst 0, 1) := by decide +kernel
theorem d_Mo_nodes_2 : decode b_Mo_nodes 2 = .ok (.putfield 85, 3) := by decide +kernel
theorem d_Mo_nodes_5 : decode b_Mo_nodes 5 = .ok (.aload_n 0, 1) := by decide +kernel
theorem d_Mo_nodes_6 : decode b_Mo_nodes 6 = .ok (.getfield 123, 3) := by decide +kernel
theorem d_Mo_nodes_9 : decode b_Mo_nodes 9 = .ok (.ireturn, 1) := by decide +kernel
theorem d_Mo_node_0 : decode b_Mo_node 0 = .ok (.aload_n 0, 1) := by decide +kernel
theorem d_Mo_node_1 : decode b_Mo_node 1 = .ok (.iconst 0, 1) := by decide +kernel
theorem d_Mo_node_2 : decode b_Mo_node 2 = .ok (.putfield 85, 3) := by decide +kernel
theorem d_Mo_node_5 : decode b_Mo_node 5 = .ok (.iload_n 1, 1) := by decide +kernel
theorem d_Mo_node_6 : decode b_Mo_node 6 = .ok (.ifCond .lt 11, 3) := by decide +kernel
theorem d_Mo_node_9 : decode b_Mo_node 9 = .ok (.iload_n 1, 1) := by decide +kernel
theorem d_Mo_node_10 : decode b_Mo_node 10 = .ok (.aload_n 0, 1) := by decide +kernel
theorem d_Mo_node_11 : decode b_Mo_node 11 = .ok (.getfield 123, 3) := by decide +kernel
theorem d_Mo_node_14 : decode b_Mo_node 14 = .ok (.if_icmp .lt 9, 3) := by decide +kernel
theorem d_Mo_node_17 : decode b_Mo_node 17 = .ok (.aload_n 0, 1) := by decide +kernel
theorem d_Mo_node_18 : decode b_Mo_node 18 = .ok (.iconst 1, 1) := by decide +kernel
theorem d_Mo_node_19 : decode b_Mo_node 19 = .ok (.invokevirtual 132, 3) := by decide +kernel
theorem d_Mo_node_22 : decode b_Mo_node 22 = .ok (.ireturn, 1) := by decide +kernel
theorem d_Mo_node_23 : decode b_Mo_node 23 = .ok (.iload_n 2, 1) := by decide +kernel
theorem d_Mo_node_24 : decode b_Mo_node 24 = .ok (.tableswitch 60 0 3 #[32, 39, 46, 53], 32) := by decide +kernel
theorem d_Mo_node_56 : decode b_Mo_node 56 = .ok (.aload_n 0, 1) := by decide +kernel
theorem d_Mo_node_57 : decode b_Mo_node 57 = .ok (.getfield 39, 3) := by decide +kernel
theorem d_Mo_node_60 : decode b_Mo_node 60 = .ok (.iload_n 1, 1) := by decide +kernel
theorem d_Mo_node_61 : decode b_Mo_node 61 = .ok (.iaload, 1) := by decide +kernel
theorem d_Mo_node_62 : decode b_Mo_node 62 = .ok (.ireturn, 1) := by decide +kernel
theorem d_Mo_node_63 : decode b_Mo_node 63 = .ok (.aload_n 0, 1) := by decide +kernel
theorem d_Mo_node_64 : decode b_Mo_node 64 = .ok (.getfield 42, 3) := by decide +kernel
theorem d_Mo_node_67 : decode b_Mo_node 67 = .ok (.iload_n 1, 1) := by decide +kernel
theorem d_Mo_node_68 : decode b_Mo_node 68 = .ok (.iaload, 1) := by decide +kernel
theorem d_Mo_node_69 : decode b_Mo_node 69 = .ok (.ireturn, 1) := by decide +kernel
theorem d_Mo_node_70 : decode b_Mo_node 70 = .ok (.aload_n 0, 1) := by decide +kernel
theorem d_Mo_node_71 : decode b_Mo_node 71 = .ok (.getfield 45, 3) := by decide +kernel
theorem d_Mo_node_74 : decode b_Mo_node 74 = .ok (.iload_n 1, 1) := by decide +kernel
theorem d_Mo_node_75 : decode b_Mo_node 75 = .ok (.iaload, 1) := by decide +kernel
theorem d_Mo_node_76 : decode b_Mo_node 76 = .ok (.ireturn, 1) := by decide +kernel
theorem d_Mo_node_77 : decode b_Mo_node 77 = .ok (.aload_n 0, 1) := by decide +kernel
theorem d_Mo_node_78 : decode b_Mo_node 78 = .ok (.getfield 48, 3) := by decide +kernel
theorem d_Mo_node_81 : decode b_Mo_node 81 = .ok (.iload_n 1, 1) := by decide +kernel
theorem d_Mo_node_82 : decode b_Mo_node 82 = .ok (.iaload, 1) := by decide +kernel
theorem d_Mo_node_83 : decode b_Mo_node 83 = .ok (.ireturn, 1) := by decide +kernel
theorem d_Mo_node_84 : decode b_Mo_node 84 = .ok (.aload_n 0, 1) := by decide +kernel
theorem d_Mo_node_85 : decode b_Mo_node 85 = .ok (.iconst 2, 1) := by decide +kernel
theorem d_Mo_node_86 : decode b_Mo_node 86 = .ok (.invokevirtual 132, 3) := by decide +kernel
theorem d_Mo_node_89 : decode b_Mo_node 89 = .ok (.ireturn, 1) := by decide +kernel
theorem d_Mo_length_0 : decode b_Mo_length 0 = .ok (.aload_n 0, 1) := by decide +kernel
theorem d_Mo_length_1 : decode b_Mo_length 1 = .ok (.iconst 0, 1) := by decide +kernel
theorem d_Mo_length_2 : decode b_Mo_length 2 = .ok (.putfield 85, 3) := by decide +kernel
theorem d_Mo_length_5 : decode b_Mo_length 5 = .ok (.aload_n 0, 1) := by decide +kernel
theorem d_Mo_length_6 : decode b_Mo_length 6 = .ok (.getfield 51, 3) := by decide +kernel
theorem d_Mo_length_9 : decode b_Mo_length 9 = .ok (.ireturn, 1) := by decide +kernel
theorem d_Mo_path_0 : decode b_Mo_path 0 = .ok (.aload_n 0, 1) := by decide +kernel
theorem d_Mo_path_1 : decode b_Mo_path 1 = .ok (.iconst 0, 1) := by decide +kernel
theorem d_Mo_path_2 : decode b_Mo_path 2 = .ok (.putfield 85, 3) := by decide +kernel
theorem d_Mo_path_5 : decode b_Mo_path 5 = .ok (.iload_n 1, 1) := by decide +kernel
theorem d_Mo_path_6 : decode b_Mo_path 6 = .ok (.ifCond .lt 20, 3) := by decide +kernel
theorem d_Mo_path_9 : decode b_Mo_path 9 = .ok (.iload_n 1, 1) := by decide +kernel
theorem d_Mo_path_10 : decode b_Mo_path 10 = .ok (.aload_n 0, 1) := by decide +kernel
theorem d_Mo_path_11 : decode b_Mo_path 11 = .ok (.getfield 51, 3) := by decide +kernel
theorem d_Mo_path_14 : decode b_Mo_path 14 = .ok (.if_icmp .ge 12, 3) := by decide +kernel
theorem d_Mo_path_17 : decode b_Mo_path 17 = .ok (.aload_n 0, 1) := by decide +kernel
theorem d_Mo_path_18 : decode b_Mo_path 18 = .ok (.getfield 54, 3) := by decide +kernel
theorem d_Mo_path_21 : decode b_Mo_path 21 = .ok (.iload_n 1, 1) := by decide +kernel
theorem d_Mo_path_22 : decode b_Mo_path 22 = .ok (.iaload, 1) := by decide +kernel
theorem d_Mo_path_23 : decode b_Mo_path 23 = .ok (.goto 8, 3) := by decide +kernel
theorem d_Mo_path_26 : decode b_Mo_path 26 = .ok (.aload_n 0, 1) := by decide +kernel
theorem d_Mo_path_27 : decode b_Mo_path 27 = .ok (.iconst 1, 1) := by decide +kernel
theorem d_Mo_path_28 : decode b_Mo_path 28 = .ok (.invokevirtual 132, 3) := by decide +kernel
theorem d_Mo_path_31 : decode b_Mo_path 31 = .ok (.ireturn, 1) := by decide +kernel
theorem d_Mo_input_0 : decode b_Mo_input 0 = .ok (.aload_n 0, 1) := by decide +kernel
theorem d_Mo_input_1 : decode b_Mo_input 1 = .ok (.iconst 0, 1) := by decide +kernel
theorem d_Mo_input_2 : decode b_Mo_input 2 = .ok (.putfield 85, 3) := by decide +kernel
theorem d_Mo_input_5 : decode b_Mo_input 5 = .ok (.aload_n 0, 1) := by decide +kernel
theorem d_Mo_input_6 : decode b_Mo_input 6 = .ok (.getfield 35, 3) := by decide +kernel
theorem d_Mo_input_9 : decode b_Mo_input 9 = .ok (.iconst 2, 1) := by decide +kernel
theorem d_Mo_input_10 : decode b_Mo_input 10 = .ok (.if_icmp .ne 24, 3) := by decide +kernel
theorem d_Mo_input_13 : decode b_Mo_input 13 = .ok (.iload_n 1, 1) := by decide +kernel
theorem d_Mo_input_14 : decode b_Mo_input 14 = .ok (.ifCond .lt 20, 3) := by decide +kernel
theorem d_Mo_input_17 : decode b_Mo_input 17 = .ok (.iload_n 1, 1) := by decide +kernel
theorem d_Mo_input_18 : decode b_Mo_input 18 = .ok (.aload_n 0, 1) := by decide +kernel
theorem d_Mo_input_19 : decode b_Mo_input 19 = .ok (.getfield 126, 3) := by decide +kernel
theorem d_Mo_input_22 : decode b_Mo_input 22 = .ok (.if_icmp .ge 12, 3) := by decide +kernel
theorem d_Mo_input_25 : decode b_Mo_input 25 = .ok (.aload_n 0, 1) := by decide +kernel
theorem d_Mo_input_26 : decode b_Mo_input 26 = .ok (.getfield 57, 3) := by decide +kernel
theorem d_Mo_input_29 : decode b_Mo_input 29 = .ok (.iload_n 1, 1) := by decide +kernel
theorem d_Mo_input_30 : decode b_Mo_input 30 = .ok (.iaload, 1) := by decide +kernel
theorem d_Mo_input_31 : decode b_Mo_input 31 = .ok (.goto 8, 3) := by decide +kernel
theorem d_Mo_input_34 : decode b_Mo_input 34 = .ok (.aload_n 0, 1) := by decide +kernel
theorem d_Mo_input_35 : decode b_Mo_input 35 = .ok (.iconst 1, 1) := by decide +kernel
theorem d_Mo_input_36 : decode b_Mo_input 36 = .ok (.invokevirtual 132, 3) := by decide +kernel
theorem d_Mo_input_39 : decode b_Mo_input 39 = .ok (.ireturn, 1) := by decide +kernel
end
section
theorem d_Lw_law_0 : decode b_Lw_law 0 = .ok (.new 8, 3) := by decide +kernel
theorem d_Lw_law_3 : decode b_Lw_law 3 = .ok (.dup, 1) := by decide +kernel
theorem d_Lw_law_4 : decode b_Lw_law 4 = .ok (.aload_n 0, 1) := by decide +kernel
theorem d_Lw_law_5 : decode b_Lw_law 5 = .ok (.iconst 0, 1) := by decide +kernel
theorem d_Lw_law_6 : decode b_Lw_law 6 = .ok (.invokestatic 48, 3) := by decide +kernel
theorem d_Lw_law_9 : decode b_Lw_law 9 = .ok (.invokespecial 54, 3) := by decide +kernel
theorem d_Lw_law_12 : decode b_Lw_law 12 = .ok (.astore_n 1, 1) := by decide +kernel
theorem d_Lw_law_13 : decode b_Lw_law 13 = .ok (.new 57, 3) := by decide +kernel
theorem d_Lw_law_16 : decode b_Lw_law 16 = .ok (.dup, 1) := by decide +kernel
theorem d_Lw_law_17 : decode b_Lw_law 17 = .ok (.aload_n 0, 1) := by decide +kernel
theorem d_Lw_law_18 : decode b_Lw_law 18 = .ok (.iconst 0, 1) := by decide +kernel
theorem d_Lw_law_19 : decode b_Lw_law 19 = .ok (.invokestatic 48, 3) := by decide +kernel
theorem d_Lw_law_22 : decode b_Lw_law 22 = .ok (.invokespecial 59, 3) := by decide +kernel
theorem d_Lw_law_25 : decode b_Lw_law 25 = .ok (.astore_n 2, 1) := by decide +kernel
theorem d_Lw_law_26 : decode b_Lw_law 26 = .ok (.iconst 1, 1) := by decide +kernel
theorem d_Lw_law_27 : decode b_Lw_law 27 = .ok (.newarray .long, 2) := by decide +kernel
theorem d_Lw_law_29 : decode b_Lw_law 29 = .ok (.astore_n 3, 1) := by decide +kernel
theorem d_Lw_law_30 : decode b_Lw_law 30 = .ok (.iconst 1, 1) := by decide +kernel
theorem d_Lw_law_31 : decode b_Lw_law 31 = .ok (.istore 4, 2) := by decide +kernel
theorem d_Lw_law_33 : decode b_Lw_law 33 = .ok (.iload 4, 2) := by decide +kernel
theorem d_Lw_law_35 : decode b_Lw_law 35 = .ok (.aload_n 0, 1) := by decide +kernel
theorem d_Lw_law_36 : decode b_Lw_law 36 = .ok (.arraylength, 1) := by decide +kernel
theorem d_Lw_law_37 : decode b_Lw_law 37 = .ok (.iconst 4, 1) := by decide +kernel
theorem d_Lw_law_38 : decode b_Lw_law 38 = .ok (.isub, 1) := by decide +kernel
theorem d_Lw_law_39 : decode b_Lw_law 39 = .ok (.if_icmp .gt 748, 3) := by decide +kernel
theorem d_Lw_law_42 : decode b_Lw_law 42 = .ok (.aload_n 0, 1) := by decide +kernel
theorem d_Lw_law_43 : decode b_Lw_law 43 = .ok (.iload 4, 2) := by decide +kernel
theorem d_Lw_law_45 : decode b_Lw_law 45 = .ok (.iaload, 1) := by decide +kernel
theorem d_Lw_law_46 : decode b_Lw_law 46 = .ok (.bipush 31, 2) := by decide +kernel
theorem d_Lw_law_48 : decode b_Lw_law 48 = .ok (.iand, 1) := by decide +kernel
theorem d_Lw_law_49 : decode b_Lw_law 49 = .ok (.tableswitch 732 0 16 #[83, 110, 121, 165, 209, 220, 276, 289, 302, 315, 390, 446, 526, 539, 607, 620, 676], 83) := by decide +kernel
theorem d_Lw_law_132 : decode b_Lw_law 132 = .ok (.aload_n 1, 1) := by decide +kernel
theorem d_Lw_law_133 : decode b_Lw_law 133 = .ok (.aload_n 0, 1) := by decide +kernel
theorem d_Lw_law_134 : decode b_Lw_law 134 = .ok (.iload 4, 2) := by decide +kernel
theorem d_Lw_law_136 : decode b_Lw_law 136 = .ok (.iconst 1, 1) := by decide +kernel
theorem d_Lw_law_137 : decode b_Lw_law 137 = .ok (.iadd, 1) := by decide +kernel
theorem d_Lw_law_138 : decode b_Lw_law 138 = .ok (.iaload, 1) := by decide +kernel
theorem d_Lw_law_139 : decode b_Lw_law 139 = .ok (.i2c, 1) := by decide +kernel
theorem d_Lw_law_140 : decode b_Lw_law 140 = .ok (.invokevirtual 60, 3) := by decide +kernel
theorem d_Lw_law_143 : decode b_Lw_law 143 = .ok (.aload_n 2, 1) := by decide +kernel
theorem d_Lw_law_144 : decode b_Lw_law 144 = .ok (.aload_n 0, 1) := by decide +kernel
theorem d_Lw_law_145 : decode b_Lw_law 145 = .ok (.iload 4, 2) := by decide +kernel
theorem d_Lw_law_147 : decode b_Lw_law 147 = .ok (.iconst 1, 1) := by decide +kernel
theorem d_Lw_law_148 : decode b_Lw_law 148 = .ok (.iadd, 1) := by decide +kernel
theorem d_Lw_law_149 : decode b_Lw_law 149 = .ok (.iaload, 1) := by decide +kernel
theorem d_Lw_law_150 : decode b_Lw_law 150 = .ok (.i2c, 1) := by decide +kernel
theorem d_Lw_law_151 : decode b_Lw_law 151 = .ok (.invokevirtual 64, 3) := by decide +kernel
theorem d_Lw_law_154 : decode b_Lw_law 154 = .ok (.if_icmp .eq 627, 3) := by decide +kernel
theorem d_Lw_law_157 : decode b_Lw_law 157 = .ok (.iconst 0, 1) := by decide +kernel
theorem d_Lw_law_158 : decode b_Lw_law 158 = .ok (.ireturn, 1) := by decide +kernel
theorem d_Lw_law_159 : decode b_Lw_law 159 = .ok (.aload_n 1, 1) := by decide +kernel
theorem d_Lw_law_160 : decode b_Lw_law 160 = .ok (.invokevirtual 65, 3) := by decide +kernel
theorem d_Lw_law_163 : decode b_Lw_law 163 = .ok (.aload_n 2, 1) := by decide +kernel
theorem d_Lw_law_164 : decode b_Lw_law 164 = .ok (.invokevirtual 68, 3) := by decide +kernel
theorem d_Lw_law_167 : decode b_Lw_law 167 = .ok (.goto 614, 3) := by decide +kernel
theorem d_Lw_law_170 : decode b_Lw_law 170 = .ok (.aload_n 1, 1) := by decide +kernel
theorem d_Lw_law_171 : decode b_Lw_law 171 = .ok (.aload_n 3, 1) := by decide +kernel
theorem d_Lw_law_172 : decode b_Lw_law 172 = .ok (.invokestatic 69, 3) := by decide +kernel
theorem d_Lw_law_175 : decode b_Lw_law 175 = .ok (.istore 5, 2) := by decide +kernel
theorem d_Lw_law_177 : decode b_Lw_law 177 = .ok (.aload_n 2, 1) := by decide +kernel
theorem d_Lw_law_178 : decode b_Lw_law 178 = .ok (.invokevirtual 72, 3) := by decide +kernel
theorem d_Lw_law_181 : decode b_Lw_law 181 = .ok (.istore 6, 2) := by decide +kernel
theorem d_Lw_law_183 : decode b_Lw_law 183 = .ok (.aload_n 2, 1) := by decide +kernel
theorem d_Lw_law_184 : decode b_Lw_law 184 = .ok (.invokevirtual 73, 3) := by decide +kernel
theorem d_Lw_law_187 : decode b_Lw_law 187 = .ok (.iload 5, 2) := by decide +kernel
theorem d_Lw_law_189 : decode b_Lw_law 189 = .ok (.if_icmp .eq 5, 3) := by decide +kernel
theorem d_Lw_law_192 : decode b_Lw_law 192 = .ok (.iconst 0, 1) := by decide +kernel
theorem d_Lw_law_193 : decode b_Lw_law 193 = .ok (.ireturn, 1) := by decide +kernel
theorem d_Lw_law_194 : decode b_Lw_law 194 = .ok (.iload 5, 2) := by decide +kernel
theorem d_Lw_law_196 : decode b_Lw_law 196 = .ok (.ifCond .ne 15, 3) := by decide +kernel
theorem d_Lw_law_199 : decode b_Lw_law 199 = .ok (.aload_n 3, 1) := by decide +kernel
theorem d_Lw_law_200 : decode b_Lw_law 200 = .ok (.iconst 0, 1) := by decide +kernel
theorem d_Lw_law_201 : decode b_Lw_law 201 = .ok (.laload, 1) := by decide +kernel
theorem d_Lw_law_202 : decode b_Lw_law 202 = .ok (.iload 6, 2) := by decide +kernel
theorem d_Lw_law_204 : decode b_Lw_law 204 = .ok (.i2l, 1) := by decide +kernel
theorem d_Lw_law_205 : decode b_Lw_law 205 = .ok (.lcmp, 1) := by decide +kernel
theorem d_Lw_law_206 : decode b_Lw_law 206 = .ok (.ifCond .eq 5, 3) := by decide +kernel
theorem d_Lw_law_209 : decode b_Lw_law 209 = .ok (.iconst 0, 1) := by decide +kernel
theorem d_Lw_law_210 : decode b_Lw_law 210 = .ok (.ireturn, 1) := by decide +kernel
theorem d_Lw_law_211 : decode b_Lw_law 211 = .ok (.goto 570, 3) := by decide +kernel
theorem d_Lw_law_214 : decode b_Lw_law 214 = .ok (.aload_n 1, 1) := by decide +kernel
theorem d_Lw_law_215 : decode b_Lw_law 215 = .ok (.aload_n 3, 1) := by decide +kernel
theorem d_Lw_law_216 : decode b_Lw_law 216 = .ok (.invokestatic 76, 3) := by decide +kernel
theorem d_Lw_law_219 : decode b_Lw_law 219 = .ok (.istore 5, 2) := by decide +kernel
theorem d_Lw_law_221 : decode b_Lw_law 221 = .ok (.aload_n 2, 1) := by decide +kernel
theorem d_Lw_law_222 : decode b_Lw_law 222 = .ok (.invokevirtual 78, 3) := by decide +kernel
theorem d_Lw_law_225 : decode b_Lw_law 225 = .ok (.istore 6, 2) := by decide +kernel
theorem d_Lw_law_227 : decode b_Lw_law 227 = .ok (.aload_n 2, 1) := by decide +kernel
theorem d_Lw_law_228 : decode b_Lw_law 228 = .ok (.invokevirtual 73, 3) := by decide +kernel
theorem d_Lw_law_231 : decode b_Lw_law 231 = .ok (.iload 5, 2) := by decide +kernel
theorem d_Lw_law_233 : decode b_Lw_law 233 = .ok (.if_icmp .eq 5, 3) := by decide +kernel
theorem d_Lw_law_236 : decode b_Lw_law 236 = .ok (.iconst 0, 1) := by decide +kernel
theorem d_Lw_law_237 : decode b_Lw_law 237 = .ok (.ireturn, 1) := by decide +kernel
theorem d_Lw_law_238 : decode b_Lw_law 238 = .ok (.iload 5, 2) := by decide +kernel
theorem d_Lw_law_240 : decode b_Lw_law 240 = .ok (.ifCond .ne 15, 3) := by decide +kernel
theorem d_Lw_law_243 : decode b_Lw_law 243 = .ok (.aload_n 3, 1) := by decide +kernel
theorem d_Lw_law_244 : decode b_Lw_law 244 = .ok (.iconst 0, 1) := by decide +kernel
theorem d_Lw_law_245 : decode b_Lw_law 245 = .ok (.laload, 1) := by decide +kernel
theorem d_Lw_law_246 : decode b_Lw_law 246 = .ok (.iload 6, 2) := by decide +kernel
theorem d_Lw_law_248 : decode b_Lw_law 248 = .ok (.i2l, 1) := by decide +kernel
theorem d_Lw_law_249 : decode b_Lw_law 249 = .ok (.lcmp, 1) := by decide +kernel
theorem d_Lw_law_250 : decode b_Lw_law 250 = .ok (.ifCond .eq 5, 3) := by decide +kernel
theorem d_Lw_law_253 : decode b_Lw_law 253 = .ok (.iconst 0, 1) := by decide +kernel
theorem d_Lw_law_254 : decode b_Lw_law 254 = .ok (.ireturn, 1) := by decide +kernel
theorem d_Lw_law_255 : decode b_Lw_law 255 = .ok (.goto 526, 3) := by decide +kernel
theorem d_Lw_law_258 : decode b_Lw_law 258 = .ok (.aload_n 1, 1) := by decide +kernel
theorem d_Lw_law_259 : decode b_Lw_law 259 = .ok (.invokevirtual 79, 3) := by decide +kernel
theorem d_Lw_law_262 : decode b_Lw_law 262 = .ok (.aload_n 2, 1) := by decide +kernel
theorem d_Lw_law_263 : decode b_Lw_law 263 = .ok (.invokevirtual 82, 3) := by decide +kernel
theorem d_Lw_law_266 : decode b_Lw_law 266 = .ok (.goto 515, 3) := by decide +kernel
theorem d_Lw_law_269 : decode b_Lw_law 269 = .ok (.aload_n 1, 1) := by decide +kernel
theorem d_Lw_law_270 : decode b_Lw_law 270 = .ok (.aload_n 0, 1) := by decide +kernel
theorem d_Lw_law_271 : decode b_Lw_law 271 = .ok (.iload 4, 2) := by decide +kernel
theorem d_Lw_law_273 : decode b_Lw_law 273 = .ok (.iconst 1, 1) := by decide +kernel
theorem d_Lw_law_274 : decode b_Lw_law 274 = .ok (.iadd, 1) := by decide +kernel
theorem d_Lw_law_275 : decode b_Lw_law 275 = .ok (.iaload, 1) := by decide +kernel
theorem d_Lw_law_276 : decode b_Lw_law 276 = .ok (.aload_n 3, 1) := by decide +kernel
theorem d_Lw_law_277 : decode b_Lw_law 277 = .ok (.invokestatic 83, 3) := by decide +kernel
theorem d_Lw_law_280 : decode b_Lw_law 280 = .ok (.istore 5, 2) := by decide +kernel
theorem d_Lw_law_282 : decode b_Lw_law 282 = .ok (.aload_n 2, 1) := by decide +kernel
theorem d_Lw_law_283 : decode b_Lw_law 283 = .ok (.aload_n 0, 1) := by decide +kernel
theorem d_Lw_law_284 : decode b_Lw_law 284 = .ok (.iload 4, 2) := by decide +kernel
theorem d_Lw_law_286 : decode b_Lw_law 286 = .ok (.iconst 1, 1) := by decide +kernel
theorem d_Lw_law_287 : decode b_Lw_law 287 = .ok (.iadd, 1) := by decide +kernel
theorem d_Lw_law_288 : decode b_Lw_law 288 = .ok (.iaload, 1) := by decide +kernel
theorem d_Lw_law_289 : decode b_Lw_law 289 = .ok (.invokevirtual 86, 3) := by decide +kernel
theorem d_Lw_law_292 : decode b_Lw_law 292 = .ok (.istore 6, 2) := by decide +kernel
theorem d_Lw_law_294 : decode b_Lw_law 294 = .ok (.aload_n 2, 1) := by decide +kernel
theorem d_Lw_law_295 : decode b_Lw_law 295 = .ok (.invokevirtual 73, 3) := by decide +kernel
theorem d_Lw_law_298 : decode b_Lw_law 298 = .ok (.iload 5, 2) := by decide +kernel
theorem d_Lw_law_300 : decode b_Lw_law 300 = .ok (.if_icmp .eq 5, 3) := by decide +kernel
theorem d_Lw_law_303 : decode b_Lw_law 303 = .ok (.iconst 0, 1) := by decide +kernel
theorem d_Lw_law_304 : decode b_Lw_law 304 = .ok (.ireturn, 1) := by decide +kernel
theorem d_Lw_law_305 : decode b_Lw_law 305 = .ok (.iload 5, 2) := by decide +kernel
theorem d_Lw_law_307 : decode b_Lw_law 307 = .ok (.ifCond .ne 15, 3) := by decide +kernel
theorem d_Lw_law_310 : decode b_Lw_law 310 = .ok (.aload_n 3, 1) := by decide +kernel
theorem d_Lw_law_311 : decode b_Lw_law 311 = .ok (.iconst 0, 1) := by decide +kernel
theorem d_Lw_law_312 : decode b_Lw_law 312 = .ok (.laload, 1) := by decide +kernel
theorem d_Lw_law_313 : decode b_Lw_law 313 = .ok (.iload 6, 2) := by decide +kernel
theorem d_Lw_law_315 : decode b_Lw_law 315 = .ok (.i2l, 1) := by decide +kernel
theorem d_Lw_law_316 : decode b_Lw_law 316 = .ok (.lcmp, 1) := by decide +kernel
theorem d_Lw_law_317 : decode b_Lw_law 317 = .ok (.ifCond .eq 5, 3) := by decide +kernel
theorem d_Lw_law_320 : decode b_Lw_law 320 = .ok (.iconst 0, 1) := by decide +kernel
theorem d_Lw_law_321 : decode b_Lw_law 321 = .ok (.ireturn, 1) := by decide +kernel
theorem d_Lw_law_322 : decode b_Lw_law 322 = .ok (.goto 459, 3) := by decide +kernel
theorem d_Lw_law_325 : decode b_Lw_law 325 = .ok (.aload_n 1, 1) := by decide +kernel
theorem d_Lw_law_326 : decode b_Lw_law 326 = .ok (.invokevirtual 87, 3) := by decide +kernel
theorem d_Lw_law_329 : decode b_Lw_law 329 = .ok (.aload_n 2, 1) := by decide +kernel
theorem d_Lw_law_330 : decode b_Lw_law 330 = .ok (.invokevirtual 90, 3) := by decide +kernel
theorem d_Lw_law_333 : decode b_Lw_law 333 = .ok (.if_icmp .eq 448, 3) := by decide +kernel
theorem d_Lw_law_336 : decode b_Lw_law 336 = .ok (.iconst 0, 1) := by decide +kernel
theorem d_Lw_law_337 : decode b_Lw_law 337 = .ok (.ireturn, 1) := by decide +kernel
theorem d_Lw_law_338 : decode b_Lw_law 338 = .ok (.aload_n 1, 1) := by decide +kernel
theorem d_Lw_law_339 : decode b_Lw_law 339 = .ok (.invokevirtual 91, 3) := by decide +kernel
theorem d_Lw_law_342 : decode b_Lw_law 342 = .ok (.aload_n 2, 1) := by decide +kernel
theorem d_Lw_law_343 : decode b_Lw_law 343 = .ok (.invokevirtual 94, 3) := by decide +kernel
theorem d_Lw_law_346 : decode b_Lw_law 346 = .ok (.if_icmp .eq 435, 3) := by decide +kernel
theorem d_Lw_law_349 : decode b_Lw_law 349 = .ok (.iconst 0, 1) := by decide +kernel
theorem d_Lw_law_350 : decode b_Lw_law 350 = .ok (.ireturn, 1) := by decide +kernel
theorem d_Lw_law_351 : decode b_Lw_law 351 = .ok (.aload_n 1, 1) := by decide +kernel
theorem d_Lw_law_352 : decode b_Lw_law 352 = .ok (.invokevirtual 95, 3) := by decide +kernel
theorem d_Lw_law_355 : decode b_Lw_law 355 = .ok (.aload_n 2, 1) := by decide +kernel
theorem d_Lw_law_356 : decode b_Lw_law 356 = .ok (.invokevirtual 98, 3) := by decide +kernel
theorem d_Lw_law_359 : decode b_Lw_law 359 = .ok (.if_icmp .eq 422, 3) := by decide +kernel
theorem d_Lw_law_362 : decode b_Lw_law 362 = .ok (.iconst 0, 1) := by decide +kernel
theorem d_Lw_law_363 : decode b_Lw_law 363 = .ok (.ireturn, 1) := by decide +kernel
theorem d_Lw_law_364 : decode b_Lw_law 364 = .ok (.aload_n 1, 1) := by decide +kernel
theorem d_Lw_law_365 : decode b_Lw_law 365 = .ok (.aload_n 0, 1) := by decide +kernel
theorem d_Lw_law_366 : decode b_Lw_law 366 = .ok (.iload 4, 2) := by decide +kernel
theorem d_Lw_law_368 : decode b_Lw_law 368 = .ok (.iconst 1, 1) := by decide +kernel
theorem d_Lw_law_369 : decode b_Lw_law 369 = .ok (.iadd, 1) := by decide +kernel
theorem d_Lw_law_370 : decode b_Lw_law 370 = .ok (.iaload, 1) := by decide +kernel
theorem d_Lw_law_371 : decode b_Lw_law 371 = .ok (.aload_n 0, 1) := by decide +kernel
theorem d_Lw_law_372 : decode b_Lw_law 372 = .ok (.iload 4, 2) := by decide +kernel
theorem d_Lw_law_374 : decode b_Lw_law 374 = .ok (.iconst 2, 1) := by decide +kernel
theorem d_Lw_law_375 : decode b_Lw_law 375 = .ok (.iadd, 1) := by decide +kernel
theorem d_Lw_law_376 : decode b_Lw_law 376 = .ok (.iaload, 1) := by decide +kernel
theorem d_Lw_law_377 : decode b_Lw_law 377 = .ok (.aload_n 3, 1) := by decide +kernel
theorem d_Lw_law_378 : decode b_Lw_law 378 = .ok (.invokestatic 99, 3) := by decide +kernel
theorem d_Lw_law_381 : decode b_Lw_law 381 = .ok (.istore 5, 2) := by decide +kernel
theorem d_Lw_law_383 : decode b_Lw_law 383 = .ok (.aload_n 2, 1) := by decide +kernel
theorem d_Lw_law_384 : decode b_Lw_law 384 = .ok (.aload_n 0, 1) := by decide +kernel
theorem d_Lw_law_385 : decode b_Lw_law 385 = .ok (.iload 4, 2) := by decide +kernel
theorem d_Lw_law_387 : decode b_Lw_law 387 = .ok (.iconst 1, 1) := by decide +kernel
theorem d_Lw_law_388 : decode b_Lw_law 388 = .ok (.iadd, 1) := by decide +kernel
theorem d_Lw_law_389 : decode b_Lw_law 389 = .ok (.iaload, 1) := by decide +kernel
theorem d_Lw_law_390 : decode b_Lw_law 390 = .ok (.aload_n 0, 1) := by decide +kernel
theorem d_Lw_law_391 : decode b_Lw_law 391 = .ok (.iload 4, 2) := by decide +kernel
theorem d_Lw_law_393 : decode b_Lw_law 393 = .ok (.iconst 2, 1) := by decide +kernel
theorem d_Lw_law_394 : decode b_Lw_law 394 = .ok (.iadd, 1) := by decide +kernel
theorem d_Lw_law_395 : decode b_Lw_law 395 = .ok (.iaload, 1) := by decide +kernel
theorem d_Lw_law_396 : decode b_Lw_law 396 = .ok (.invokevirtual 102, 3) := by decide +kernel
theorem d_Lw_law_399 : decode b_Lw_law 399 = .ok (.istore 6, 2) := by decide +kernel
theorem d_Lw_law_401 : decode b_Lw_law 401 = .ok (.aload_n 2, 1) := by decide +kernel
theorem d_Lw_law_402 : decode b_Lw_law 402 = .ok (.invokevirtual 73, 3) := by decide +kernel
theorem d_Lw_law_405 : decode b_Lw_law 405 = .ok (.iload 5, 2) := by decide +kernel
theorem d_Lw_law_407 : decode b_Lw_law 407 = .ok (.if_icmp .eq 5, 3) := by decide +kernel
theorem d_Lw_law_410 : decode b_Lw_law 410 = .ok (.iconst 0, 1) := by decide +kernel
theorem d_Lw_law_411 : decode b_Lw_law 411 = .ok (.ireturn, 1) := by decide +kernel
theorem d_Lw_law_412 : decode b_Lw_law 412 = .ok (.iload 5, 2) := by decide +kernel
theorem d_Lw_law_414 : decode b_Lw_law 414 = .ok (.ifCond .ne 22, 3) := by decide +kernel
theorem d_Lw_law_417 : decode b_Lw_law 417 = .ok (.aload_n 3, 1) := by decide +kernel
theorem d_Lw_law_418 : decode b_Lw_law 418 = .ok (.iconst 0, 1) := by decide +kernel
theorem d_Lw_law_419 : decode b_Lw_law 419 = .ok (.laload, 1) := by decide +kernel
theorem d_Lw_law_420 : decode b_Lw_law 420 = .ok (.iload 6, 2) := by decide +kernel
theorem d_Lw_law_422 : decode b_Lw_law 422 = .ok (.ifCond .eq 7, 3) := by decide +kernel
theorem d_Lw_law_425 : decode b_Lw_law 425 = .ok (.lconst 1, 1) := by decide +kernel
theorem d_Lw_law_426 : decode b_Lw_law 426 = .ok (.goto 4, 3) := by decide +kernel
theorem d_Lw_law_429 : decode b_Lw_law 429 = .ok (.lconst 0, 1) := by decide +kernel
theorem d_Lw_law_430 : decode b_Lw_law 430 = .ok (.lcmp, 1) := by decide +kernel
theorem d_Lw_law_431 : decode b_Lw_law 431 = .ok (.ifCond .eq 5, 3) := by decide +kernel
theorem d_Lw_law_434 : decode b_Lw_law 434 = .ok (.iconst 0, 1) := by decide +kernel
theorem d_Lw_law_435 : decode b_Lw_law 435 = .ok (.ireturn, 1) := by decide +kernel
theorem d_Lw_law_436 : decode b_Lw_law 436 = .ok (.goto 345, 3) := by decide +kernel
theorem d_Lw_law_439 : decode b_Lw_law 439 = .ok (.aload_n 1, 1) := by decide +kernel
theorem d_Lw_law_440 : decode b_Lw_law 440 = .ok (.aload_n 0, 1) := by decide +kernel
theorem d_Lw_law_441 : decode b_Lw_law 441 = .ok (.iload 4, 2) := by decide +kernel
theorem d_Lw_law_443 : decode b_Lw_law 443 = .ok (.iconst 1, 1) := by decide +kernel
theorem d_Lw_law_444 : decode b_Lw_law 444 = .ok (.iadd, 1) := by decide +kernel
theorem d_Lw_law_445 : decode b_Lw_law 445 = .ok (.iaload, 1) := by decide +kernel
theorem d_Lw_law_446 : decode b_Lw_law 446 = .ok (.aload_n 3, 1) := by decide +kernel
theorem d_Lw_law_447 : decode b_Lw_law 447 = .ok (.invokestatic 103, 3) := by decide +kernel
theorem d_Lw_law_450 : decode b_Lw_law 450 = .ok (.istore 5, 2) := by decide +kernel
theorem d_Lw_law_452 : decode b_Lw_law 452 = .ok (.aload_n 2, 1) := by decide +kernel
theorem d_Lw_law_453 : decode b_Lw_law 453 = .ok (.aload_n 0, 1) := by decide +kernel
theorem d_Lw_law_454 : decode b_Lw_law 454 = .ok (.iload 4, 2) := by decide +kernel
theorem d_Lw_law_456 : decode b_Lw_law 456 = .ok (.iconst 1, 1) := by decide +kernel
theorem d_Lw_law_457 : decode b_Lw_law 457 = .ok (.iadd, 1) := by decide +kernel
theorem d_Lw_law_458 : decode b_Lw_law 458 = .ok (.iaload, 1) := by decide +kernel
theorem d_Lw_law_459 : decode b_Lw_law 459 = .ok (.invokevirtual 105, 3) := by decide +kernel
theorem d_Lw_law_462 : decode b_Lw_law 462 = .ok (.istore 6, 2) := by decide +kernel
theorem d_Lw_law_464 : decode b_Lw_law 464 = .ok (.aload_n 2, 1) := by decide +kernel
theorem d_Lw_law_465 : decode b_Lw_law 465 = .ok (.invokevirtual 73, 3) := by decide +kernel
theorem d_Lw_law_468 : decode b_Lw_law 468 = .ok (.iload 5, 2) := by decide +kernel
theorem d_Lw_law_470 : decode b_Lw_law 470 = .ok (.if_icmp .eq 5, 3) := by decide +kernel
theorem d_Lw_law_473 : decode b_Lw_law 473 = .ok (.iconst 0, 1) := by decide +kernel
theorem d_Lw_law_474 : decode b_Lw_law 474 = .ok (.ireturn, 1) := by decide +kernel
theorem d_Lw_law_475 : decode b_Lw_law 475 = .ok (.iload 5, 2) := by decide +kernel
theorem d_Lw_law_477 : decode b_Lw_law 477 = .ok (.ifCond .ne 15, 3) := by decide +kernel
theorem d_Lw_law_480 : decode b_Lw_law 480 = .ok (.aload_n 3, 1) := by decide +kernel
theorem d_Lw_law_481 : decode b_Lw_law 481 = .ok (.iconst 0, 1) := by decide +kernel
theorem d_Lw_law_482 : decode b_Lw_law 482 = .ok (.laload, 1) := by decide +kernel
theorem d_Lw_law_483 : decode b_Lw_law 483 = .ok (.iload 6, 2) := by decide +kernel
theorem d_Lw_law_485 : decode b_Lw_law 485 = .ok (.i2l, 1) := by decide +kernel
theorem d_Lw_law_486 : decode b_Lw_law 486 = .ok (.lcmp, 1) := by decide +kernel
theorem d_Lw_law_487 : decode b_Lw_law 487 = .ok (.ifCond .eq 5, 3) := by decide +kernel
theorem d_Lw_law_490 : decode b_Lw_law 490 = .ok (.iconst 0, 1) := by decide +kernel
theorem d_Lw_law_491 : decode b_Lw_law 491 = .ok (.ireturn, 1) := by decide +kernel
theorem d_Lw_law_492 : decode b_Lw_law 492 = .ok (.goto 289, 3) := by decide +kernel
theorem d_Lw_law_495 : decode b_Lw_law 495 = .ok (.aload_n 1, 1) := by decide +kernel
theorem d_Lw_law_496 : decode b_Lw_law 496 = .ok (.aload_n 0, 1) := by decide +kernel
theorem d_Lw_law_497 : decode b_Lw_law 497 = .ok (.iload 4, 2) := by decide +kernel
theorem d_Lw_law_499 : decode b_Lw_law 499 = .ok (.iconst 1, 1) := by decide +kernel
theorem d_Lw_law_500 : decode b_Lw_law 500 = .ok (.iadd, 1) := by decide +kernel
theorem d_Lw_law_501 : decode b_Lw_law 501 = .ok (.iaload, 1) := by decide +kernel
theorem d_Lw_law_502 : decode b_Lw_law 502 = .ok (.aload_n 0, 1) := by decide +kernel
theorem d_Lw_law_503 : decode b_Lw_law 503 = .ok (.iload 4, 2) := by decide +kernel
theorem d_Lw_law_505 : decode b_Lw_law 505 = .ok (.iconst 2, 1) := by decide +kernel
theorem d_Lw_law_506 : decode b_Lw_law 506 = .ok (.iadd, 1) := by decide +kernel
theorem d_Lw_law_507 : decode b_Lw_law 507 = .ok (.iaload, 1) := by decide +kernel
theorem d_Lw_law_508 : decode b_Lw_law 508 = .ok (.aload_n 0, 1) := by decide +kernel
theorem d_Lw_law_509 : decode b_Lw_law 509 = .ok (.iload 4, 2) := by decide +kernel
theorem d_Lw_law_511 : decode b_Lw_law 511 = .ok (.iconst 3, 1) := by decide +kernel
theorem d_Lw_law_512 : decode b_Lw_law 512 = .ok (.iadd, 1) := by decide +kernel
theorem d_Lw_law_513 : decode b_Lw_law 513 = .ok (.iaload, 1) := by decide +kernel
theorem d_Lw_law_514 : decode b_Lw_law 514 = .ok (.aload_n 3, 1) := by decide +kernel
theorem d_Lw_law_515 : decode b_Lw_law 515 = .ok (.invokestatic 106, 3) := by decide +kernel
theorem d_Lw_law_518 : decode b_Lw_law 518 = .ok (.istore 5, 2) := by decide +kernel
theorem d_Lw_law_520 : decode b_Lw_law 520 = .ok (.aload_n 2, 1) := by decide +kernel
theorem d_Lw_law_521 : decode b_Lw_law 521 = .ok (.aload_n 0, 1) := by decide +kernel
theorem d_Lw_law_522 : decode b_Lw_law 522 = .ok (.iload 4, 2) := by decide +kernel
theorem d_Lw_law_524 : decode b_Lw_law 524 = .ok (.iconst 1, 1) := by decide +kernel
theorem d_Lw_law_525 : decode b_Lw_law 525 = .ok (.iadd, 1) := by decide +kernel
theorem d_Lw_law_526 : decode b_Lw_law 526 = .ok (.iaload, 1) := by decide +kernel
theorem d_Lw_law_527 : decode b_Lw_law 527 = .ok (.aload_n 0, 1) := by decide +kernel
theorem d_Lw_law_528 : decode b_Lw_law 528 = .ok (.iload 4, 2) := by decide +kernel
theorem d_Lw_law_530 : decode b_Lw_law 530 = .ok (.iconst 2, 1) := by decide +kernel
theorem d_Lw_law_531 : decode b_Lw_law 531 = .ok (.iadd, 1) := by decide +kernel
theorem d_Lw_law_532 : decode b_Lw_law 532 = .ok (.iaload, 1) := by decide +kernel
theorem d_Lw_law_533 : decode b_Lw_law 533 = .ok (.aload_n 0, 1) := by decide +kernel
theorem d_Lw_law_534 : decode b_Lw_law 534 = .ok (.iload 4, 2) := by decide +kernel
theorem d_Lw_law_536 : decode b_Lw_law 536 = .ok (.iconst 3, 1) := by decide +kernel
theorem d_Lw_law_537 : decode b_Lw_law 537 = .ok (.iadd, 1) := by decide +kernel
theorem d_Lw_law_538 : decode b_Lw_law 538 = .ok (.iaload, 1) := by decide +kernel
theorem d_Lw_law_539 : decode b_Lw_law 539 = .ok (.invokevirtual 109, 3) := by decide +kernel
theorem d_Lw_law_542 : decode b_Lw_law 542 = .ok (.istore 6, 2) := by decide +kernel
theorem d_Lw_law_544 : decode b_Lw_law 544 = .ok (.aload_n 2, 1) := by decide +kernel
theorem d_Lw_law_545 : decode b_Lw_law 545 = .ok (.invokevirtual 73, 3) := by decide +kernel
theorem d_Lw_law_548 : decode b_Lw_law 548 = .ok (.iload 5, 2) := by decide +kernel
theorem d_Lw_law_550 : decode b_Lw_law 550 = .ok (.if_icmp .eq 5, 3) := by decide +kernel
theorem d_Lw_law_553 : decode b_Lw_law 553 = .ok (.iconst 0, 1) := by decide +kernel
theorem d_Lw_law_554 : decode b_Lw_law 554 = .ok (.ireturn, 1) := by decide +kernel
theorem d_Lw_law_555 : decode b_Lw_law 555 = .ok (.iload 5, 2) := by decide +kernel
theorem d_Lw_law_557 : decode b_Lw_law 557 = .ok (.ifCond .ne 15, 3) := by decide +kernel
theorem d_Lw_law_560 : decode b_Lw_law 560 = .ok (.aload_n 3, 1) := by decide +kernel
theorem d_Lw_law_561 : decode b_Lw_law 561 = .ok (.iconst 0, 1) := by decide +kernel
theorem d_Lw_law_562 : decode b_Lw_law 562 = .ok (.laload, 1) := by decide +kernel
theorem d_Lw_law_563 : decode b_Lw_law 563 = .ok (.iload 6, 2) := by decide +kernel
theorem d_Lw_law_565 : decode b_Lw_law 565 = .ok (.i2l, 1) := by decide +kernel
theorem d_Lw_law_566 : decode b_Lw_law 566 = .ok (.lcmp, 1) := by decide +kernel
theorem d_Lw_law_567 : decode b_Lw_law 567 = .ok (.ifCond .eq 5, 3) := by decide +kernel
theorem d_Lw_law_570 : decode b_Lw_law 570 = .ok (.iconst 0, 1) := by decide +kernel
theorem d_Lw_law_571 : decode b_Lw_law 571 = .ok (.ireturn, 1) := by decide +kernel
theorem d_Lw_law_572 : decode b_Lw_law 572 = .ok (.goto 209, 3) := by decide +kernel
theorem d_Lw_law_575 : decode b_Lw_law 575 = .ok (.aload_n 1, 1) := by decide +kernel
theorem d_Lw_law_576 : decode b_Lw_law 576 = .ok (.invokevirtual 110, 3) := by decide +kernel
theorem d_Lw_law_579 : decode b_Lw_law 579 = .ok (.aload_n 2, 1) := by decide +kernel
theorem d_Lw_law_580 : decode b_Lw_law 580 = .ok (.invokevirtual 113, 3) := by decide +kernel
theorem d_Lw_law_583 : decode b_Lw_law 583 = .ok (.if_icmp .eq 198, 3) := by decide +kernel
theorem d_Lw_law_586 : decode b_Lw_law 586 = .ok (.iconst 0, 1) := by decide +kernel
theorem d_Lw_law_587 : decode b_Lw_law 587 = .ok (.ireturn, 1) := by decide +kernel
theorem d_Lw_law_588 : decode b_Lw_law 588 = .ok (.aload_n 1, 1) := by decide +kernel
theorem d_Lw_law_589 : decode b_Lw_law 589 = .ok (.aload_n 0, 1) := by decide +kernel
theorem d_Lw_law_590 : decode b_Lw_law 590 = .ok (.iload 4, 2) := by decide +kernel
theorem d_Lw_law_592 : decode b_Lw_law 592 = .ok (.iconst 1, 1) := by decide +kernel
theorem d_Lw_law_593 : decode b_Lw_law 593 = .ok (.iadd, 1) := by decide +kernel
theorem d_Lw_law_594 : decode b_Lw_law 594 = .ok (.iaload, 1) := by decide +kernel
theorem d_Lw_law_595 : decode b_Lw_law 595 = .ok (.aload_n 0, 1) := by decide +kernel
theorem d_Lw_law_596 : decode b_Lw_law 596 = .ok (.iload 4, 2) := by decide +kernel
theorem d_Lw_law_598 : decode b_Lw_law 598 = .ok (.iconst 2, 1) := by decide +kernel
theorem d_Lw_law_599 : decode b_Lw_law 599 = .ok (.iadd, 1) := by decide +kernel
theorem d_Lw_law_600 : decode b_Lw_law 600 = .ok (.iaload, 1) := by decide +kernel
theorem d_Lw_law_601 : decode b_Lw_law 601 = .ok (.aload_n 3, 1) := by decide +kernel
theorem d_Lw_law_602 : decode b_Lw_law 602 = .ok (.invokestatic 114, 3) := by decide +kernel
theorem d_Lw_law_605 : decode b_Lw_law 605 = .ok (.istore 5, 2) := by decide +kernel
theorem d_Lw_law_607 : decode b_Lw_law 607 = .ok (.aload_n 2, 1) := by decide +kernel
theorem d_Lw_law_608 : decode b_Lw_law 608 = .ok (.aload_n 0, 1) := by decide +kernel
theorem d_Lw_law_609 : decode b_Lw_law 609 = .ok (.iload 4, 2) := by decide +kernel
theorem d_Lw_law_611 : decode b_Lw_law 611 = .ok (.iconst 1, 1) := by decide +kernel
theorem d_Lw_law_612 : decode b_Lw_law 612 = .ok (.iadd, 1) := by decide +kernel
theorem d_Lw_law_613 : decode b_Lw_law 613 = .ok (.iaload, 1) := by decide +kernel
theorem d_Lw_law_614 : decode b_Lw_law 614 = .ok (.aload_n 0, 1) := by decide +kernel
theorem d_Lw_law_615 : decode b_Lw_law 615 = .ok (.iload 4, 2) := by decide +kernel
theorem d_Lw_law_617 : decode b_Lw_law 617 = .ok (.iconst 2, 1) := by decide +kernel
theorem d_Lw_law_618 : decode b_Lw_law 618 = .ok (.iadd, 1) := by decide +kernel
theorem d_Lw_law_619 : decode b_Lw_law 619 = .ok (.iaload, 1) := by decide +kernel
theorem d_Lw_law_620 : decode b_Lw_law 620 = .ok (.invokevirtual 116, 3) := by decide +kernel
theorem d_Lw_law_623 : decode b_Lw_law 623 = .ok (.istore 6, 2) := by decide +kernel
theorem d_Lw_law_625 : decode b_Lw_law 625 = .ok (.aload_n 2, 1) := by decide +kernel
theorem d_Lw_law_626 : decode b_Lw_law 626 = .ok (.invokevirtual 73, 3) := by decide +kernel
theorem d_Lw_law_629 : decode b_Lw_law 629 = .ok (.iload 5, 2) := by decide +kernel
theorem d_Lw_law_631 : decode b_Lw_law 631 = .ok (.if_icmp .eq 5, 3) := by decide +kernel
theorem d_Lw_law_634 : decode b_Lw_law 634 = .ok (.iconst 0, 1) := by decide +kernel
theorem d_Lw_law_635 : decode b_Lw_law 635 = .ok (.ireturn, 1) := by decide +kernel
theorem d_Lw_law_636 : decode b_Lw_law 636 = .ok (.iload 5, 2) := by decide +kernel
theorem d_Lw_law_638 : decode b_Lw_law 638 = .ok (.ifCond .ne 15, 3) := by decide +kernel
theorem d_Lw_law_641 : decode b_Lw_law 641 = .ok (.aload_n 3, 1) := by decide +kernel
theorem d_Lw_law_642 : decode b_Lw_law 642 = .ok (.iconst 0, 1) := by decide +kernel
theorem d_Lw_law_643 : decode b_Lw_law 643 = .ok (.laload, 1) := by decide +kernel
theorem d_Lw_law_644 : decode b_Lw_law 644 = .ok (.iload 6, 2) := by decide +kernel
theorem d_Lw_law_646 : decode b_Lw_law 646 = .ok (.i2l, 1) := by decide +kernel
theorem d_Lw_law_647 : decode b_Lw_law 647 = .ok (.lcmp, 1) := by decide +kernel
theorem d_Lw_law_648 : decode b_Lw_law 648 = .ok (.ifCond .eq 5, 3) := by decide +kernel
theorem d_Lw_law_651 : decode b_Lw_law 651 = .ok (.iconst 0, 1) := by decide +kernel
theorem d_Lw_law_652 : decode b_Lw_law 652 = .ok (.ireturn, 1) := by decide +kernel
theorem d_Lw_law_653 : decode b_Lw_law 653 = .ok (.goto 128, 3) := by decide +kernel
theorem d_Lw_law_656 : decode b_Lw_law 656 = .ok (.aload_n 1, 1) := by decide +kernel
theorem d_Lw_law_657 : decode b_Lw_law 657 = .ok (.invokevirtual 117, 3) := by decide +kernel
theorem d_Lw_law_660 : decode b_Lw_law 660 = .ok (.aload_n 2, 1) := by decide +kernel
theorem d_Lw_law_661 : decode b_Lw_law 661 = .ok (.invokevirtual 120, 3) := by decide +kernel
theorem d_Lw_law_664 : decode b_Lw_law 664 = .ok (.if_icmp .eq 117, 3) := by decide +kernel
theorem d_Lw_law_667 : decode b_Lw_law 667 = .ok (.iconst 0, 1) := by decide +kernel
theorem d_Lw_law_668 : decode b_Lw_law 668 = .ok (.ireturn, 1) := by decide +kernel
theorem d_Lw_law_669 : decode b_Lw_law 669 = .ok (.aload_n 1, 1) := by decide +kernel
theorem d_Lw_law_670 : decode b_Lw_law 670 = .ok (.aload_n 0, 1) := by decide +kernel
theorem d_Lw_law_671 : decode b_Lw_law 671 = .ok (.iload 4, 2) := by decide +kernel
theorem d_Lw_law_673 : decode b_Lw_law 673 = .ok (.iconst 1, 1) := by decide +kernel
theorem d_Lw_law_674 : decode b_Lw_law 674 = .ok (.iadd, 1) := by decide +kernel
theorem d_Lw_law_675 : decode b_Lw_law 675 = .ok (.iaload, 1) := by decide +kernel
theorem d_Lw_law_676 : decode b_Lw_law 676 = .ok (.aload_n 3, 1) := by decide +kernel
theorem d_Lw_law_677 : decode b_Lw_law 677 = .ok (.invokestatic 121, 3) := by decide +kernel
theorem d_Lw_law_680 : decode b_Lw_law 680 = .ok (.istore 5, 2) := by decide +kernel
theorem d_Lw_law_682 : decode b_Lw_law 682 = .ok (.aload_n 2, 1) := by decide +kernel
theorem d_Lw_law_683 : decode b_Lw_law 683 = .ok (.aload_n 0, 1) := by decide +kernel
theorem d_Lw_law_684 : decode b_Lw_law 684 = .ok (.iload 4, 2) := by decide +kernel
theorem d_Lw_law_686 : decode b_Lw_law 686 = .ok (.iconst 1, 1) := by decide +kernel
theorem d_Lw_law_687 : decode b_Lw_law 687 = .ok (.iadd, 1) := by decide +kernel
theorem d_Lw_law_688 : decode b_Lw_law 688 = .ok (.iaload, 1) := by decide +kernel
theorem d_Lw_law_689 : decode b_Lw_law 689 = .ok (.invokevirtual 123, 3) := by decide +kernel
theorem d_Lw_law_692 : decode b_Lw_law 692 = .ok (.istore 6, 2) := by decide +kernel
theorem d_Lw_law_694 : decode b_Lw_law 694 = .ok (.aload_n 2, 1) := by decide +kernel
theorem d_Lw_law_695 : decode b_Lw_law 695 = .ok (.invokevirtual 73, 3) := by decide +kernel
theorem d_Lw_law_698 : decode b_Lw_law 698 = .ok (.iload 5, 2) := by decide +kernel
theorem d_Lw_law_700 : decode b_Lw_law 700 = .ok (.if_icmp .eq 5, 3) := by decide +kernel
theorem d_Lw_law_703 : decode b_Lw_law 703 = .ok (.iconst 0, 1) := by decide +kernel
theorem d_Lw_law_704 : decode b_Lw_law 704 = .ok (.ireturn, 1) := by decide +kernel
theorem d_Lw_law_705 : decode b_Lw_law 705 = .ok (.iload 5, 2) := by decide +kernel
theorem d_Lw_law_707 : decode b_Lw_law 707 = .ok (.ifCond .ne 15, 3) := by decide +kernel
theorem d_Lw_law_710 : decode b_Lw_law 710 = .ok (.aload_n 3, 1) := by decide +kernel
theorem d_Lw_law_711 : decode b_Lw_law 711 = .ok (.iconst 0, 1) := by decide +kernel
theorem d_Lw_law_712 : decode b_Lw_law 712 = .ok (.laload, 1) := by decide +kernel
theorem d_Lw_law_713 : decode b_Lw_law 713 = .ok (.iload 6, 2) := by decide +kernel
theorem d_Lw_law_715 : decode b_Lw_law 715 = .ok (.i2l, 1) := by decide +kernel
theorem d_Lw_law_716 : decode b_Lw_law 716 = .ok (.lcmp, 1) := by decide +kernel
theorem d_Lw_law_717 : decode b_Lw_law 717 = .ok (.ifCond .eq 5, 3) := by decide +kernel
theorem d_Lw_law_720 : decode b_Lw_law 720 = .ok (.iconst 0, 1) := by decide +kernel
theorem d_Lw_law_721 : decode b_Lw_law 721 = .ok (.ireturn, 1) := by decide +kernel
theorem d_Lw_law_722 : decode b_Lw_law 722 = .ok (.goto 59, 3) := by decide +kernel
theorem d_Lw_law_725 : decode b_Lw_law 725 = .ok (.aload_n 1, 1) := by decide +kernel
theorem d_Lw_law_726 : decode b_Lw_law 726 = .ok (.aload_n 0, 1) := by decide +kernel
theorem d_Lw_law_727 : decode b_Lw_law 727 = .ok (.iload 4, 2) := by decide +kernel
theorem d_Lw_law_729 : decode b_Lw_law 729 = .ok (.iconst 1, 1) := by decide +kernel
theorem d_Lw_law_730 : decode b_Lw_law 730 = .ok (.iadd, 1) := by decide +kernel
theorem d_Lw_law_731 : decode b_Lw_law 731 = .ok (.iaload, 1) := by decide +kernel
theorem d_Lw_law_732 : decode b_Lw_law 732 = .ok (.aload_n 3, 1) := by decide +kernel
theorem d_Lw_law_733 : decode b_Lw_law 733 = .ok (.invokestatic 124, 3) := by decide +kernel
theorem d_Lw_law_736 : decode b_Lw_law 736 = .ok (.istore 5, 2) := by decide +kernel
theorem d_Lw_law_738 : decode b_Lw_law 738 = .ok (.aload_n 2, 1) := by decide +kernel
theorem d_Lw_law_739 : decode b_Lw_law 739 = .ok (.aload_n 0, 1) := by decide +kernel
theorem d_Lw_law_740 : decode b_Lw_law 740 = .ok (.iload 4, 2) := by decide +kernel
theorem d_Lw_law_742 : decode b_Lw_law 742 = .ok (.iconst 1, 1) := by decide +kernel
theorem d_Lw_law_743 : decode b_Lw_law 743 = .ok (.iadd, 1) := by decide +kernel
theorem d_Lw_law_744 : decode b_Lw_law 744 = .ok (.iaload, 1) := by decide +kernel
theorem d_Lw_law_745 : decode b_Lw_law 745 = .ok (.invokevirtual 126, 3) := by decide +kernel
theorem d_Lw_law_748 : decode b_Lw_law 748 = .ok (.istore 6, 2) := by decide +kernel
theorem d_Lw_law_750 : decode b_Lw_law 750 = .ok (.aload_n 2, 1) := by decide +kernel
theorem d_Lw_law_751 : decode b_Lw_law 751 = .ok (.invokevirtual 73, 3) := by decide +kernel
theorem d_Lw_law_754 : decode b_Lw_law 754 = .ok (.iload 5, 2) := by decide +kernel
theorem d_Lw_law_756 : decode b_Lw_law 756 = .ok (.if_icmp .eq 5, 3) := by decide +kernel
theorem d_Lw_law_759 : decode b_Lw_law 759 = .ok (.iconst 0, 1) := by decide +kernel
theorem d_Lw_law_760 : decode b_Lw_law 760 = .ok (.ireturn, 1) := by decide +kernel
theorem d_Lw_law_761 : decode b_Lw_law 761 = .ok (.iload 5, 2) := by decide +kernel
theorem d_Lw_law_763 : decode b_Lw_law 763 = .ok (.ifCond .ne 15, 3) := by decide +kernel
theorem d_Lw_law_766 : decode b_Lw_law 766 = .ok (.aload_n 3, 1) := by decide +kernel
theorem d_Lw_law_767 : decode b_Lw_law 767 = .ok (.iconst 0, 1) := by decide +kernel
theorem d_Lw_law_768 : decode b_Lw_law 768 = .ok (.laload, 1) := by decide +kernel
theorem d_Lw_law_769 : decode b_Lw_law 769 = .ok (.iload 6, 2) := by decide +kernel
theorem d_Lw_law_771 : decode b_Lw_law 771 = .ok (.i2l, 1) := by decide +kernel
theorem d_Lw_law_772 : decode b_Lw_law 772 = .ok (.lcmp, 1) := by decide +kernel
theorem d_Lw_law_773 : decode b_Lw_law 773 = .ok (.ifCond .eq 5, 3) := by decide +kernel
theorem d_Lw_law_776 : decode b_Lw_law 776 = .ok (.iconst 0, 1) := by decide +kernel
theorem d_Lw_law_777 : decode b_Lw_law 777 = .ok (.ireturn, 1) := by decide +kernel
theorem d_Lw_law_778 : decode b_Lw_law 778 = .ok (.goto 3, 3) := by decide +kernel
theorem d_Lw_law_781 : decode b_Lw_law 781 = .ok (.iinc 4 4, 3) := by decide +kernel
theorem d_Lw_law_784 : decode b_Lw_law 784 = .ok (.goto (-751), 3) := by decide +kernel
theorem d_Lw_law_787 : decode b_Lw_law 787 = .ok (.iconst 1, 1) := by decide +kernel
theorem d_Lw_law_788 : decode b_Lw_law 788 = .ok (.ireturn, 1) := by decide +kernel
end
section
/-! pure rows: small numbers, states of three variables, bits of longs (own text) -/
theorem pu_inc (a : Nat) : nI a + Int32.ofInt 1 = nI (a + 1) := (nI_succ a).symm
theorem pu_dec (a : Nat) : nI (a + 1) + Int32.ofInt (-1) = nI a := pk_m1 a
/-- the digit v of the state s (w bits each), and the state with the digit v put to x -/
def dg (w s v : Nat) : Nat := s / 2 ^ (v * w) % 2 ^ w
def wr (w s v x : Nat) : Nat := s - dg w s v * 2 ^ (v * w) + x % 2 ^ w * 2 ^ (v * w)
def rdI (m sh st : Int32) : Int32 := (st >>> (sh &&& 31)) &&& m
def wrI (m sh st v : Int32) : Int32 := (st &&& ((m <<< (sh &&& 31)) ^^^ (-1))) ||| ((v &&& m) <<< (sh &&& 31))
set_option maxRecDepth 100000 in
theorem wrI_dec : ∀ w, w < 4 → ∀ v, v < 3 → ∀ x, x < 8 → ∀ s, s < 512 → wrI (nI (2 ^ w - 1)) (nI v * nI w) (nI s) (nI x) = nI (wr w s v x) := by decide +kernel
set_option maxRecDepth 100000 in
theorem rdI_dec : ∀ w, w < 4 → ∀ v, v < 3 → ∀ s, s < 512 → rdI (nI (2 ^ w - 1)) (nI v * nI w) (nI s) = nI (dg w s v) := by decide +kernel
set_option maxRecDepth 100000 in
theorem wr_lt : ∀ w, w < 4 → ∀ v, v < 3 → ∀ x, x < 8 → ∀ s, s < 2 ^ (3 * w) → wr w s v x < 2 ^ (3 * w) := by decide +kernel
set_option maxRecDepth 100000 in
theorem wr_wr : ∀ w, w < 4 → ∀ v, v < 3 → ∀ x, x < 8 → ∀ s, s < 2 ^ (3 * w) → wr w (wr w s v 0) v x = wr w s v x := by decide +kernel
theorem pu_mask : ∀ w, w < 4 → (nI (2 ^ w - 1)).toBitVec.toNat = 2 ^ w - 1 := by decide +kernel
theorem wr_mod (w s v x : Nat) : wr w s v (x % 2 ^ w) = wr w s v x := by unfold wr; rw [Nat.mod_mod]
theorem pu_p8 : ∀ w, w < 4 → 2 ^ w ≤ 8 := by decide
theorem wrI_eq {w v s : Nat} (hw : w < 4) (hv : v < 3) (hs : s < 512) (z : Int32) : wrI (nI (2 ^ w - 1)) (nI v * nI w) (nI s) z = nI (wr w s v z.toBitVec.toNat) := by
  have h1 : z &&& nI (2 ^ w - 1) = nI (z.toBitVec.toNat % 2 ^ w) := pk_and z w (pu_mask w hw)
  have hx : z.toBitVec.toNat % 2 ^ w < 2 ^ w := Nat.mod_lt _ (Nat.two_pow_pos w)
  have h8 : z.toBitVec.toNat % 2 ^ w < 8 := Nat.lt_of_lt_of_le hx (pu_p8 w hw)
  have h2 : nI (z.toBitVec.toNat % 2 ^ w) &&& nI (2 ^ w - 1) = nI (z.toBitVec.toNat % 2 ^ w) := by
    rw [pk_andN (Nat.lt_trans h8 (by decide)) w (pu_mask w hw), Nat.mod_mod]
  have h3 := wrI_dec w hw v hv _ h8 s hs
  rw [wr_mod] at h3
  rw [← h3]
  unfold wrI
  rw [h1, h2]
theorem wrI_nat {w v s x : Nat} (hw : w < 4) (hv : v < 3) (hs : s < 512) (hx : x < 2 ^ 32) : wrI (nI (2 ^ w - 1)) (nI v * nI w) (nI s) (nI x) = nI (wr w s v x) := by
  rw [wrI_eq hw hv hs, pk_tn hx]
theorem pu_N : ∀ w, w < 4 → 2 ^ (3 * w) ≤ 512 := by decide
theorem wr_lt' {w v s x : Nat} (hw : w < 4) (hv : v < 3) (hs : s < 2 ^ (3 * w)) : wr w s v x < 2 ^ (3 * w) := by
  rw [← wr_mod]
  exact wr_lt w hw v hv _ (Nat.lt_of_lt_of_le (Nat.mod_lt _ (Nat.two_pow_pos w)) (pu_p8 w hw)) s hs
theorem wr_wr' {w v s x : Nat} (hw : w < 4) (hv : v < 3) (hs : s < 2 ^ (3 * w)) : wr w (wr w s v 0) v x = wr w s v x := by
  rw [← wr_mod w (wr w s v 0), ← wr_mod w s v x]
  exact wr_wr w hw v hv _ (Nat.lt_of_lt_of_le (Nat.mod_lt _ (Nat.two_pow_pos w)) (pu_p8 w hw)) s hs
/-! bits of a long -/
def tb (x : Int64) (i : Nat) : Bool := x.toBitVec.getLsbD i
theorem tb_ext {x y : Int64} (h : ∀ i, i < 64 → tb x i = tb y i) : x = y := Int64.toBitVec_inj.mp (BitVec.eq_of_getLsbD_eq h)
theorem tb_or (x y : Int64) (i : Nat) : tb (x ||| y) i = (tb x i || tb y i) := by
  unfold tb; rw [Int64.toBitVec_or, BitVec.getLsbD_or]
theorem tb_and (x y : Int64) (i : Nat) : tb (x &&& y) i = (tb x i && tb y i) := by
  unfold tb; rw [Int64.toBitVec_and, BitVec.getLsbD_and]
theorem tb_xor (x y : Int64) (i : Nat) : tb (x ^^^ y) i = (tb x i ^^ tb y i) := by
  unfold tb; rw [Int64.toBitVec_xor, BitVec.getLsbD_xor]
theorem tb_big {x : Int64} {i : Nat} (h : 64 ≤ i) : tb x i = false := BitVec.getLsbD_of_ge _ _ h
theorem tb_0 (i : Nat) : tb 0 i = false := by
  unfold tb
  show (0#64).getLsbD i = false
  simp
theorem tb_m1 : ∀ i, i < 64 → tb (-1) i = true := by decide +kernel
set_option maxRecDepth 100000 in
theorem tb_one_dec : ∀ i, i < 64 → ∀ j, j < 64 → tb ((1 : Int64) <<< ((nI i).toInt64 &&& 63)) j = decide (j = i) := by decide +kernel
theorem tb_one {i : Nat} (hi : i < 64) (j : Nat) : tb ((1 : Int64) <<< ((nI i).toInt64 &&& 63)) j = decide (j = i) := by
  by_cases hj : j < 64
  · exact tb_one_dec i hi j hj
  · rw [tb_big (by omega)]
    have : ¬ j = i := by omega
    simp [this]
theorem tb_not (x : Int64) {i : Nat} (hi : i < 64) : tb (x ^^^ (-1)) i = !(tb x i) := by
  rw [tb_xor, tb_m1 i hi]
  cases tb x i <;> rfl
theorem pu_cu : ∀ k, k < 64 → ((nI k).toInt64.toUInt64 &&& Int64.toUInt64 63).toNat = k := by decide +kernel
theorem pu_cs : ∀ k, k < 64 → ((nI k).toInt64 &&& 63).toBitVec.smod 64 = BitVec.ofNat 64 k := by decide +kernel
theorem tb_ushr (x : Int64) {i : Nat} (hi : i < 64) (j : Nat) : tb ((x.toUInt64 >>> ((nI i).toInt64.toUInt64 &&& Int64.toUInt64 63)).toInt64) j = tb x (i + j) := by
  have e : (x.toUInt64 >>> ((nI i).toInt64.toUInt64 &&& Int64.toUInt64 63)).toInt64.toBitVec = x.toBitVec >>> i := by
    apply BitVec.eq_of_toNat_eq
    show (x.toUInt64 >>> ((nI i).toInt64.toUInt64 &&& Int64.toUInt64 63)).toNat = _
    rw [UInt64.toNat_shiftRight, pu_cu i hi, Nat.mod_eq_of_lt hi, BitVec.toNat_ushiftRight]
    rfl
  unfold tb
  rw [e, BitVec.getLsbD_ushiftRight]
theorem tb_1 (j : Nat) : tb 1 j = decide (j = 0) := by
  by_cases hj : j < 64
  · have : ∀ j, j < 64 → tb 1 j = decide (j = 0) := by decide +kernel
    exact this j hj
  · rw [tb_big (by omega)]
    have : ¬ j = 0 := by omega
    simp [this]
theorem tb_and1 (x : Int64) : x &&& 1 = if tb x 0 then 1 else 0 := by
  apply tb_ext
  intro i hi
  rw [tb_and, tb_1]
  by_cases h : i = 0
  · subst h
    cases h2 : tb x 0 <;> simp [tb_1, tb_0]
  · cases h2 : tb x 0 <;> simp [tb_1, tb_0, h]
theorem tb_get (x : Int64) {i : Nat} (hi : i < 64) : (x.toUInt64 >>> ((nI i).toInt64.toUInt64 &&& Int64.toUInt64 63)).toInt64 &&& 1 = if tb x i then 1 else 0 := by
  rw [tb_and1, tb_ushr x hi, Nat.add_zero]
/-! bits of an int -/
def ib (x : Int32) (i : Nat) : Bool := x.toBitVec.getLsbD i
theorem ib_and1 (x : Int32) : x &&& 1 = if ib x 0 then 1 else 0 := by
  apply Int32.toBitVec_inj.mp
  apply BitVec.eq_of_getLsbD_eq
  intro i hi
  have h1 : ∀ j, j < 32 → (1 : Int32).toBitVec.getLsbD j = decide (j = 0) := by decide +kernel
  have h0 : ∀ j, j < 32 → (0 : Int32).toBitVec.getLsbD j = false := by decide +kernel
  rw [Int32.toBitVec_and, BitVec.getLsbD_and, h1 i hi]
  unfold ib
  by_cases h : i = 0
  · subst h
    cases h2 : x.toBitVec.getLsbD 0 <;> simp [h1 0 (by decide), h0 0 (by decide)]
  · cases h2 : x.toBitVec.getLsbD 0 <;> simp [h1 i hi, h0 i hi, h]
theorem tb_l2i (x : Int64) {j : Nat} (hj : j < 32) : ib x.toInt32 j = tb x j := by
  unfold ib tb
  show (x.toBitVec.signExtend 32).getLsbD j = x.toBitVec.getLsbD j
  rw [BitVec.getLsbD_signExtend]
  simp [hj]
  omega
theorem tb_sshr (x : Int64) {i j : Nat} (hi : i < 64) (hj : i + j < 64) : tb (x >>> ((nI i).toInt64 &&& 63)) j = tb x (i + j) := by
  unfold tb
  show (x.toBitVec.sshiftRight' (((nI i).toInt64 &&& 63).toBitVec.smod 64)).getLsbD j = _
  rw [pu_cs i hi, BitVec.sshiftRight', BitVec.toNat_ofNat, Nat.mod_eq_of_lt (by omega), BitVec.getLsbD_sshiftRight]
  simp [hj]
  omega
theorem tb_geti (x : Int64) {i : Nat} (hi : i < 64) : (x >>> ((nI i).toInt64 &&& 63)).toInt32 &&& 1 = if tb x i then 1 else 0 := by
  rw [ib_and1, tb_l2i _ (by decide), tb_sshr x hi (by omega), Nat.add_zero]
end
section
/-! the line, its terms and atoms: a pure reading of it (own text). A place and the code so far; the code has its signs behind their sides. -/
def lnAt (n : Nat) (f : Nat → Int32) (i : Nat) : Int32 := if i < n then f i else 0
def isVar (c : Int32) : Bool := decide (nI 120 ≤ c) && decide (c ≤ nI 122)
def isDig (c : Int32) : Bool := decide (nI 48 ≤ c) && decide (c ≤ nI 55)
def isOp (c : Int32) : Bool := decide (c = nI 43) || decide (c = nI 45) || decide (c = nI 42) || decide (c = nI 38) || decide (c = nI 94)
def isCmp (c : Int32) : Bool := decide (c = nI 60) || decide (c = nI 61) || decide (c = nI 35)
def isLoc (c : Int32) : Bool := decide (nI 65 ≤ c) && decide (c < nI 77)
abbrev pS : Type := Nat × List Int32
def addC (c : Int32) (l : List Int32) : List Int32 := if l.length < 24 then l ++ [c] else l
def ptLoop (n : Nat) (f : Nat → Int32) (part : pS → Bool × pS) : Nat → pS → Bool × pS
  | 0, s => (true, s)
  | k + 1, s => if isOp (lnAt n f s.1) = true then
      (if (part (s.1 + 1, s.2)).1 = true then ptLoop n f part k ((part (s.1 + 1, s.2)).2.1, addC (lnAt n f s.1) (part (s.1 + 1, s.2)).2.2) else (false, (part (s.1 + 1, s.2)).2))
    else (true, s)
def ptTerm (n : Nat) (f : Nat → Int32) (part : pS → Bool × pS) (s : pS) : Bool × pS :=
  if (part s).1 = true then ptLoop n f part 24 (part s).2 else (false, (part s).2)
def ptLeaf (n : Nat) (f : Nat → Int32) (s : pS) : Bool := isVar (lnAt n f s.1) || isDig (lnAt n f s.1)
def ptPart (n : Nat) (f : Nat → Int32) : Nat → pS → Bool × pS
  | 0, s => if ptLeaf n f s = true then (true, (s.1 + 1, addC (lnAt n f s.1) s.2)) else (false, s)
  | d + 1, s => if ptLeaf n f s = true then (true, (s.1 + 1, addC (lnAt n f s.1) s.2)) else
      if lnAt n f s.1 = nI 40 then
        (if (ptTerm n f (ptPart n f d) (s.1 + 1, s.2)).1 = true ∧ lnAt n f (ptTerm n f (ptPart n f d) (s.1 + 1, s.2)).2.1 = nI 41
          then (true, ((ptTerm n f (ptPart n f d) (s.1 + 1, s.2)).2.1 + 1, (ptTerm n f (ptPart n f d) (s.1 + 1, s.2)).2.2))
          else (false, (ptTerm n f (ptPart n f d) (s.1 + 1, s.2)).2))
      else (false, s)
/-- what an atom is: a term, a comparison, a term, the end -/
def ptAtom (n : Nat) (f : Nat → Int32) (b : Nat) : Bool × List Int32 :=
  if (ptTerm n f (ptPart n f 4) (b, [])).1 = true ∧ isCmp (lnAt n f (ptTerm n f (ptPart n f 4) (b, [])).2.1) = true then
    (if (ptTerm n f (ptPart n f 4) ((ptTerm n f (ptPart n f 4) (b, [])).2.1 + 1, (ptTerm n f (ptPart n f 4) (b, [])).2.2)).1 = true
      then (decide (lnAt n f (ptTerm n f (ptPart n f 4) ((ptTerm n f (ptPart n f 4) (b, [])).2.1 + 1, (ptTerm n f (ptPart n f 4) (b, [])).2.2)).2.1 = 0), addC (lnAt n f (ptTerm n f (ptPart n f 4) (b, [])).2.1) (ptTerm n f (ptPart n f 4) ((ptTerm n f (ptPart n f 4) (b, [])).2.1 + 1, (ptTerm n f (ptPart n f 4) (b, [])).2.2)).2.2)
      else (false, []))
  else (false, [])
/-- the values: a sign between two numbers; a step of the code over the numbers so far, the latest first -/
def opV (w : Nat) (c : Int32) (x y : Nat) : Nat :=
  if c = nI 43 then (x + y) % 2 ^ w else if c = nI 45 then (x + 2 ^ w - y) % 2 ^ w else if c = nI 42 then (x * y) % 2 ^ w else if c = nI 38 then x &&& y else if c = nI 94 then x ^^^ y
  else if c = nI 60 then (if x < y then 1 else 0) else if c = nI 61 then (if x = y then 1 else 0) else (if x = y then 0 else 1)
def leafV (w s : Nat) (c : Int32) : Nat := if isVar c = true then dg w s (c - nI 120).toBitVec.toNat else (c - nI 48).toBitVec.toNat % 2 ^ w
def evO (w : Nat) (c : Int32) : List Nat → List Nat
  | y :: x :: r => opV w c x y :: r
  | r => r
def evS (w s : Nat) (c : Int32) (st : List Nat) : List Nat := if isVar c = true ∨ isDig c = true then leafV w s c :: st else evO w c st
def evC (w s : Nat) (code : List Int32) (st : List Nat) : List Nat := code.foldl (fun st c => evS w s c st) st
end
section
/-! counting (own text): how many of the first n are so; the k-th of them -/
def cnt (P : Nat → Bool) : Nat → Nat
  | 0 => 0
  | n + 1 => cnt P n + cond (P n) 1 0
theorem cnt_le (P : Nat → Bool) : ∀ n, cnt P n ≤ n
  | 0 => Nat.le_refl _
  | n + 1 => by
    have := cnt_le P n
    unfold cnt
    cases P n <;> simp <;> omega
theorem cnt_mono (P : Nat → Bool) {a b : Nat} (h : a ≤ b) : cnt P a ≤ cnt P b := by
  induction b with
  | zero => rw [Nat.le_zero.mp h]; exact Nat.le_refl _
  | succ b ih =>
    by_cases e : a = b + 1
    · rw [e]; exact Nat.le_refl _
    · have := ih (by omega)
      have e2 : cnt P (b + 1) = cnt P b + cond (P b) 1 0 := rfl
      omega
theorem cnt_lt {P : Nat → Bool} {a b : Nat} (h : a < b) (hp : P a = true) : cnt P a < cnt P b := by
  have h1 : cnt P (a + 1) ≤ cnt P b := cnt_mono P h
  have h2 : cnt P (a + 1) = cnt P a + 1 := by
    show cnt P a + cond (P a) 1 0 = _
    rw [hp]
    rfl
  omega
/-- the k-th of them is there -/
theorem cnt_at {P : Nat → Bool} : ∀ {n k : Nat}, k < cnt P n → ∃ s, s < n ∧ P s = true ∧ cnt P s = k
  | 0, k, h => by simp [cnt] at h
  | n + 1, k, h => by
    by_cases h1 : k < cnt P n
    · obtain ⟨s, a, b, c⟩ := cnt_at h1
      exact ⟨s, by omega, b, c⟩
    · unfold cnt at h
      cases hp : P n with
      | false => rw [hp] at h; simp at h; omega
      | true => rw [hp] at h; simp at h; exact ⟨n, by omega, hp, by omega⟩
/-- a sum over the first n -/
def sm (f : Nat → Nat) : Nat → Nat
  | 0 => 0
  | n + 1 => sm f n + f n
theorem sm_mono (f : Nat → Nat) {a b : Nat} (h : a ≤ b) : sm f a ≤ sm f b := by
  induction b with
  | zero => rw [Nat.le_zero.mp h]; exact Nat.le_refl _
  | succ b ih =>
    by_cases e : a = b + 1
    · rw [e]; exact Nat.le_refl _
    · have := ih (by omega)
      have e2 : sm f (b + 1) = sm f b + f b := rfl
      omega
theorem sm_ext {f g : Nat → Nat} : ∀ {n : Nat}, (∀ i, i < n → f i = g i) → sm f n = sm g n
  | 0, _ => rfl
  | n + 1, h => by
    unfold sm
    rw [sm_ext (fun i hi => h i (by omega)), h n (by omega)]
/-- the states by their numbers below G: their counts make up all -/
theorem sm_cnt (r : Nat → Nat) (G : Nat) : ∀ n, (∀ s, s < n → r s < G) → sm (fun g => cnt (fun s => r s == g) n) G = n
  | 0, _ => by
    have : ∀ G, sm (fun g => cnt (fun s => r s == g) 0) G = 0 := by
      intro G
      induction G with
      | zero => rfl
      | succ G ih => unfold sm; rw [ih]; rfl
    exact this G
  | n + 1, h => by
    have ih := sm_cnt r G n (fun s hs => h s (by omega))
    have key : ∀ G', sm (fun g => cnt (fun s => r s == g) (n + 1)) G' = sm (fun g => cnt (fun s => r s == g) n) G' + (if r n < G' then 1 else 0) := by
      intro G'
      induction G' with
      | zero => rfl
      | succ G' ih2 =>
        have a1 : sm (fun g => cnt (fun s => r s == g) (n + 1)) (G' + 1) = sm (fun g => cnt (fun s => r s == g) (n + 1)) G' + (cnt (fun s => r s == G') n + cond (r n == G') 1 0) := rfl
        have a2 : sm (fun g => cnt (fun s => r s == g) n) (G' + 1) = sm (fun g => cnt (fun s => r s == g) n) G' + cnt (fun s => r s == G') n := rfl
        rw [a1, a2, ih2]
        by_cases e2 : r n = G'
        · have e3 : (r n == G') = true := by simpa using e2
          rw [e3, if_neg (by omega), if_pos (by omega)]
          simp only [cond_true]
          omega
        · have e3 : (r n == G') = false := by simpa using e2
          rw [e3]
          simp only [cond_false]
          by_cases e1 : r n < G'
          · rw [if_pos e1, if_pos (by omega)]
            omega
          · rw [if_neg e1, if_neg (by omega)]
            omega
    rw [key, ih, if_pos (h n (by omega))]
end
section
/-! the cells of the class (0 .. 35, rows from 100, 200, 400 on), of the reference (40 .. 59), the law's own long[] (60); N states (own text) -/
def rT (e : Nat) : Nat := 100 + e
def rO (k : Nat) : Nat := 200 + k
def rK (i : Nat) : Nat := 400 + i
def LX (N : Nat) (k : Nat) : gxE :=
  if k < 100 then (match k with
    | 0 => Sum.inl (0, [some 1, some 2, some 4, some 7, some 8, some 14, some 20, some 30, some 33, none])
    | 1 => Sum.inl (1, [none, none, none])
    | 2 => Sum.inl (2, [some 3, none])
    | 3 => Sum.inr (Sum.inl (2, 24))
    | 4 => Sum.inl (3, [some 1, some 5, some 6, none])
    | 5 => Sum.inr (Sum.inl (2, 24))
    | 6 => Sum.inr (Sum.inl (0, 24))
    | 7 => Sum.inl (4, [some 2, some 4, none])
    | 8 => Sum.inl (5, [some 1, some 9, some 10, some 11, some 12, some 13, none])
    | 9 => Sum.inr (Sum.inl (0, 20))
    | 10 => Sum.inr (Sum.inl (0, 20))
    | 11 => Sum.inr (Sum.inl (0, 20))
    | 12 => Sum.inr (Sum.inl (0, 20))
    | 13 => Sum.inr (Sum.inr (Sum.inr (5, 20, rT)))
    | 14 => Sum.inl (6, [some 1, none, some 15, none, some 16, some 17, some 18, some 19])
    | 15 => Sum.inr (Sum.inl (0, N))
    | 16 => Sum.inr (Sum.inl (0, N))
    | 17 => Sum.inr (Sum.inl (0, N))
    | 18 => Sum.inr (Sum.inl (0, N + 1))
    | 19 => Sum.inr (Sum.inl (0, 4096))
    | 20 => Sum.inl (7, [some 1, some 8, some 14, none, some 21, some 22, some 23, some 24, some 25, some 26, some 27, some 28, none, none, some 29])
    | 27 => Sum.inr (Sum.inl (3, 12 * N))
    | 28 => Sum.inr (Sum.inl (3, N))
    | 30 => Sum.inl (8, [some 1, some 8, some 20, some 31, some 32, none])
    | 31 => Sum.inr (Sum.inr (Sum.inr (6, 200, rO)))
    | 33 => Sum.inl (9, [some 1, some 8, some 14, some 20, some 34, some 35, none])
    | 34 => Sum.inr (Sum.inr (Sum.inr (6, 4, rK)))
    | 35 => Sum.inr (Sum.inr (Sum.inl N))
    | 40 => Sum.inl (10, [none, none, none, none, some 41, none, none, some 42, some 43, some 44, some 45, some 46, none, some 47, some 48, none, none, some 49, some 50, some 51, some 52, none, some 53, none, some 54, some 55, none, some 56, some 57, some 58, some 59])
    | 41 => Sum.inr (Sum.inl (0, 24))
    | 42 => Sum.inr (Sum.inl (0, 20))
    | 43 => Sum.inr (Sum.inl (0, 20))
    | 44 => Sum.inr (Sum.inl (0, 20))
    | 45 => Sum.inr (Sum.inl (0, 20))
    | 46 => Sum.inr (Sum.inr (Sum.inl 480))
    | 47 => Sum.inr (Sum.inr (Sum.inl 96))
    | 48 => Sum.inr (Sum.inl (0, 512))
    | 55 => Sum.inr (Sum.inl (0, 4096))
    | 56 => Sum.inr (Sum.inr (Sum.inl 1608))
    | 57 => Sum.inr (Sum.inl (4, 512))
    | 58 => Sum.inr (Sum.inl (0, 5))
    | 59 => Sum.inr (Sum.inl (0, 5))
    | 60 => Sum.inr (Sum.inr (Sum.inl 1))
    | _ => Sum.inr (Sum.inl (0, 200)))
  else if k < 200 then Sum.inr (Sum.inl (0, N)) else if k < 400 then Sum.inr (Sum.inr (Sum.inl ((N + 63) / 64))) else Sum.inr (Sum.inr (Sum.inl N))
/-- these cells are there, as the layout has them -/
def gH (ks : List Nat) (lay : Nat → gxE) (N : Nat) (S : Nat → Bool) : Prop := ∀ k, S k = true → k ∈ ks ∧ lay k = LX N k
def sX (k : Nat) : Bool := Nat.ble k 35 || (Nat.ble 100 k && Nat.ble k 119) || (Nat.ble 200 k && Nat.ble k 403)
def sG (k : Nat) : Bool := Nat.beq k 1 || (Nat.ble 14 k && Nat.ble k 19)
def sM (k : Nat) : Bool := Nat.ble 40 k && Nat.ble k 59
theorem sG_X : ∀ k, sG k = true → sX k = true := by
  intro k h
  simp [sG, sX] at h ⊢
  omega
theorem gH.mono {ks : List Nat} {lay : Nat → gxE} {N : Nat} {S S2 : Nat → Bool} (h : gH ks lay N S) (hs : ∀ k, S2 k = true → S k = true) : gH ks lay N S2 := fun k hk => h k (hs k hk)
theorem gcw {p : Program} {s : State} {m : MethodId} {args : Array Value} {meth : Method} {c : Code} {cc : ByteArray} {nL : Nat} {own : String} {c0 : Cond} {A : Nat → Prop} {D : va_G} {cl : List vw_C} {ca : Nat → ClassId} {ks : List Nat} {ad : Nat → Nat} (X : GC p s m args meth c cc nL own (c0 :: WT) A D cl ca ks ad) {w : Cond} (h : w ∈ WT) : w.before args s = true := X.1.2.2.2.2 w (List.mem_cons_of_mem _ h)
theorem gci {c0 : Cond} {C : String} {T : u_T} {N : Nat} (h : ∀ w ∈ u_ws C T N, w ∈ WT) : ∀ w ∈ u_ws C T N, w ∈ c0 :: WT := fun w hw => List.mem_cons_of_mem _ (h w hw)
theorem Con.ofK {l : Launch} {y : MethodName} {ws : List Cond} {rm : Room} {D : va_G} {cl : List vw_C} {ca : Nat → ClassId} {ks : List Nat} {lay : Nat → gxE} {ad : Nat → Nat} {av : List xV} {F : Nat → Nat → Int32} {L : Nat → Nat → Int64} {post0 : Option xV → (Nat → Nat → Int32) → (Nat → Nat → Int64) → Prop} (h : ∀ post : Option xV → (Nat → Nat → Int32) → (Nat → Nat → Int64) → Prop, (∀ r F' L', post0 r F' L' → post r F' L') → Con l y ws rm D cl ca ks lay ad av F L post) : Con l y ws rm D cl ca ks lay ad av F L post0 := h post0 (fun _ _ _ h => h)
theorem gx_el {p : Program} {l : Launch} {e : Env} {R : Room} {s : State} {m : MethodId} {args : Array Value} {below : List Frame} {meth : Method} {c : Code} {Q : State → Prop} {nL cells slots pc : Nat} {A : Nat → Prop} {D : va_G} {cl : List vw_C} {ca : Nat → ClassId} {ks : List Nat} {lay : Nat → gxE} {ad : Nat → Nat} {ls l' : List (Nat × xV)} {st : List xV} {F : Nat → Nat → Int32} {L : Nat → Nat → Int64} (k : GX p l e R s m args below meth c Q nL A D cl ca ks lay ad cells slots pc l' st F L) (h : gxle l' ls) : GX p l e R s m args below meth c Q nL A D cl ca ks lay ad cells slots pc ls st F L := gx_le h k
theorem hxT {ks : List Nat} {lay : Nat → gxE} {N : Nat} (HX : gH ks lay N sX) {e : Nat} (he : e < 20) : rT e ∈ ks ∧ lay (rT e) = Sum.inr (Sum.inl (0, N)) := by
  have h := HX (rT e) (by simp [sX, rT]; omega)
  refine ⟨h.1, h.2.trans ?_⟩
  unfold LX rT
  rw [if_neg (by omega), if_pos (by omega)]
theorem hxO {ks : List Nat} {lay : Nat → gxE} {N : Nat} (HX : gH ks lay N sX) {e : Nat} (he : e < 200) : rO e ∈ ks ∧ lay (rO e) = Sum.inr (Sum.inr (Sum.inl ((N + 63) / 64))) := by
  have h := HX (rO e) (by simp [sX, rO]; omega)
  refine ⟨h.1, h.2.trans ?_⟩
  unfold LX rO
  rw [if_neg (by omega), if_neg (by omega), if_pos (by omega)]
theorem hxK {ks : List Nat} {lay : Nat → gxE} {N : Nat} (HX : gH ks lay N sX) {e : Nat} (he : e < 4) : rK e ∈ ks ∧ lay (rK e) = Sum.inr (Sum.inr (Sum.inl N)) := by
  have h := HX (rK e) (by simp [sX, rK]; omega)
  refine ⟨h.1, h.2.trans ?_⟩
  unfold LX rK
  rw [if_neg (by omega), if_neg (by omega), if_neg (by omega)]
end
section
section
variable {l : Launch} {D : va_G} {ca : Nat → ClassId} {ks : List Nat} {lay : Nat → gxE} {ad : Nat → Nat} {F : Nat → Nat → Int32} {L : Nat → Nat → Int64} {w N : Nat}
/-- the numbers of the space: w bits a variable -/
def SpOK (F : Nat → Nat → Int32) (w : Nat) : Prop := (1 ≤ w ∧ w ≤ 3) ∧ F 1 0 = nI w ∧ F 1 1 = nI (2 ^ w - 1) ∧ F 1 2 = nI (2 ^ (3 * w))
/-- contains(x) -/
theorem c_Sp_contains (HX : gH ks lay N sG) (hS : SpOK F w) (x : Int32) : Con l y_Sp_contains (Cond.code y_Sp_contains b_Sp_contains 2 (some .boolean) :: WT) rm_Sp_contains D vcl ca ks lay ad [xR 1, xI x] F L (fun r F' L' => r = some (xI (if 0 ≤ x ∧ x < nI (2 ^ (3 * w)) then 1 else 0)) ∧ F' = F ∧ L' = L) := by
  refine Con.ofK (fun post K => ?_)
  refine Con.of (ls := [(0, xR 1), (1, xI x)]) (by decide) rfl rfl (Nat.le_of_ble_eq_true rfl) ?_
  intro p e s m args below meth c A X hr hA
  refine gx_iload_n X d_Sp_contains_0 rfl rfl ?_
  refine gx_if_lt X d_Sp_contains_1 (tgt := 16) (by decide) (fun h1 => ?_) (fun h1 => ?_)
  · refine gx_iconst X d_Sp_contains_16 (v := nI 0) (by decide) ?_
    exact gx_zret X hr (by first | rfl | decide) hA d_Sp_contains_17 (K _ _ _ ⟨by rw [if_neg (fun q => absurd q.1 (Int32.not_le.mpr h1))]; rfl, rfl, rfl⟩)
  · refine gx_iload_n X d_Sp_contains_4 rfl rfl ?_
    refine gx_aload_n X d_Sp_contains_5 rfl rfl ?_
    refine gx_geti X d_Sp_contains_6 (gci in_Sp) (HX _ rfl).1 (HX _ rfl).2 rfl 2 (by decide) (gcw X lk_Sp_18) (fun _ h => h) rfl ?_
    refine gx_icmp_ge X d_Sp_contains_9 (tgt := 16) (by decide) (fun h9 => ?_) (fun h9 => ?_)
    · refine gx_iconst X d_Sp_contains_16 (v := nI 0) (by decide) ?_
      exact gx_zret X hr (by first | rfl | decide) hA d_Sp_contains_17 (K _ _ _ ⟨by rw [hS.2.2.2] at h9; rw [if_neg (fun q => absurd h9 (Int32.not_le.mpr q.2))]; rfl, rfl, rfl⟩)
    · refine gx_iconst X d_Sp_contains_12 (v := nI 1) (by decide) ?_
      refine gx_goto X d_Sp_contains_13 (tgt := 17) (by decide) ?_
      exact gx_zret X hr (by first | rfl | decide) hA d_Sp_contains_17 (K _ _ _ ⟨by rw [hS.2.2.2] at h9; rw [if_pos ⟨Int32.not_lt.mp h1, Int32.not_le.mp h9⟩]; rfl, rfl, rfl⟩)
/-- read(s, v) of a state -/
theorem c_Sp_read (HX : gH ks lay N sG) (hS : SpOK F w) {st v : Nat} (hst : st < 512) (hv : v < 3) : Con l y_Sp_read (Cond.code y_Sp_read b_Sp_read 3 (some .int) :: WT) rm_Sp_read D vcl ca ks lay ad [xR 1, xI (nI st), xI (nI v)] F L (fun r F' L' => r = some (xI (nI (dg w st v))) ∧ F' = F ∧ L' = L) := by
  refine Con.ofK (fun post K => ?_)
  refine Con.of (ls := [(0, xR 1), (1, xI (nI st)), (2, xI (nI v))]) (by decide) rfl rfl (Nat.le_of_ble_eq_true rfl) ?_
  intro p e s m args below meth c A X hr hA
  refine gx_iload_n X d_Sp_read_0 rfl rfl ?_
  refine gx_iload_n X d_Sp_read_1 rfl rfl ?_
  refine gx_aload_n X d_Sp_read_2 rfl rfl ?_
  refine gx_geti X d_Sp_read_3 (gci in_Sp) (HX _ rfl).1 (HX _ rfl).2 rfl 0 (by decide) (gcw X lk_Sp_9) (fun _ h => h) rfl ?_
  refine gx_imul X d_Sp_read_6 ?_
  refine gx_ishr X d_Sp_read_7 ?_
  refine gx_aload_n X d_Sp_read_8 rfl rfl ?_
  refine gx_geti X d_Sp_read_9 (gci in_Sp) (HX _ rfl).1 (HX _ rfl).2 rfl 1 (by decide) (gcw X lk_Sp_15) (fun _ h => h) rfl ?_
  refine gx_iand X d_Sp_read_12 ?_
  refine gx_top (y := nI (dg w st v)) ?_ ?_
  · rw [hS.2.1, hS.2.2.1]
    exact rdI_dec w (by have := hS.1; omega) v hv st hst
  exact gx_iret X hr hA d_Sp_read_13 (K _ _ _ ⟨rfl, rfl, rfl⟩)
/-- write(s, v, x) of a state: the number x is cut to its lowest bits -/
theorem c_Sp_write (HX : gH ks lay N sG) (hS : SpOK F w) {st v : Nat} (hst : st < 512) (hv : v < 3) (x : Int32) : Con l y_Sp_write (Cond.code y_Sp_write b_Sp_write 5 (some .int) :: WT) rm_Sp_write D vcl ca ks lay ad [xR 1, xI (nI st), xI (nI v), xI x] F L (fun r F' L' => r = some (xI (nI (wr w st v x.toBitVec.toNat))) ∧ F' = F ∧ L' = L) := by
  refine Con.ofK (fun post K => ?_)
  refine Con.of (ls := [(0, xR 1), (1, xI (nI st)), (2, xI (nI v)), (3, xI x)]) (by decide) rfl rfl (Nat.le_of_ble_eq_true rfl) ?_
  intro p e s m args below meth c A X hr hA
  refine gx_iload_n X d_Sp_write_0 rfl rfl ?_
  refine gx_aload_n X d_Sp_write_1 rfl rfl ?_
  refine gx_geti X d_Sp_write_2 (gci in_Sp) (HX _ rfl).1 (HX _ rfl).2 rfl 0 (by decide) (gcw X lk_Sp_9) (fun _ h => h) rfl ?_
  refine gx_imul X d_Sp_write_5 ?_
  refine gx_istore X d_Sp_write_6 (by decide) ?_
  refine gx_iload_n X d_Sp_write_8 rfl rfl ?_
  refine gx_aload_n X d_Sp_write_9 rfl rfl ?_
  refine gx_geti X d_Sp_write_10 (gci in_Sp) (HX _ rfl).1 (HX _ rfl).2 rfl 1 (by decide) (gcw X lk_Sp_15) (fun _ h => h) rfl ?_
  refine gx_iload X d_Sp_write_13 rfl ?_
  refine gx_ishl X d_Sp_write_15 ?_
  refine gx_iconst X d_Sp_write_16 (v := (-1)) (by decide) ?_
  refine gx_ixor X d_Sp_write_17 ?_
  refine gx_iand X d_Sp_write_18 ?_
  refine gx_iload_n X d_Sp_write_19 rfl rfl ?_
  refine gx_aload_n X d_Sp_write_20 rfl rfl ?_
  refine gx_geti X d_Sp_write_21 (gci in_Sp) (HX _ rfl).1 (HX _ rfl).2 rfl 1 (by decide) (gcw X lk_Sp_15) (fun _ h => h) rfl ?_
  refine gx_iand X d_Sp_write_24 ?_
  refine gx_iload X d_Sp_write_25 rfl ?_
  refine gx_ishl X d_Sp_write_27 ?_
  refine gx_ior X d_Sp_write_28 ?_
  refine gx_top (y := nI (wr w st v x.toBitVec.toNat)) ?_ ?_
  · rw [hS.2.1, hS.2.2.1]
    exact wrI_eq (by have := hS.1; omega) hv hst x
  exact gx_iret X hr hA d_Sp_write_29 (K _ _ _ ⟨rfl, rfl, rfl⟩)
end
end
section
section
variable {l : Launch} {D : va_G} {ca : Nat → ClassId} {ks : List Nat} {lay : Nat → gxE} {ad : Nat → Nat} {F : Nat → Nat → Int32} {L : Nat → Nat → Int64} {N n : Nat}
theorem vn_char {q : Nat} (h : q < 65536) : vp_nar .char (nI q) = nI q := by
  unfold vp_nar
  rw [(pk_charN h).1]
/-- the line holds n characters, each from 32 to 126 -/
def LiOK (F : Nat → Nat → Int32) (n : Nat) : Prop := n ≤ 24 ∧ F 2 1 = nI n ∧ ∀ i, i < n → ∃ c, 32 ≤ c ∧ c ≤ 126 ∧ F 3 i = nI c
def tyOK (x : Int32) (n : Nat) : Prop := nI 32 ≤ x ∧ x ≤ nI 126 ∧ n < 24
theorem tyOK_nI {x : Int32} {n : Nat} (h : tyOK x n) : ∃ c, 32 ≤ c ∧ c ≤ 126 ∧ x = nI c := by
  obtain ⟨h1, h2, -⟩ := h
  have h0 : ¬ x < 0 := by
    rw [Int32.le_iff_toInt_le, show (nI 32).toInt = 32 from by decide] at h1
    rw [Int32.lt_iff_toInt_lt, show (0 : Int32).toInt = 0 from by decide]
    omega
  obtain ⟨j, hj, rfl⟩ := nI_of h0
  rw [nI_leI (by decide) hj] at h1
  rw [nI_leI hj (by decide)] at h2
  exact ⟨j, h1, h2, rfl⟩
theorem c_Li_append (HX : gH ks lay N sX) (hn : n ≤ 24) (hF : F 2 1 = nI n) (x : Int32) : Con l y_Li_append (Cond.code y_Li_append b_Li_append 2 (some .int) :: WT) rm_Li_append D vcl ca ks lay ad [xR 2, xI x] F L (fun r F' L' => L' = L ∧ ((tyOK x n ∧ r = some (xI (nI (n + 1))) ∧ F' = gxu (gxu F 3 n x) 2 1 (nI (n + 1))) ∨ (¬ tyOK x n ∧ r = some (xI (-1)) ∧ F' = F))) := by
  refine Con.ofK (fun post K => ?_)
  refine Con.of (ls := [(0, xR 2), (1, xI x)]) (by decide) rfl rfl (Nat.le_of_ble_eq_true rfl) ?_
  intro p e s m args below meth c A X hr hA
  refine gx_iload_n X d_Li_append_0 rfl rfl ?_
  refine gx_bipush X d_Li_append_1 (v := nI 32) (by decide) ?_
  refine gx_icmp_lt X d_Li_append_3 (tgt := 21) (by decide) (fun h3 => ?_) (fun h3 => ?_)
  · refine gx_iconst X d_Li_append_21 (v := (-1)) (by decide) ?_
    exact gx_iret X hr hA d_Li_append_22 (K _ _ _ ⟨rfl, Or.inr ⟨fun q => absurd h3 (Int32.not_lt.mpr q.1), rfl, rfl⟩⟩)
  · refine gx_iload_n X d_Li_append_6 rfl rfl ?_
    refine gx_bipush X d_Li_append_7 (v := nI 126) (by decide) ?_
    refine gx_icmp_gt X d_Li_append_9 (tgt := 21) (by decide) (fun h9 => ?_) (fun h9 => ?_)
    · refine gx_iconst X d_Li_append_21 (v := (-1)) (by decide) ?_
      exact gx_iret X hr hA d_Li_append_22 (K _ _ _ ⟨rfl, Or.inr ⟨fun q => absurd h9 (Int32.not_lt.mpr q.2.1), rfl, rfl⟩⟩)
    · refine gx_aload_n X d_Li_append_12 rfl rfl ?_
      refine gx_geti X d_Li_append_13 (gci in_Li) (HX _ rfl).1 (HX _ rfl).2 rfl 1 (by decide) (gcw X lk_Li_15) (fun _ h => h) rfl ?_
      refine gx_top hF ?_
      refine gx_bipush X d_Li_append_16 (v := nI 24) (by decide) ?_
      refine gx_icmp_lt X d_Li_append_18 (tgt := 23) (by decide) (fun h18 => ?_) (fun h18 => ?_)
      · have hlt : n < 24 := (nI_ltI (by omega) (by decide)).mp h18
        have hx : tyOK x n := ⟨Int32.not_lt.mp h3, Int32.not_lt.mp h9, hlt⟩
        obtain ⟨ch, hc1, hc2, rfl⟩ := tyOK_nI hx
        refine gx_aload_n X d_Li_append_23 rfl rfl ?_
        refine gx_getr X d_Li_append_24 (gci in_Li) (HX _ rfl).1 (HX _ rfl).2 rfl 0 (by decide) (gcw X lk_Li_9) (fun _ h => h) rfl ?_
        refine gx_aload_n X d_Li_append_27 rfl rfl ?_
        refine gx_geti X d_Li_append_28 (gci in_Li) (HX _ rfl).1 (HX _ rfl).2 rfl 1 (by decide) (gcw X lk_Li_15) (fun _ h => h) rfl ?_
        refine gx_top hF ?_
        refine gx_iload_n X d_Li_append_31 rfl rfl ?_
        refine gx_cast X d_Li_append_32 (HX _ rfl).1 (HX _ rfl).2 rfl hlt (by decide) (vn_char (by omega)) ?_
        refine gx_aload_n X d_Li_append_33 rfl rfl ?_
        refine gx_dup X d_Li_append_34 rfl ?_
        refine gx_geti X d_Li_append_35 (gci in_Li) (HX _ rfl).1 (HX _ rfl).2 rfl 1 (by decide) (gcw X lk_Li_15) (fun _ h => h) rfl ?_
        refine gx_top (y := nI n) (by simp [gxu, hF]) ?_
        refine gx_iconst X d_Li_append_38 (v := nI 1) (by decide) ?_
        refine gx_iadd X d_Li_append_39 ?_
        refine gx_top (nI_add n 1) ?_
        refine gx_puti X d_Li_append_40 (gci in_Li) (HX _ rfl).1 (HX _ rfl).2 rfl 1 (by decide) (gcw X lk_Li_15) (fun _ h => h) t_Li ty_Li nm_Li rfl (ty_Li 1 (by decide)) rfl rfl rfl ?_
        refine gx_aload_n X d_Li_append_43 rfl rfl ?_
        refine gx_geti X d_Li_append_44 (gci in_Li) (HX _ rfl).1 (HX _ rfl).2 rfl 1 (by decide) (gcw X lk_Li_15) (fun _ h => h) rfl ?_
        refine gx_top gxu_at ?_
        exact gx_iret X hr hA d_Li_append_47 (K _ _ _ ⟨rfl, Or.inl ⟨hx, rfl, rfl⟩⟩)
      · refine gx_iconst X d_Li_append_21 (v := (-1)) (by decide) ?_
        exact gx_iret X hr hA d_Li_append_22 (K _ _ _ ⟨rfl, Or.inr ⟨fun q => absurd ((nI_ltI (by omega) (by decide)).mpr q.2.2) h18, rfl, rfl⟩⟩)
theorem c_Li_at (HX : gH ks lay N sX) (hL : LiOK F n) {j : Nat} (hj : j < 2 ^ 31) : Con l y_Li_at (Cond.code y_Li_at b_Li_at 2 (some .char) :: WT) rm_Li_at D vcl ca ks lay ad [xR 2, xI (nI j)] F L (fun r F' L' => r = some (xI (lnAt n (F 3) j)) ∧ F' = F ∧ L' = L) := by
  obtain ⟨hn, hF, hch⟩ := hL
  refine Con.ofK (fun post K => ?_)
  refine Con.of (ls := [(0, xR 2), (1, xI (nI j))]) (by decide) rfl rfl (Nat.le_of_ble_eq_true rfl) ?_
  intro p e s m args below meth c A X hr hA
  refine gx_iload_n X d_Li_at_0 rfl rfl ?_
  refine gx_if_lt X d_Li_at_1 (tgt := 21) (by decide) (fun h1 => ?_) (fun h1 => ?_)
  · exact absurd h1 (nI_pos hj)
  · refine gx_iload_n X d_Li_at_4 rfl rfl ?_
    refine gx_aload_n X d_Li_at_5 rfl rfl ?_
    refine gx_geti X d_Li_at_6 (gci in_Li) (HX _ rfl).1 (HX _ rfl).2 rfl 1 (by decide) (gcw X lk_Li_15) (fun _ h => h) rfl ?_
    refine gx_top hF ?_
    refine gx_icmp_ge X d_Li_at_9 (tgt := 21) (by decide) (fun h9 => ?_) (fun h9 => ?_)
    · have hge : n ≤ j := (nI_leI (by omega) hj).mp h9
      refine gx_iconst X d_Li_at_21 (v := nI 0) (by decide) ?_
      exact gx_zret X hr (by first | rfl | decide) hA d_Li_at_22 (K _ _ _ ⟨by unfold lnAt; rw [if_neg (by omega)]; rfl, rfl, rfl⟩)
    · have hlt : j < n := Nat.not_le.mp (fun q => h9 ((nI_leI (by omega) hj).mpr q))
      obtain ⟨ch, hc1, hc2, hc3⟩ := hch j hlt
      refine gx_aload_n X d_Li_at_12 rfl rfl ?_
      refine gx_getr X d_Li_at_13 (gci in_Li) (HX _ rfl).1 (HX _ rfl).2 rfl 0 (by decide) (gcw X lk_Li_9) (fun _ h => h) rfl ?_
      refine gx_iload_n X d_Li_at_16 rfl rfl ?_
      refine gx_cald X d_Li_at_17 (HX _ rfl).1 (HX _ rfl).2 rfl (by omega) (by decide) ?_
      refine gx_goto X d_Li_at_18 (tgt := 22) (by decide) ?_
      refine gx_top hc3 ?_
      exact gx_zret X hr ((pk_charN (by omega)).1) hA d_Li_at_22 (K _ _ _ ⟨by unfold lnAt; rw [if_pos hlt, hc3], rfl, rfl⟩)
theorem c_Li_makeEmpty (HX : gH ks lay N sX) : Con l y_Li_makeEmpty (Cond.code y_Li_makeEmpty b_Li_makeEmpty 1 none :: WT) rm_Li_makeEmpty D vcl ca ks lay ad [xR 2] F L (fun r F' L' => r = none ∧ F' = gxu F 2 1 (nI 0) ∧ L' = L) := by
  refine Con.ofK (fun post K => ?_)
  refine Con.of (ls := [(0, xR 2)]) (by decide) rfl rfl (Nat.le_of_ble_eq_true rfl) ?_
  intro p e s m args below meth c A X hr hA
  refine gx_aload_n X d_Li_makeEmpty_0 rfl rfl ?_
  refine gx_iconst X d_Li_makeEmpty_1 (v := nI 0) (by decide) ?_
  refine gx_puti X d_Li_makeEmpty_2 (gci in_Li) (HX _ rfl).1 (HX _ rfl).2 rfl 1 (by decide) (gcw X lk_Li_15) (fun _ h => h) t_Li ty_Li nm_Li rfl (ty_Li 1 (by decide)) rfl rfl rfl ?_
  exact gx_vret X hr hA d_Li_makeEmpty_5 (K _ _ _ ⟨rfl, rfl, rfl⟩)
end
end
section
section
variable {l : Launch} {D : va_G} {ca : Nat → ClassId} {ks : List Nat} {lay : Nat → gxE} {ad : Nat → Nat} {F : Nat → Nat → Int32} {L : Nat → Nat → Int64} {N w : Nat}
theorem rg_lo {a b : Nat} {c : Int32} (h : c < nI a) : (decide (nI a ≤ c) && decide (c ≤ nI b)) = false := by
  simp [Int32.not_le.mpr h]
theorem rg_hi {a b : Nat} {c : Int32} (h : nI b < c) : (decide (nI a ≤ c) && decide (c ≤ nI b)) = false := by
  simp [Int32.not_le.mpr h]
theorem rg_in {a b : Nat} {c : Int32} (h : ¬ c < nI a) (h2 : ¬ nI b < c) : (decide (nI a ≤ c) && decide (c ≤ nI b)) = true := by
  simp [Int32.not_lt.mp h, Int32.not_lt.mp h2]
/-- a character of a range, as a number -/
theorem rg_nI {a b : Nat} (ha : a < 2 ^ 31) (hb : b < 2 ^ 31) {c : Int32} (h : (decide (nI a ≤ c) && decide (c ≤ nI b)) = true) : ∃ k, a ≤ k ∧ k ≤ b ∧ c = nI k := by
  simp only [Bool.and_eq_true, decide_eq_true_eq] at h
  have h0 : ¬ c < 0 := by
    have h1 := h.1
    rw [Int32.le_iff_toInt_le, nI_toInt ha] at h1
    rw [Int32.lt_iff_toInt_lt, show (0 : Int32).toInt = 0 from by decide]
    omega
  obtain ⟨j, hj, rfl⟩ := nI_of h0
  rw [nI_leI ha hj, nI_leI hj hb] at h
  exact ⟨j, h.1, h.2, rfl⟩
theorem c_Fo_isVariable (ch : Int32) : Con l y_Fo_isVariable (Cond.code y_Fo_isVariable b_Fo_isVariable 1 (some .boolean) :: WT) rm_Fo_isVariable D vcl ca ks lay ad [xI ch] F L (fun r F' L' => r = some (xI (cond (isVar ch) 1 0)) ∧ F' = F ∧ L' = L) := by
  refine Con.ofK (fun post K => ?_)
  refine Con.of (ls := [(0, xI ch)]) (by decide) rfl rfl (Nat.le_of_ble_eq_true rfl) ?_
  intro p e s m args below meth c A X hr hA
  refine gx_iload_n X d_Fo_isVariable_0 rfl rfl ?_
  refine gx_bipush X d_Fo_isVariable_1 (v := nI 120) (by decide) ?_
  refine gx_icmp_lt X d_Fo_isVariable_3 (tgt := 16) (by decide) (fun h3 => ?_) (fun h3 => ?_)
  · refine gx_iconst X d_Fo_isVariable_16 (v := nI 0) (by decide) ?_
    refine gx_zret X hr (by first | rfl | decide) hA d_Fo_isVariable_17 (K _ _ _ ⟨by rw [isVar, rg_lo h3]; rfl, rfl, rfl⟩)
  · refine gx_iload_n X d_Fo_isVariable_6 rfl rfl ?_
    refine gx_bipush X d_Fo_isVariable_7 (v := nI 122) (by decide) ?_
    refine gx_icmp_gt X d_Fo_isVariable_9 (tgt := 16) (by decide) (fun h9 => ?_) (fun h9 => ?_)
    · refine gx_iconst X d_Fo_isVariable_16 (v := nI 0) (by decide) ?_
      refine gx_zret X hr (by first | rfl | decide) hA d_Fo_isVariable_17 (K _ _ _ ⟨by rw [isVar, rg_hi h9]; rfl, rfl, rfl⟩)
    · refine gx_iconst X d_Fo_isVariable_12 (v := nI 1) (by decide) ?_
      refine gx_goto X d_Fo_isVariable_13 (tgt := 17) (by decide) ?_
      refine gx_zret X hr (by first | rfl | decide) hA d_Fo_isVariable_17 (K _ _ _ ⟨by rw [isVar, rg_in h3 h9]; rfl, rfl, rfl⟩)
theorem c_Fo_isDigit (ch : Int32) : Con l y_Fo_isDigit (Cond.code y_Fo_isDigit b_Fo_isDigit 1 (some .boolean) :: WT) rm_Fo_isDigit D vcl ca ks lay ad [xI ch] F L (fun r F' L' => r = some (xI (cond (isDig ch) 1 0)) ∧ F' = F ∧ L' = L) := by
  refine Con.ofK (fun post K => ?_)
  refine Con.of (ls := [(0, xI ch)]) (by decide) rfl rfl (Nat.le_of_ble_eq_true rfl) ?_
  intro p e s m args below meth c A X hr hA
  refine gx_iload_n X d_Fo_isDigit_0 rfl rfl ?_
  refine gx_bipush X d_Fo_isDigit_1 (v := nI 48) (by decide) ?_
  refine gx_icmp_lt X d_Fo_isDigit_3 (tgt := 16) (by decide) (fun h3 => ?_) (fun h3 => ?_)
  · refine gx_iconst X d_Fo_isDigit_16 (v := nI 0) (by decide) ?_
    refine gx_zret X hr (by first | rfl | decide) hA d_Fo_isDigit_17 (K _ _ _ ⟨by rw [isDig, rg_lo h3]; rfl, rfl, rfl⟩)
  · refine gx_iload_n X d_Fo_isDigit_6 rfl rfl ?_
    refine gx_bipush X d_Fo_isDigit_7 (v := nI 55) (by decide) ?_
    refine gx_icmp_gt X d_Fo_isDigit_9 (tgt := 16) (by decide) (fun h9 => ?_) (fun h9 => ?_)
    · refine gx_iconst X d_Fo_isDigit_16 (v := nI 0) (by decide) ?_
      refine gx_zret X hr (by first | rfl | decide) hA d_Fo_isDigit_17 (K _ _ _ ⟨by rw [isDig, rg_hi h9]; rfl, rfl, rfl⟩)
    · refine gx_iconst X d_Fo_isDigit_12 (v := nI 1) (by decide) ?_
      refine gx_goto X d_Fo_isDigit_13 (tgt := 17) (by decide) ?_
      refine gx_zret X hr (by first | rfl | decide) hA d_Fo_isDigit_17 (K _ _ _ ⟨by rw [isDig, rg_in h3 h9]; rfl, rfl, rfl⟩)
theorem c_Fo_begin (HX : gH ks lay N sX) : Con l y_Fo_begin (Cond.code y_Fo_begin b_Fo_begin 1 none :: WT) rm_Fo_begin D vcl ca ks lay ad [xR 4] F L (fun r F' L' => r = none ∧ F' = gxu F 4 3 (nI 0) ∧ L' = L) := by
  refine Con.ofK (fun post K => ?_)
  refine Con.of (ls := [(0, xR 4)]) (by decide) rfl rfl (Nat.le_of_ble_eq_true rfl) ?_
  intro p e s m args below meth c A X hr hA
  refine gx_aload_n X d_Fo_begin_0 rfl rfl ?_
  refine gx_iconst X d_Fo_begin_1 (v := nI 0) (by decide) ?_
  refine gx_puti X d_Fo_begin_2 (gci in_Fo) (HX _ rfl).1 (HX _ rfl).2 rfl 3 (by decide) (gcw X lk_Fo_19) (fun _ h => h) t_Fo ty_Fo nm_Fo rfl (ty_Fo 3 (by decide)) rfl rfl rfl ?_
  refine gx_vret X hr hA d_Fo_begin_5 (K _ _ _ ⟨rfl, rfl, rfl⟩)
/-- the formula holds this code -/
def FoOK (F : Nat → Nat → Int32) (code : List Int32) : Prop := code.length ≤ 24 ∧ F 4 3 = nI code.length ∧ ∀ i, i < code.length → F 5 i = code.getD i 0
theorem FoOK.nil {F : Nat → Nat → Int32} (h : F 4 3 = nI 0) : FoOK F [] := ⟨by simp, h, fun i hi => by simp at hi⟩
theorem c_Fo_add (HX : gH ks lay N sX) {code : List Int32} (hc : FoOK F code) {q : Nat} (hq : q < 65536) : Con l y_Fo_add (Cond.code y_Fo_add b_Fo_add 2 none :: WT) rm_Fo_add D vcl ca ks lay ad [xR 4, xI (nI q)] F L (fun r F' L' => r = none ∧ L' = L ∧ FoOK F' (addC (nI q) code) ∧ ∀ a, a ≠ 4 → a ≠ 5 → F' a = F a) := by
  obtain ⟨hl, hF, hcd⟩ := hc
  refine Con.ofK (fun post K => ?_)
  refine Con.of (ls := [(0, xR 4), (1, xI (nI q))]) (by decide) rfl rfl (Nat.le_of_ble_eq_true rfl) ?_
  intro p e s m args below meth c A X hr hA
  refine gx_aload_n X d_Fo_add_0 rfl rfl ?_
  refine gx_geti X d_Fo_add_1 (gci in_Fo) (HX _ rfl).1 (HX _ rfl).2 rfl 3 (by decide) (gcw X lk_Fo_19) (fun _ h => h) rfl ?_
  refine gx_top hF ?_
  refine gx_bipush X d_Fo_add_4 (v := nI 24) (by decide) ?_
  refine gx_icmp_ge X d_Fo_add_6 (tgt := 29) (by decide) (fun h6 => ?_) (fun h6 => ?_)
  · have hge : 24 ≤ code.length := (nI_leI (by decide) (by omega)).mp h6
    refine gx_vret X hr hA d_Fo_add_29 (K _ _ _ ⟨rfl, rfl, by unfold addC; rw [if_neg (by omega)]; exact ⟨hl, hF, hcd⟩, fun _ _ _ => rfl⟩)
  · have hlt : code.length < 24 := Nat.not_le.mp (fun z => h6 ((nI_leI (by decide) (by omega)).mpr z))
    refine gx_aload_n X d_Fo_add_9 rfl rfl ?_
    refine gx_getr X d_Fo_add_10 (gci in_Fo) (HX _ rfl).1 (HX _ rfl).2 rfl 1 (by decide) (gcw X lk_Fo_9) (fun _ h => h) rfl ?_
    refine gx_aload_n X d_Fo_add_13 rfl rfl ?_
    refine gx_geti X d_Fo_add_14 (gci in_Fo) (HX _ rfl).1 (HX _ rfl).2 rfl 3 (by decide) (gcw X lk_Fo_19) (fun _ h => h) rfl ?_
    refine gx_top hF ?_
    refine gx_iload_n X d_Fo_add_17 rfl rfl ?_
    refine gx_cast X d_Fo_add_18 (HX _ rfl).1 (HX _ rfl).2 rfl hlt (by decide) (vn_char hq) ?_
    refine gx_aload_n X d_Fo_add_19 rfl rfl ?_
    refine gx_dup X d_Fo_add_20 rfl ?_
    refine gx_geti X d_Fo_add_21 (gci in_Fo) (HX _ rfl).1 (HX _ rfl).2 rfl 3 (by decide) (gcw X lk_Fo_19) (fun _ h => h) rfl ?_
    refine gx_top (y := nI code.length) (by simp [gxu, hF]) ?_
    refine gx_iconst X d_Fo_add_24 (v := nI 1) (by decide) ?_
    refine gx_iadd X d_Fo_add_25 ?_
    refine gx_top (nI_add code.length 1) ?_
    refine gx_puti X d_Fo_add_26 (gci in_Fo) (HX _ rfl).1 (HX _ rfl).2 rfl 3 (by decide) (gcw X lk_Fo_19) (fun _ h => h) t_Fo ty_Fo nm_Fo rfl (ty_Fo 3 (by decide)) rfl rfl rfl ?_
    refine gx_vret X hr hA d_Fo_add_29 (K _ _ _ ⟨rfl, rfl, ?_, fun a h1 h2 => by rw [gxu_cell h1, gxu_cell h2]⟩)
    unfold addC
    rw [if_pos hlt]
    refine ⟨by simp; omega, by simp [gxu], fun i hi => ?_⟩
    simp only [List.length_append, List.length_singleton] at hi
    by_cases e : i = code.length
    · subst e
      simp [gxu]
    · have hi2 : i < code.length := by omega
      rw [gxu_ne (by simp), gxu_ne (by simp [e]), hcd i hi2, List.getD_eq_getElem?_getD, List.getD_eq_getElem?_getD, List.getElem?_append_left hi2]
/-- the raw sign between two numbers -/
def cmb (ch x y : Int32) : Int32 := if ch = nI 43 then x + y else if ch = nI 45 then x - y else if ch = nI 42 then x * y else if ch = nI 38 then x &&& y else if ch = nI 94 then x ^^^ y else if ch = nI 60 then (if x < y then 1 else 0) else if ch = nI 61 then (if x = y then 1 else 0) else (if x = y then 0 else 1)
theorem c_Fo_combine (ch x y : Int32) : Con l y_Fo_combine (Cond.code y_Fo_combine b_Fo_combine 3 (some .int) :: WT) rm_Fo_combine D vcl ca ks lay ad [xI ch, xI x, xI y] F L (fun r F' L' => r = some (xI (cmb ch x y)) ∧ F' = F ∧ L' = L) := by
  refine Con.ofK (fun post K => ?_)
  refine Con.of (ls := [(0, xI ch), (1, xI x), (2, xI y)]) (by decide) rfl rfl (Nat.le_of_ble_eq_true rfl) ?_
  intro p e s m args below meth c A X hr hA
  refine gx_iload_n X d_Fo_combine_0 rfl rfl ?_
  by_cases c38 : ch = nI 38
  · subst c38
    refine gx_lookup X d_Fo_combine_1 (off := 79) (tgt := 80) (by decide) (by decide) (by decide) ?_
    refine gx_iload_n X d_Fo_combine_80 rfl rfl ?_
    refine gx_iload_n X d_Fo_combine_81 rfl rfl ?_
    refine gx_iand X d_Fo_combine_82 ?_
    refine gx_iret X hr hA d_Fo_combine_83 (K _ _ _ ⟨rfl, rfl, rfl⟩)
  by_cases c42 : ch = nI 42
  · subst c42
    refine gx_lookup X d_Fo_combine_1 (off := 75) (tgt := 76) (by decide) (by decide) (by decide) ?_
    refine gx_iload_n X d_Fo_combine_76 rfl rfl ?_
    refine gx_iload_n X d_Fo_combine_77 rfl rfl ?_
    refine gx_imul X d_Fo_combine_78 ?_
    refine gx_iret X hr hA d_Fo_combine_79 (K _ _ _ ⟨rfl, rfl, rfl⟩)
  by_cases c43 : ch = nI 43
  · subst c43
    refine gx_lookup X d_Fo_combine_1 (off := 67) (tgt := 68) (by decide) (by decide) (by decide) ?_
    refine gx_iload_n X d_Fo_combine_68 rfl rfl ?_
    refine gx_iload_n X d_Fo_combine_69 rfl rfl ?_
    refine gx_iadd X d_Fo_combine_70 ?_
    refine gx_iret X hr hA d_Fo_combine_71 (K _ _ _ ⟨rfl, rfl, rfl⟩)
  by_cases c45 : ch = nI 45
  · subst c45
    refine gx_lookup X d_Fo_combine_1 (off := 71) (tgt := 72) (by decide) (by decide) (by decide) ?_
    refine gx_iload_n X d_Fo_combine_72 rfl rfl ?_
    refine gx_iload_n X d_Fo_combine_73 rfl rfl ?_
    refine gx_isub X d_Fo_combine_74 ?_
    refine gx_iret X hr hA d_Fo_combine_75 (K _ _ _ ⟨rfl, rfl, rfl⟩)
  by_cases c60 : ch = nI 60
  · subst c60
    refine gx_lookup X d_Fo_combine_1 (off := 87) (tgt := 88) (by decide) (by decide) (by decide) ?_
    refine gx_iload_n X d_Fo_combine_88 rfl rfl ?_
    refine gx_iload_n X d_Fo_combine_89 rfl rfl ?_
    refine gx_icmp_ge X d_Fo_combine_90 (tgt := 97) (by decide) (fun h90 => ?_) (fun h90 => ?_)
    · refine gx_iconst X d_Fo_combine_97 (v := nI 0) (by decide) ?_
      refine gx_iret X hr hA d_Fo_combine_98 (K _ _ _ ⟨by show some (xI (nI 0)) = some (xI (if x < y then 1 else 0)); rw [if_neg (Int32.not_lt.mpr h90)]; rfl, rfl, rfl⟩)
    · refine gx_iconst X d_Fo_combine_93 (v := nI 1) (by decide) ?_
      refine gx_goto X d_Fo_combine_94 (tgt := 98) (by decide) ?_
      refine gx_iret X hr hA d_Fo_combine_98 (K _ _ _ ⟨by show some (xI (nI 1)) = some (xI (if x < y then 1 else 0)); rw [if_pos (Int32.not_le.mp h90)]; rfl, rfl, rfl⟩)
  by_cases c61 : ch = nI 61
  · subst c61
    refine gx_lookup X d_Fo_combine_1 (off := 98) (tgt := 99) (by decide) (by decide) (by decide) ?_
    refine gx_iload_n X d_Fo_combine_99 rfl rfl ?_
    refine gx_iload_n X d_Fo_combine_100 rfl rfl ?_
    refine gx_icmp_ne X d_Fo_combine_101 (tgt := 108) (by decide) (fun h101 => ?_) (fun h101 => ?_)
    · refine gx_iconst X d_Fo_combine_108 (v := nI 0) (by decide) ?_
      refine gx_iret X hr hA d_Fo_combine_109 (K _ _ _ ⟨by show some (xI (nI 0)) = some (xI (if x = y then 1 else 0)); rw [if_neg h101]; rfl, rfl, rfl⟩)
    · refine gx_iconst X d_Fo_combine_104 (v := nI 1) (by decide) ?_
      refine gx_goto X d_Fo_combine_105 (tgt := 109) (by decide) ?_
      refine gx_iret X hr hA d_Fo_combine_109 (K _ _ _ ⟨by show some (xI (nI 1)) = some (xI (if x = y then 1 else 0)); rw [if_pos h101]; rfl, rfl, rfl⟩)
  by_cases c94 : ch = nI 94
  · subst c94
    refine gx_lookup X d_Fo_combine_1 (off := 83) (tgt := 84) (by decide) (by decide) (by decide) ?_
    refine gx_iload_n X d_Fo_combine_84 rfl rfl ?_
    refine gx_iload_n X d_Fo_combine_85 rfl rfl ?_
    refine gx_ixor X d_Fo_combine_86 ?_
    refine gx_iret X hr hA d_Fo_combine_87 (K _ _ _ ⟨rfl, rfl, rfl⟩)
  refine gx_lookup X d_Fo_combine_1 (off := 109) (tgt := 110) (by decide) (by
    show Op.lookupswitch.offset [(38, 79), (42, 75), (43, 67), (45, 71), (60, 87), (61, 98), (94, 83)] 109 ch.toInt = 109
    rw [lv_osw c38 (by decide), lv_osw c42 (by decide), lv_osw c43 (by decide), lv_osw c45 (by decide), lv_osw c60 (by decide), lv_osw c61 (by decide), lv_osw c94 (by decide)]
    rfl) (by decide) ?_
  have hcm : cmb ch x y = if x = y then 0 else 1 := by
    unfold cmb
    rw [if_neg c43, if_neg c45, if_neg c42, if_neg c38, if_neg c94, if_neg c60, if_neg c61]
  refine gx_iload_n X d_Fo_combine_110 rfl rfl ?_
  refine gx_iload_n X d_Fo_combine_111 rfl rfl ?_
  refine gx_icmp_eq X d_Fo_combine_112 (tgt := 119) (by decide) (fun h112 => ?_) (fun h112 => ?_)
  · refine gx_iconst X d_Fo_combine_119 (v := nI 0) (by decide) ?_
    refine gx_iret X hr hA d_Fo_combine_120 (K _ _ _ ⟨by rw [hcm, if_pos h112]; rfl, rfl, rfl⟩)
  · refine gx_iconst X d_Fo_combine_115 (v := nI 1) (by decide) ?_
    refine gx_goto X d_Fo_combine_116 (tgt := 120) (by decide) ?_
    refine gx_iret X hr hA d_Fo_combine_120 (K _ _ _ ⟨by rw [hcm, if_neg h112]; rfl, rfl, rfl⟩)
end
end
section
section
variable {l : Launch} {D : va_G} {ca : Nat → ClassId} {ks : List Nat} {lay : Nat → gxE} {ad : Nat → Nat} {F : Nat → Nat → Int32} {L : Nat → Nat → Int64} {N w : Nat}
set_option maxRecDepth 100000 in
theorem cm_add : ∀ w, w < 4 → ∀ a, a < 8 → ∀ b, b < 8 → (nI a + nI b) &&& nI (2 ^ w - 1) = nI ((a + b) % 2 ^ w) := by decide +kernel
set_option maxRecDepth 100000 in
theorem cm_sub : ∀ w, w < 4 → ∀ a, a < 8 → ∀ b, b < 8 → b < 2 ^ w → (nI a - nI b) &&& nI (2 ^ w - 1) = nI ((a + 2 ^ w - b) % 2 ^ w) := by decide +kernel
set_option maxRecDepth 100000 in
theorem cm_mul : ∀ w, w < 4 → ∀ a, a < 8 → ∀ b, b < 8 → (nI a * nI b) &&& nI (2 ^ w - 1) = nI ((a * b) % 2 ^ w) := by decide +kernel
set_option maxRecDepth 100000 in
theorem cm_and : ∀ w, w < 4 → ∀ a, a < 8 → ∀ b, b < 8 → a < 2 ^ w → (nI a &&& nI b) &&& nI (2 ^ w - 1) = nI (a &&& b) := by decide +kernel
set_option maxRecDepth 100000 in
theorem cm_xor : ∀ w, w < 4 → ∀ a, a < 8 → ∀ b, b < 8 → a < 2 ^ w → b < 2 ^ w → (nI a ^^^ nI b) &&& nI (2 ^ w - 1) = nI (a ^^^ b) := by decide +kernel
theorem cm_one : ∀ w, w < 4 → 0 < w → (1 : Int32) &&& nI (2 ^ w - 1) = nI 1 ∧ (0 : Int32) &&& nI (2 ^ w - 1) = nI 0 := by decide +kernel
theorem cmb_mask {w a b : Nat} (hw : w < 4) (h0 : 0 < w) (ha : a < 2 ^ w) (hb : b < 2 ^ w) (ch : Int32) : cmb ch (nI a) (nI b) &&& nI (2 ^ w - 1) = nI (opV w ch a b) := by
  have a8 : a < 8 := Nat.lt_of_lt_of_le ha (pu_p8 w hw)
  have b8 : b < 8 := Nat.lt_of_lt_of_le hb (pu_p8 w hw)
  have h31 : a < 2 ^ 31 := Nat.lt_trans a8 (by decide)
  have g31 : b < 2 ^ 31 := Nat.lt_trans b8 (by decide)
  have o := cm_one w hw h0
  unfold cmb opV
  split
  · exact cm_add w hw a a8 b b8
  split
  · exact cm_sub w hw a a8 b b8 hb
  split
  · exact cm_mul w hw a a8 b b8
  split
  · exact cm_and w hw a a8 b b8 ha
  split
  · exact cm_xor w hw a a8 b b8 ha hb
  split
  · by_cases e : a < b
    · rw [if_pos ((nI_ltI h31 g31).mpr e), if_pos e]; exact o.1
    · rw [if_neg (fun q => e ((nI_ltI h31 g31).mp q)), if_neg e]; exact o.2
  split
  · by_cases e : a = b
    · rw [if_pos ((nI_eq h31 g31).mpr e), if_pos e]; exact o.1
    · rw [if_neg (fun q => e ((nI_eq h31 g31).mp q)), if_neg e]; exact o.2
  · by_cases e : a = b
    · rw [if_pos ((nI_eq h31 g31).mpr e), if_pos e]; exact o.2
    · rw [if_neg (fun q => e ((nI_eq h31 g31).mp q)), if_neg e]; exact o.1
theorem op_dec1 : ∀ w, w < 4 → ∀ a, a < 8 → ∀ b, b < 8 → a < 2 ^ w → b < 2 ^ w → Nat.blt (a &&& b) (2 ^ w) = true := by decide +kernel
theorem op_dec2 : ∀ w, w < 4 → ∀ a, a < 8 → ∀ b, b < 8 → a < 2 ^ w → b < 2 ^ w → Nat.blt (a ^^^ b) (2 ^ w) = true := by decide +kernel
theorem opV_lt {w a b : Nat} (hw : w < 4) (h0 : 0 < w) (ha : a < 2 ^ w) (hb : b < 2 ^ w) (ch : Int32) : opV w ch a b < 2 ^ w := by
  have a8 : a < 8 := Nat.lt_of_lt_of_le ha (pu_p8 w hw)
  have b8 : b < 8 := Nat.lt_of_lt_of_le hb (pu_p8 w hw)
  have o1 : (a &&& b) < 2 ^ w := by have := op_dec1 w hw a a8 b b8 ha hb; exact Nat.lt_of_succ_le (by simpa [Nat.blt] using this)
  have o2 : (a ^^^ b) < 2 ^ w := by have := op_dec2 w hw a a8 b b8 ha hb; exact Nat.lt_of_succ_le (by simpa [Nat.blt] using this)
  have h2 : 0 < 2 ^ w := Nat.two_pow_pos w
  have h1 : 1 < 2 ^ w := Nat.one_lt_two_pow (by omega)
  unfold opV
  split
  · exact Nat.mod_lt _ h2
  split
  · exact Nat.mod_lt _ h2
  split
  · exact Nat.mod_lt _ h2
  split
  · exact o1
  split
  · exact o2
  split
  · split <;> omega
  split
  · split <;> omega
  · split <;> omega
theorem leafV_lt {w s : Nat} (ch : Int32) : leafV w s ch < 2 ^ w := by
  unfold leafV dg
  split
  · exact Nat.mod_lt _ (Nat.two_pow_pos w)
  · exact Nat.mod_lt _ (Nat.two_pow_pos w)
theorem SpOK.of {F G : Nat → Nat → Int32} {w : Nat} (h : SpOK F w) (e : G 1 = F 1) : SpOK G w := by
  unfold SpOK
  rw [e]
  exact h
theorem evC_snoc (w s : Nat) (code : List Int32) (ch : Int32) (st : List Nat) : evC w s (code ++ [ch]) st = evS w s ch (evC w s code st) := by simp [evC]
theorem take_snoc {code : List Int32} {i : Nat} (h : i < code.length) : code.take (i + 1) = code.take i ++ [code.getD i 0] := by
  rw [List.take_succ, List.getD_eq_getElem?_getD, List.getElem?_eq_getElem h]
  rfl
/-- the numbers on the stack, the latest first -/
def stk (F : Nat → Nat → Int32) (st : List Nat) : Prop := ∀ j, j < st.length → F 6 j = nI (st.getD (st.length - 1 - j) 0)
theorem stk_push {F : Nat → Nat → Int32} {st : List Nat} (h : stk F st) (v : Nat) : stk (gxu F 6 st.length (nI v)) (v :: st) := by
  intro j hj
  simp only [List.length_cons] at hj
  by_cases e : j = st.length
  · subst e
    simp [gxu]
  · have h1 : j < st.length := by omega
    rw [gxu_ne (by simp [e]), h j h1]
    have e2 : (v :: st).length - 1 - j = (st.length - 1 - j) + 1 := by simp only [List.length_cons]; omega
    rw [e2]
    simp
theorem stk_op {F : Nat → Nat → Int32} {r : List Nat} {x y : Nat} (h : stk F (y :: x :: r)) (v : Nat) : F 6 r.length = nI x ∧ F 6 (r.length + 1) = nI y ∧ stk (gxu F 6 r.length (nI v)) (v :: r) := by
  refine ⟨?_, ?_, fun j hj => ?_⟩
  · have := h r.length (by simp; omega)
    simpa using this
  · have := h (r.length + 1) (by simp)
    simpa using this
  · simp only [List.length_cons] at hj
    by_cases e : j = r.length
    · subst e
      simp [gxu]
    · have h1 : j < r.length := by omega
      rw [gxu_ne (by simp [e]), h j (by simp; omega)]
      have e1 : (y :: x :: r).length - 1 - j = (r.length - 1 - j) + 2 := by simp only [List.length_cons]; omega
      have e2 : (v :: r).length - 1 - j = (r.length - 1 - j) + 1 := by simp only [List.length_cons]; omega
      rw [e1, e2]
      simp
set_option maxHeartbeats 4000000 in
theorem c_Fo_valueIn (HX : gH ks lay N sX) (hS : SpOK F w) {code : List Int32} (hc : FoOK F code) {q v : Nat} (hq : q < 512) (hv : evC w q code [] = [v]) : Con l y_Fo_valueIn (Cond.code y_Fo_valueIn b_Fo_valueIn 5 (some .int) :: WT) rm_Fo_valueIn D vcl ca ks lay ad [xR 4, xI (nI q)] F L (fun r F' L' => r = some (xI (nI v)) ∧ L' = L ∧ ∀ a, a ≠ 6 → F' a = F a) := by
  obtain ⟨hl, hF, hcd⟩ := hc
  have hw : w < 4 := by have := hS.1; omega
  have hw0 : 0 < w := by have := hS.1; omega
  refine Con.ofK (fun post K => ?_)
  refine Con.of (ls := [(0, xR 4), (1, xI (nI q))]) (by decide) rfl rfl (Nat.le_of_ble_eq_true rfl) ?_
  intro p e s m args below meth c A X hr hA
  refine gx_iconst X d_Fo_valueIn_0 (v := nI 0) (by decide) ?_
  refine gx_istore_n X d_Fo_valueIn_1 rfl (by decide) ?_
  refine gx_iconst X d_Fo_valueIn_2 (v := nI 0) (by decide) ?_
  refine gx_istore_n X d_Fo_valueIn_3 rfl (by decide) ?_
  have loop : ∀ (d i : Nat) (st : List Nat) (G : Nat → Nat → Int32), i + d = code.length → evC w q (code.take i) [] = st → (∀ x ∈ st, x < 2 ^ w) → st.length ≤ i → stk G st → (∀ a, a ≠ 6 → G a = F a) → GX p l e rm_Fo_valueIn s m args below meth c (MQ below (gxQ D vcl ca ks lay ad s.heap.size post) args s 0 0 (gxA ks ad s.heap.size)) 5 A D vcl ca ks lay ad 0 0 4 [(3, xI (nI i)), (2, xI (nI st.length)), (0, xR 4), (1, xI (nI q))] [] G L := by
    intro d
    induction d with
    | zero =>
      intro i st G hd hev hlt hle hst hG
      have e4 : G 4 3 = nI code.length := by rw [hG 4 (by decide)]; exact hF
      refine gx_iload_n X d_Fo_valueIn_4 rfl rfl ?_
      refine gx_aload_n X d_Fo_valueIn_5 rfl rfl ?_
      refine gx_geti X d_Fo_valueIn_6 (gci in_Fo) (HX _ rfl).1 (HX _ rfl).2 rfl 3 (by decide) (gcw X lk_Fo_19) (fun _ h => h) rfl ?_
      refine gx_top e4 ?_
      refine gx_icmp_ge X d_Fo_valueIn_9 (tgt := 135) (by decide) (fun h9 => ?_) (fun h9 => ?_)
      · rw [show i = code.length by omega, List.take_length, hv] at hev
        subst hev
        refine gx_aload_n X d_Fo_valueIn_135 rfl rfl ?_
        refine gx_getr X d_Fo_valueIn_136 (gci in_Fo) (HX _ rfl).1 (HX _ rfl).2 rfl 2 (by decide) (gcw X lk_Fo_15) (fun _ h => h) rfl ?_
        refine gx_iconst X d_Fo_valueIn_139 (v := nI 0) (by decide) ?_
        refine gx_iald X d_Fo_valueIn_140 (HX _ rfl).1 (HX _ rfl).2 rfl (by omega) (by omega) ?_
        refine gx_top (hst 0 (by simp)) ?_
        refine gx_iret X hr hA d_Fo_valueIn_141 (K _ _ _ ⟨rfl, rfl, hG⟩)
      · exact absurd ((nI_leI (by omega) (by omega)).mpr (by omega)) h9
    | succ d ih =>
      intro i st G hd hev hlt hle hst hG
      have e4 : G 4 3 = nI code.length := by rw [hG 4 (by decide)]; exact hF
      have e5 : G 5 i = code.getD i 0 := by rw [hG 5 (by decide)]; exact hcd i (by omega)
      have hS2 : SpOK G w := hS.of (hG 1 (by decide))
      have hnext : evC w q (code.take (i + 1)) [] = evS w q (code.getD i 0) st := by rw [take_snoc (by omega), evC_snoc, hev]
      refine gx_iload_n X d_Fo_valueIn_4 rfl rfl ?_
      refine gx_aload_n X d_Fo_valueIn_5 rfl rfl ?_
      refine gx_geti X d_Fo_valueIn_6 (gci in_Fo) (HX _ rfl).1 (HX _ rfl).2 rfl 3 (by decide) (gcw X lk_Fo_19) (fun _ h => h) rfl ?_
      refine gx_top e4 ?_
      refine gx_icmp_ge X d_Fo_valueIn_9 (tgt := 135) (by decide) (fun h9 => ?_) (fun h9 => ?_)
      · exact absurd ((nI_leI (by omega) (by omega)).mp h9) (by omega)
      · refine gx_aload_n X d_Fo_valueIn_12 rfl rfl ?_
        refine gx_getr X d_Fo_valueIn_13 (gci in_Fo) (HX _ rfl).1 (HX _ rfl).2 rfl 1 (by decide) (gcw X lk_Fo_9) (fun _ h => h) rfl ?_
        refine gx_iload_n X d_Fo_valueIn_16 rfl rfl ?_
        refine gx_cald X d_Fo_valueIn_17 (HX _ rfl).1 (HX _ rfl).2 rfl (by omega) (by decide) ?_
        refine gx_top e5 ?_
        generalize hch : code.getD i 0 = ch at hnext
        refine gx_istore X d_Fo_valueIn_18 (by decide) ?_
        refine gx_iload X d_Fo_valueIn_20 rfl ?_
        refine gx_callS X d_Fo_valueIn_22 mf_Fo_isVariable lk_Fo_27 (c_Fo_isVariable ch) rfl rfl (Nat.le_of_ble_eq_true rfl) ⟨by decide, by decide⟩ ⟨rfl, rfl⟩ ⟨Nat.zero_le _, Nat.zero_le _⟩ (fun r22 F22 L22 hp22 => ?_)
        obtain ⟨rfl, rfl, rfl⟩ := hp22
        refine gx_if_eq X d_Fo_valueIn_25 (tgt := 53) (by decide) (fun h25 => ?_) (fun h25 => ?_)
        · have hiv : isVar ch = false := by cases h : isVar ch with
            | false => rfl
            | true => rw [h] at h25; exact absurd h25 (by decide)
          refine gx_iload X d_Fo_valueIn_53 rfl ?_
          refine gx_callS X d_Fo_valueIn_55 mf_Fo_isDigit lk_Fo_37 (c_Fo_isDigit ch) rfl rfl (Nat.le_of_ble_eq_true rfl) ⟨by decide, by decide⟩ ⟨rfl, rfl⟩ ⟨Nat.zero_le _, Nat.zero_le _⟩ (fun r55 F55 L55 hp55 => ?_)
          obtain ⟨rfl, rfl, rfl⟩ := hp55
          refine gx_if_eq X d_Fo_valueIn_58 (tgt := 86) (by decide) (fun h58 => ?_) (fun h58 => ?_)
          · have hid : isDig ch = false := by cases h : isDig ch with
              | false => rfl
              | true => rw [h] at h58; exact absurd h58 (by decide)
            have hev2 : evS w q ch st = evO w ch st := by
              unfold evS
              rw [if_neg (by simp [hiv, hid])]
            refine gx_iload_n X d_Fo_valueIn_86 rfl rfl ?_
            refine gx_iconst X d_Fo_valueIn_87 (v := nI 2) (by decide) ?_
            refine gx_icmp_lt X d_Fo_valueIn_88 (tgt := 129) (by decide) (fun h88 => ?_) (fun h88 => ?_)
            · have h2 : st.length < 2 := (nI_ltI (by omega) (by decide)).mp h88
              refine gx_iinc X d_Fo_valueIn_129 rfl (pu_inc _) ?_
              refine gx_goto X d_Fo_valueIn_132 (tgt := 4) (by decide) ?_
              have e : evS w q ch st = st := by
                rw [hev2]
                match st, h2 with
                | [], _ => rfl
                | [_], _ => rfl
              rw [e] at hnext
              exact gx_el (ih (i + 1) st F55 (by omega) hnext hlt (by omega) hst hG) ⟨rfl, rfl, rfl, rfl, trivial⟩
            · have h2 : ¬ st.length < 2 := fun z => h88 ((nI_ltI (by omega) (by decide)).mpr z)
              match st, h2 with
              | [], h2 => exact absurd (by simp) h2
              | [_], h2 => exact absurd (by simp) h2
              | y :: x :: r, _ =>
                obtain ⟨f1, f2, f3⟩ := stk_op hst (opV w ch x y)
                have hx : x < 2 ^ w := hlt x (by simp)
                have hy : y < 2 ^ w := hlt y (by simp)
                simp only [List.length_cons] at hle
                refine gx_iinc X d_Fo_valueIn_91 rfl (pu_dec _) ?_
                refine gx_aload_n X d_Fo_valueIn_94 rfl rfl ?_
                refine gx_getr X d_Fo_valueIn_95 (gci in_Fo) (HX _ rfl).1 (HX _ rfl).2 rfl 2 (by decide) (gcw X lk_Fo_15) (fun _ h => h) rfl ?_
                refine gx_iload_n X d_Fo_valueIn_98 rfl rfl ?_
                refine gx_iconst X d_Fo_valueIn_99 (v := nI 1) (by decide) ?_
                refine gx_isub X d_Fo_valueIn_100 ?_
                refine gx_top (y := nI r.length) (by show nI (r.length + 1) - nI 1 = nI r.length; rw [pk_sub (by omega)]; rfl) ?_
                refine gx_iload X d_Fo_valueIn_101 rfl ?_
                refine gx_aload_n X d_Fo_valueIn_103 rfl rfl ?_
                refine gx_getr X d_Fo_valueIn_104 (gci in_Fo) (HX _ rfl).1 (HX _ rfl).2 rfl 2 (by decide) (gcw X lk_Fo_15) (fun _ h => h) rfl ?_
                refine gx_iload_n X d_Fo_valueIn_107 rfl rfl ?_
                refine gx_iconst X d_Fo_valueIn_108 (v := nI 1) (by decide) ?_
                refine gx_isub X d_Fo_valueIn_109 ?_
                refine gx_top (y := nI r.length) (by show nI (r.length + 1) - nI 1 = nI r.length; rw [pk_sub (by omega)]; rfl) ?_
                refine gx_iald X d_Fo_valueIn_110 (HX _ rfl).1 (HX _ rfl).2 rfl (by omega) (by omega) ?_
                refine gx_top f1 ?_
                refine gx_aload_n X d_Fo_valueIn_111 rfl rfl ?_
                refine gx_getr X d_Fo_valueIn_112 (gci in_Fo) (HX _ rfl).1 (HX _ rfl).2 rfl 2 (by decide) (gcw X lk_Fo_15) (fun _ h => h) rfl ?_
                refine gx_iload_n X d_Fo_valueIn_115 rfl rfl ?_
                refine gx_iald X d_Fo_valueIn_116 (HX _ rfl).1 (HX _ rfl).2 rfl (by simp only [List.length_cons]; omega) (by decide) ?_
                refine gx_top f2 ?_
                refine gx_callS X d_Fo_valueIn_117 mf_Fo_combine lk_Fo_43 (c_Fo_combine ch (nI x) (nI y)) rfl rfl (Nat.le_of_ble_eq_true rfl) ⟨by decide, by decide⟩ ⟨rfl, rfl⟩ ⟨Nat.zero_le _, Nat.zero_le _⟩ (fun r117 F117 L117 hp117 => ?_)
                obtain ⟨rfl, rfl, rfl⟩ := hp117
                refine gx_aload_n X d_Fo_valueIn_120 rfl rfl ?_
                refine gx_getr X d_Fo_valueIn_121 (gci in_Fo) (HX _ rfl).1 (HX _ rfl).2 rfl 0 (by decide) (gcw X lk_Fo_23) (fun _ h => h) rfl ?_
                refine gx_geti X d_Fo_valueIn_124 (gci in_Sp) (HX _ rfl).1 (HX _ rfl).2 rfl 1 (by decide) (gcw X lk_Fo_40) (fun _ h => h) rfl ?_
                refine gx_iand X d_Fo_valueIn_127 ?_
                refine gx_top (y := nI (opV w ch x y)) (by rw [hS2.2.2.1]; exact cmb_mask hw hw0 hx hy ch) ?_
                refine gx_iast X d_Fo_valueIn_128 (HX _ rfl).1 (HX _ rfl).2 rfl (by omega) (by omega) ?_
                refine gx_iinc X d_Fo_valueIn_129 rfl (pu_inc _) ?_
                refine gx_goto X d_Fo_valueIn_132 (tgt := 4) (by decide) ?_
                rw [hev2] at hnext
                refine gx_le (l' := [(3, xI (nI (i + 1))), (2, xI (nI (opV w ch x y :: r).length)), (0, xR 4), (1, xI (nI q))]) ⟨rfl, rfl, rfl, rfl, trivial⟩ (ih (i + 1) (opV w ch x y :: r) _ (by omega) hnext (fun z hz => ?_) (by simp; omega) f3 (fun a ha => ?_))
                · rcases List.mem_cons.mp hz with h | h
                  · rw [h]; exact opV_lt hw hw0 hx hy ch
                  · exact hlt z (by simp [h])
                · rw [gxu_cell ha]; exact hG a ha
          · have hid : isDig ch = true := by cases h : isDig ch with
              | true => rfl
              | false => rw [h] at h58; exact absurd rfl h58
            have hev2 : evS w q ch st = leafV w q ch :: st := by
              unfold evS
              rw [if_pos (Or.inr hid)]
            refine gx_aload_n X d_Fo_valueIn_61 rfl rfl ?_
            refine gx_getr X d_Fo_valueIn_62 (gci in_Fo) (HX _ rfl).1 (HX _ rfl).2 rfl 2 (by decide) (gcw X lk_Fo_15) (fun _ h => h) rfl ?_
            refine gx_iload_n X d_Fo_valueIn_65 rfl rfl ?_
            refine gx_iload X d_Fo_valueIn_66 rfl ?_
            refine gx_bipush X d_Fo_valueIn_68 (v := nI 48) (by decide) ?_
            refine gx_isub X d_Fo_valueIn_70 ?_
            refine gx_aload_n X d_Fo_valueIn_71 rfl rfl ?_
            refine gx_getr X d_Fo_valueIn_72 (gci in_Fo) (HX _ rfl).1 (HX _ rfl).2 rfl 0 (by decide) (gcw X lk_Fo_23) (fun _ h => h) rfl ?_
            refine gx_geti X d_Fo_valueIn_75 (gci in_Sp) (HX _ rfl).1 (HX _ rfl).2 rfl 1 (by decide) (gcw X lk_Fo_40) (fun _ h => h) rfl ?_
            refine gx_iand X d_Fo_valueIn_78 ?_
            refine gx_top (y := nI (leafV w q ch)) (by rw [hS2.2.2.1, pk_and _ w (pu_mask w hw)]; unfold leafV; rw [if_neg (by simp [hiv])]) ?_
            refine gx_iast X d_Fo_valueIn_79 (HX _ rfl).1 (HX _ rfl).2 rfl (by omega) (by omega) ?_
            refine gx_iinc X d_Fo_valueIn_80 rfl (pu_inc _) ?_
            refine gx_goto X d_Fo_valueIn_83 (tgt := 129) (by decide) ?_
            refine gx_iinc X d_Fo_valueIn_129 rfl (pu_inc _) ?_
            refine gx_goto X d_Fo_valueIn_132 (tgt := 4) (by decide) ?_
            rw [hev2] at hnext
            refine gx_le (l' := [(3, xI (nI (i + 1))), (2, xI (nI (leafV w q ch :: st).length)), (0, xR 4), (1, xI (nI q))]) ⟨rfl, rfl, rfl, rfl, trivial⟩ (ih (i + 1) (leafV w q ch :: st) _ (by omega) hnext (fun z hz => ?_) (by simp; omega) (stk_push hst _) (fun a ha => ?_))
            · rcases List.mem_cons.mp hz with h | h
              · rw [h]; exact leafV_lt ch
              · exact hlt z h
            · rw [gxu_cell ha]; exact hG a ha
        · have hiv : isVar ch = true := by cases h : isVar ch with
            | true => rfl
            | false => rw [h] at h25; exact absurd rfl h25
          obtain ⟨k, hk1, hk2, hk3⟩ := rg_nI (by decide) (by decide) hiv
          have hev2 : evS w q ch st = leafV w q ch :: st := by
            unfold evS
            rw [if_pos (Or.inl hiv)]
          have hsub : ch - nI 120 = nI (k - 120) := by rw [hk3]; exact pk_sub hk1
          have hlf : leafV w q ch = dg w q (k - 120) := by
            unfold leafV
            rw [if_pos hiv, hsub, pk_tn (by omega)]
          refine gx_aload_n X d_Fo_valueIn_28 rfl rfl ?_
          refine gx_getr X d_Fo_valueIn_29 (gci in_Fo) (HX _ rfl).1 (HX _ rfl).2 rfl 2 (by decide) (gcw X lk_Fo_15) (fun _ h => h) rfl ?_
          refine gx_iload_n X d_Fo_valueIn_32 rfl rfl ?_
          refine gx_aload_n X d_Fo_valueIn_33 rfl rfl ?_
          refine gx_getr X d_Fo_valueIn_34 (gci in_Fo) (HX _ rfl).1 (HX _ rfl).2 rfl 0 (by decide) (gcw X lk_Fo_23) (fun _ h => h) rfl ?_
          refine gx_iload_n X d_Fo_valueIn_37 rfl rfl ?_
          refine gx_iload X d_Fo_valueIn_38 rfl ?_
          refine gx_bipush X d_Fo_valueIn_40 (v := nI 120) (by decide) ?_
          refine gx_isub X d_Fo_valueIn_42 ?_
          refine gx_top hsub ?_
          refine gx_callV X d_Fo_valueIn_43 mf_Sp_read lk_Fo_31 (c_Sp_read (HX.mono sG_X) hS2 (st := q) (v := k - 120) hq (by omega)) (HX _ rfl).1 (HX _ rfl).2 rfl rfl rfl (Nat.le_of_ble_eq_true rfl) ⟨by decide, by decide⟩ ⟨rfl, rfl⟩ ⟨Nat.zero_le _, Nat.zero_le _⟩ (fun r43 F43 L43 hp43 => ?_)
          obtain ⟨rfl, rfl, rfl⟩ := hp43
          refine gx_iast X d_Fo_valueIn_46 (HX _ rfl).1 (HX _ rfl).2 rfl (by omega) (by omega) ?_
          refine gx_iinc X d_Fo_valueIn_47 rfl (pu_inc _) ?_
          refine gx_goto X d_Fo_valueIn_50 (tgt := 129) (by decide) ?_
          refine gx_iinc X d_Fo_valueIn_129 rfl (pu_inc _) ?_
          refine gx_goto X d_Fo_valueIn_132 (tgt := 4) (by decide) ?_
          rw [hev2] at hnext
          rw [← hlf]
          refine gx_le (l' := [(3, xI (nI (i + 1))), (2, xI (nI (leafV w q ch :: st).length)), (0, xR 4), (1, xI (nI q))]) ⟨rfl, rfl, rfl, rfl, trivial⟩ (ih (i + 1) (leafV w q ch :: st) _ (by omega) hnext (fun z hz => ?_) (by simp; omega) (stk_push hst _) (fun a ha => ?_))
          · rcases List.mem_cons.mp hz with h | h
            · rw [h]; exact leafV_lt ch
            · exact hlt z h
          · rw [gxu_cell ha]; exact hG a ha
  exact gx_el (loop code.length 0 [] F (by omega) rfl (fun x hx => by simp at hx) (by simp) (fun j hj => by simp at hj) (fun _ _ => rfl)) ⟨rfl, rfl, rfl, rfl, trivial⟩
end
end
section
section
variable {l : Launch} {D : va_G} {ca : Nat → ClassId} {ks : List Nat} {lay : Nat → gxE} {ad : Nat → Nat} {F : Nat → Nat → Int32} {L : Nat → Nat → Int64} {N n : Nat} {ln : Nat → Int32}
theorem lt77 {ch : Int32} : ch < nI 77 ↔ ch ≤ nI 76 := by
  rw [Int32.lt_iff_toInt_lt, Int32.le_iff_toInt_le, show (nI 77).toInt = 77 from by decide, show (nI 76).toInt = 76 from by decide]
  omega
theorem isLoc_eq (ch : Int32) : isLoc ch = (decide (nI 65 ≤ ch) && decide (ch ≤ nI 76)) := by
  unfold isLoc
  rw [decide_eq_decide.mpr (lt77 (ch := ch))]
theorem c_Pa_isLocation (ch : Int32) : Con l y_Pa_isLocation (Cond.code y_Pa_isLocation b_Pa_isLocation 1 (some .boolean) :: WT) rm_Pa_isLocation D vcl ca ks lay ad [xI ch] F L (fun r F' L' => r = some (xI (cond (isLoc ch) 1 0)) ∧ F' = F ∧ L' = L) := by
  refine Con.ofK (fun post K => ?_)
  refine Con.of (ls := [(0, xI ch)]) (by decide) rfl rfl (Nat.le_of_ble_eq_true rfl) ?_
  intro p e s m args below meth c A X hr hA
  refine gx_iload_n X d_Pa_isLocation_0 rfl rfl ?_
  refine gx_bipush X d_Pa_isLocation_1 (v := nI 65) (by decide) ?_
  refine gx_icmp_lt X d_Pa_isLocation_3 (tgt := 16) (by decide) (fun h3 => ?_) (fun h3 => ?_)
  · refine gx_iconst X d_Pa_isLocation_16 (v := nI 0) (by decide) ?_
    refine gx_zret X hr (by first | rfl | decide) hA d_Pa_isLocation_17 (K _ _ _ ⟨by rw [isLoc_eq, rg_lo h3]; rfl, rfl, rfl⟩)
  · refine gx_iload_n X d_Pa_isLocation_6 rfl rfl ?_
    refine gx_bipush X d_Pa_isLocation_7 (v := nI 77) (by decide) ?_
    refine gx_icmp_ge X d_Pa_isLocation_9 (tgt := 16) (by decide) (fun h9 => ?_) (fun h9 => ?_)
    · refine gx_iconst X d_Pa_isLocation_16 (v := nI 0) (by decide) ?_
      refine gx_zret X hr (by first | rfl | decide) hA d_Pa_isLocation_17 (K _ _ _ ⟨by rw [show isLoc ch = false by unfold isLoc; simp [Int32.not_lt.mpr h9]]; rfl, rfl, rfl⟩)
    · refine gx_iconst X d_Pa_isLocation_12 (v := nI 1) (by decide) ?_
      refine gx_goto X d_Pa_isLocation_13 (tgt := 17) (by decide) ?_
      refine gx_zret X hr (by first | rfl | decide) hA d_Pa_isLocation_17 (K _ _ _ ⟨by rw [show isLoc ch = true by unfold isLoc; simp [Int32.not_lt.mp h3, Int32.not_le.mp h9]]; rfl, rfl, rfl⟩)
theorem c_Pa_isOperator (ch : Int32) : Con l y_Pa_isOperator (Cond.code y_Pa_isOperator b_Pa_isOperator 1 (some .boolean) :: WT) rm_Pa_isOperator D vcl ca ks lay ad [xI ch] F L (fun r F' L' => r = some (xI (cond (isOp ch) 1 0)) ∧ F' = F ∧ L' = L) := by
  refine Con.ofK (fun post K => ?_)
  refine Con.of (ls := [(0, xI ch)]) (by decide) rfl rfl (Nat.le_of_ble_eq_true rfl) ?_
  intro p e s m args below meth c A X hr hA
  refine gx_iload_n X d_Pa_isOperator_0 rfl rfl ?_
  refine gx_bipush X d_Pa_isOperator_1 (v := nI 43) (by decide) ?_
  refine gx_icmp_eq X d_Pa_isOperator_3 (tgt := 30) (by decide) (fun h3 => ?_) (fun h3 => ?_)
  · refine gx_iconst X d_Pa_isOperator_30 (v := nI 1) (by decide) ?_
    refine gx_goto X d_Pa_isOperator_31 (tgt := 35) (by decide) ?_
    refine gx_zret X hr (by first | rfl | decide) hA d_Pa_isOperator_35 (K _ _ _ ⟨by rw [show isOp ch = true by simp [isOp, h3]]; rfl, rfl, rfl⟩)
  refine gx_iload_n X d_Pa_isOperator_6 rfl rfl ?_
  refine gx_bipush X d_Pa_isOperator_7 (v := nI 45) (by decide) ?_
  refine gx_icmp_eq X d_Pa_isOperator_9 (tgt := 30) (by decide) (fun h9 => ?_) (fun h9 => ?_)
  · refine gx_iconst X d_Pa_isOperator_30 (v := nI 1) (by decide) ?_
    refine gx_goto X d_Pa_isOperator_31 (tgt := 35) (by decide) ?_
    refine gx_zret X hr (by first | rfl | decide) hA d_Pa_isOperator_35 (K _ _ _ ⟨by rw [show isOp ch = true by simp [isOp, h9]]; rfl, rfl, rfl⟩)
  refine gx_iload_n X d_Pa_isOperator_12 rfl rfl ?_
  refine gx_bipush X d_Pa_isOperator_13 (v := nI 42) (by decide) ?_
  refine gx_icmp_eq X d_Pa_isOperator_15 (tgt := 30) (by decide) (fun h15 => ?_) (fun h15 => ?_)
  · refine gx_iconst X d_Pa_isOperator_30 (v := nI 1) (by decide) ?_
    refine gx_goto X d_Pa_isOperator_31 (tgt := 35) (by decide) ?_
    refine gx_zret X hr (by first | rfl | decide) hA d_Pa_isOperator_35 (K _ _ _ ⟨by rw [show isOp ch = true by simp [isOp, h15]]; rfl, rfl, rfl⟩)
  refine gx_iload_n X d_Pa_isOperator_18 rfl rfl ?_
  refine gx_bipush X d_Pa_isOperator_19 (v := nI 38) (by decide) ?_
  refine gx_icmp_eq X d_Pa_isOperator_21 (tgt := 30) (by decide) (fun h21 => ?_) (fun h21 => ?_)
  · refine gx_iconst X d_Pa_isOperator_30 (v := nI 1) (by decide) ?_
    refine gx_goto X d_Pa_isOperator_31 (tgt := 35) (by decide) ?_
    refine gx_zret X hr (by first | rfl | decide) hA d_Pa_isOperator_35 (K _ _ _ ⟨by rw [show isOp ch = true by simp [isOp, h21]]; rfl, rfl, rfl⟩)
  refine gx_iload_n X d_Pa_isOperator_24 rfl rfl ?_
  refine gx_bipush X d_Pa_isOperator_25 (v := nI 94) (by decide) ?_
  refine gx_icmp_ne X d_Pa_isOperator_27 (tgt := 34) (by decide) (fun h27 => ?_) (fun h27 => ?_)
  · refine gx_iconst X d_Pa_isOperator_34 (v := nI 0) (by decide) ?_
    refine gx_zret X hr (by first | rfl | decide) hA d_Pa_isOperator_35 (K _ _ _ ⟨by rw [show isOp ch = false by simp [isOp, h3, h9, h15, h21, h27]]; rfl, rfl, rfl⟩)
  · refine gx_iconst X d_Pa_isOperator_30 (v := nI 1) (by decide) ?_
    refine gx_goto X d_Pa_isOperator_31 (tgt := 35) (by decide) ?_
    refine gx_zret X hr (by first | rfl | decide) hA d_Pa_isOperator_35 (K _ _ _ ⟨by rw [show isOp ch = true by simp [isOp, h27]]; rfl, rfl, rfl⟩)
theorem c_Pa_isComparison (ch : Int32) : Con l y_Pa_isComparison (Cond.code y_Pa_isComparison b_Pa_isComparison 1 (some .boolean) :: WT) rm_Pa_isComparison D vcl ca ks lay ad [xI ch] F L (fun r F' L' => r = some (xI (cond (isCmp ch) 1 0)) ∧ F' = F ∧ L' = L) := by
  refine Con.ofK (fun post K => ?_)
  refine Con.of (ls := [(0, xI ch)]) (by decide) rfl rfl (Nat.le_of_ble_eq_true rfl) ?_
  intro p e s m args below meth c A X hr hA
  refine gx_iload_n X d_Pa_isComparison_0 rfl rfl ?_
  refine gx_bipush X d_Pa_isComparison_1 (v := nI 60) (by decide) ?_
  refine gx_icmp_eq X d_Pa_isComparison_3 (tgt := 18) (by decide) (fun h3 => ?_) (fun h3 => ?_)
  · refine gx_iconst X d_Pa_isComparison_18 (v := nI 1) (by decide) ?_
    refine gx_goto X d_Pa_isComparison_19 (tgt := 23) (by decide) ?_
    refine gx_zret X hr (by first | rfl | decide) hA d_Pa_isComparison_23 (K _ _ _ ⟨by rw [show isCmp ch = true by simp [isCmp, h3]]; rfl, rfl, rfl⟩)
  refine gx_iload_n X d_Pa_isComparison_6 rfl rfl ?_
  refine gx_bipush X d_Pa_isComparison_7 (v := nI 61) (by decide) ?_
  refine gx_icmp_eq X d_Pa_isComparison_9 (tgt := 18) (by decide) (fun h9 => ?_) (fun h9 => ?_)
  · refine gx_iconst X d_Pa_isComparison_18 (v := nI 1) (by decide) ?_
    refine gx_goto X d_Pa_isComparison_19 (tgt := 23) (by decide) ?_
    refine gx_zret X hr (by first | rfl | decide) hA d_Pa_isComparison_23 (K _ _ _ ⟨by rw [show isCmp ch = true by simp [isCmp, h9]]; rfl, rfl, rfl⟩)
  refine gx_iload_n X d_Pa_isComparison_12 rfl rfl ?_
  refine gx_bipush X d_Pa_isComparison_13 (v := nI 35) (by decide) ?_
  refine gx_icmp_ne X d_Pa_isComparison_15 (tgt := 22) (by decide) (fun h15 => ?_) (fun h15 => ?_)
  · refine gx_iconst X d_Pa_isComparison_22 (v := nI 0) (by decide) ?_
    refine gx_zret X hr (by first | rfl | decide) hA d_Pa_isComparison_23 (K _ _ _ ⟨by rw [show isCmp ch = false by simp [isCmp, h3, h9, h15]]; rfl, rfl, rfl⟩)
  · refine gx_iconst X d_Pa_isComparison_18 (v := nI 1) (by decide) ?_
    refine gx_goto X d_Pa_isComparison_19 (tgt := 23) (by decide) ?_
    refine gx_zret X hr (by first | rfl | decide) hA d_Pa_isComparison_23 (K _ _ _ ⟨by rw [show isCmp ch = true by simp [isCmp, h15]]; rfl, rfl, rfl⟩)
theorem cb_f {b : Bool} (h : (cond b 1 0 : Int32) = 0) : b = false := by cases b with
  | false => rfl
  | true => exact absurd h (by decide)
theorem cb_t {b : Bool} (h : ¬ (cond b 1 0 : Int32) = 0) : b = true := by cases b with
  | true => rfl
  | false => exact absurd rfl h
theorem LiOK.of {F G : Nat → Nat → Int32} {n : Nat} (h : LiOK F n) (e2 : G 2 = F 2) (e3 : G 3 = F 3) : LiOK G n := by
  unfold LiOK
  rw [e2, e3]
  exact h
theorem FoOK.of {F G : Nat → Nat → Int32} {code : List Int32} (h : FoOK F code) (e4 : G 4 = F 4) (e5 : G 5 = F 5) : FoOK G code := by
  unfold FoOK
  rw [e4, e5]
  exact h
theorem ln_lt {n : Nat} {f : Nat → Int32} {i : Nat} (h : lnAt n f i ≠ 0) : i < n := by
  unfold lnAt at h
  split at h
  · assumption
  · exact absurd rfl h
/-- the parser stands at a place, with the code so far -/
def PaOK (F : Nat → Nat → Int32) (n : Nat) (ln : Nat → Int32) (q : pS) : Prop := LiOK F n ∧ F 3 = ln ∧ F 7 2 = nI q.1 ∧ q.1 ≤ 24 ∧ FoOK F q.2
abbrev rmP (d : Nat) : Room := { frames := 1 + 2 * d, cells := 0, slots := 0, locals := 30 + 50 * d }
abbrev rmT (d : Nat) : Room := { frames := 2 + 2 * d, cells := 0, slots := 0, locals := 55 + 50 * d }
def CP (l : Launch) (D : va_G) (ca : Nat → ClassId) (ks : List Nat) (lay : Nat → gxE) (ad : Nat → Nat) (n : Nat) (ln : Nat → Int32) (d : Nat) : Prop := ∀ (F : Nat → Nat → Int32) (L : Nat → Nat → Int64) (q : pS), PaOK F n ln q → Con l y_Pa_passPart (Cond.code y_Pa_passPart b_Pa_passPart 3 (some .boolean) :: WT) (rmP d) D vcl ca ks lay ad [xR 7, xI (nI (4 - d))] F L (fun r F' L' => r = some (xI (cond (ptPart n ln d q).1 1 0)) ∧ L' = L ∧ PaOK F' n ln (ptPart n ln d q).2 ∧ ∀ a, a ≠ 4 → a ≠ 5 → a ≠ 7 → F' a = F a)
def CT (l : Launch) (D : va_G) (ca : Nat → ClassId) (ks : List Nat) (lay : Nat → gxE) (ad : Nat → Nat) (n : Nat) (ln : Nat → Int32) (d : Nat) : Prop := ∀ (F : Nat → Nat → Int32) (L : Nat → Nat → Int64) (q : pS), PaOK F n ln q → Con l y_Pa_passTerm (Cond.code y_Pa_passTerm b_Pa_passTerm 4 (some .boolean) :: WT) (rmT d) D vcl ca ks lay ad [xR 7, xI (nI (4 - d))] F L (fun r F' L' => r = some (xI (cond (ptTerm n ln (ptPart n ln d) q).1 1 0)) ∧ L' = L ∧ PaOK F' n ln (ptTerm n ln (ptPart n ln d) q).2 ∧ ∀ a, a ≠ 4 → a ≠ 5 → a ≠ 7 → F' a = F a)
theorem ptPart_leaf {n : Nat} {f : Nat → Int32} {q : pS} (h : ptLeaf n f q = true) : ∀ d, ptPart n f d q = (true, (q.1 + 1, addC (lnAt n f q.1) q.2))
  | 0 => by unfold ptPart; rw [if_pos h]
  | d + 1 => by unfold ptPart; rw [if_pos h]
theorem ptPart_0 {n : Nat} {f : Nat → Int32} {q : pS} (h : ptLeaf n f q = false) : ptPart n f 0 q = (false, q) := by
  unfold ptPart; rw [if_neg (by rw [h]; decide)]
theorem ptPart_no {n : Nat} {f : Nat → Int32} {q : pS} (h : ptLeaf n f q = false) (h2 : ¬ lnAt n f q.1 = nI 40) : ∀ d, ptPart n f d q = (false, q)
  | 0 => ptPart_0 h
  | d + 1 => by unfold ptPart; rw [if_neg (by rw [h]; decide), if_neg h2]
theorem ptPart_par {n : Nat} {f : Nat → Int32} {q : pS} (h : ptLeaf n f q = false) (h2 : lnAt n f q.1 = nI 40) (d : Nat) : ptPart n f (d + 1) q = if (ptTerm n f (ptPart n f d) (q.1 + 1, q.2)).1 = true ∧ lnAt n f (ptTerm n f (ptPart n f d) (q.1 + 1, q.2)).2.1 = nI 41
          then (true, ((ptTerm n f (ptPart n f d) (q.1 + 1, q.2)).2.1 + 1, (ptTerm n f (ptPart n f d) (q.1 + 1, q.2)).2.2))
          else (false, (ptTerm n f (ptPart n f d) (q.1 + 1, q.2)).2) := by
  rw [ptPart, if_neg (by rw [h]; decide), if_pos h2]
/-- the place moves on -/
theorem PaOK.step {F : Nat → Nat → Int32} {n : Nat} {ln : Nat → Int32} {q : pS} {k : Nat} (h : PaOK F n ln q) (hk : k ≤ 24) : PaOK (gxu F 7 2 (nI k)) n ln (k, q.2) := by
  obtain ⟨h1, h2, h3, h4, h5⟩ := h
  exact ⟨h1.of (gxu_cell (by decide)) (gxu_cell (by decide)), by rw [gxu_cell (by decide)]; exact h2, gxu_at, hk, h5.of (gxu_cell (by decide)) (gxu_cell (by decide))⟩
set_option maxHeartbeats 4000000 in
theorem part_ok (HX : gH ks lay N sX) {d : Nat} (hd : d ≤ 4) (hT : ∀ d', d = d' + 1 → CT l D ca ks lay ad n ln d') : CP l D ca ks lay ad n ln d := by
  intro F L q hq
  obtain ⟨h1, h2, h3, h4, h5⟩ := id hq
  have hn : n ≤ 24 := h1.1
  refine Con.ofK (fun post K => ?_)
  refine Con.of (ls := [(0, xR 7), (1, xI (nI (4 - d)))]) (by decide) rfl rfl (Nat.le_of_ble_eq_true rfl) ?_
  intro p e s m args below meth c A X hr hA
  refine gx_aload_n X d_Pa_passPart_0 rfl rfl ?_
  refine gx_getr X d_Pa_passPart_1 (gci in_Pa) (HX _ rfl).1 (HX _ rfl).2 rfl 0 (by decide) (gcw X lk_Pa_15) (fun _ h => h) rfl ?_
  refine gx_aload_n X d_Pa_passPart_4 rfl rfl ?_
  refine gx_geti X d_Pa_passPart_5 (gci in_Pa) (HX _ rfl).1 (HX _ rfl).2 rfl 2 (by decide) (gcw X lk_Pa_9) (fun _ h => h) rfl ?_
  refine gx_top h3 ?_
  refine gx_callV X d_Pa_passPart_8 mf_Li_at lk_Pa_23 (c_Li_at HX h1 (j := q.1) (by omega)) (HX _ rfl).1 (HX _ rfl).2 rfl rfl rfl (Nat.le_of_ble_eq_true rfl) ⟨by simp, by simp; omega⟩ ⟨rfl, rfl⟩ ⟨Nat.zero_le _, Nat.zero_le _⟩ (fun r8 F8 L8 hp8 => ?_)
  obtain ⟨rfl, rfl, rfl⟩ := hp8
  rw [h2]
  generalize hch : lnAt n ln q.1 = ch
  have hleafE : ptLeaf n ln q = (isVar ch || isDig ch) := by unfold ptLeaf; rw [hch]
  have J : ptLeaf n ln q = true → GX p l e (rmP d) s m args below meth c (MQ below (gxQ D vcl ca ks lay ad s.heap.size post) args s 0 0 (gxA ks ad s.heap.size)) 3 A D vcl ca ks lay ad 0 0 26 [(2, xI ch), (0, xR 7), (1, xI (nI (4 - d)))] [] F8 L8 := by
    intro hleaf
    have hk : ∃ k, 48 ≤ k ∧ k ≤ 122 ∧ ch = nI k := by
      rw [hleafE, Bool.or_eq_true] at hleaf
      rcases hleaf with h | h
      · obtain ⟨k, a, b, c⟩ := rg_nI (by decide) (by decide) h
        exact ⟨k, by omega, b, c⟩
      · obtain ⟨k, a, b, c⟩ := rg_nI (by decide) (by decide) h
        exact ⟨k, a, by omega, c⟩
    obtain ⟨k, hk1, hk2, rfl⟩ := hk
    have hlt : q.1 < n := ln_lt (f := ln) (by rw [hch]; exact fun z => nI_ne0 (by omega) (by omega) z)
    refine gx_aload_n X d_Pa_passPart_26 rfl rfl ?_
    refine gx_getr X d_Pa_passPart_27 (gci in_Pa) (HX _ rfl).1 (HX _ rfl).2 rfl 1 (by decide) (gcw X lk_Pa_19) (fun _ h => h) rfl ?_
    refine gx_iload_n X d_Pa_passPart_30 rfl rfl ?_
    refine gx_callV X d_Pa_passPart_31 mf_Fo_add lk_Pa_54 (c_Fo_add HX h5 (q := k) (by omega)) (HX _ rfl).1 (HX _ rfl).2 rfl rfl rfl (Nat.le_of_ble_eq_true rfl) ⟨by simp, by simp; omega⟩ ⟨rfl, rfl⟩ ⟨Nat.zero_le _, Nat.zero_le _⟩ (fun r31 F31 L31 hp31 => ?_)
    obtain ⟨rfl, rfl, g1, g2⟩ := hp31
    have e7 : F31 7 2 = nI q.1 := by rw [g2 7 (by decide) (by decide)]; exact h3
    refine gx_aload_n X d_Pa_passPart_34 rfl rfl ?_
    refine gx_dup X d_Pa_passPart_35 rfl ?_
    refine gx_geti X d_Pa_passPart_36 (gci in_Pa) (HX _ rfl).1 (HX _ rfl).2 rfl 2 (by decide) (gcw X lk_Pa_9) (fun _ h => h) rfl ?_
    refine gx_top e7 ?_
    refine gx_iconst X d_Pa_passPart_39 (v := nI 1) (by decide) ?_
    refine gx_iadd X d_Pa_passPart_40 ?_
    refine gx_top (nI_add q.1 1) ?_
    refine gx_puti X d_Pa_passPart_41 (gci in_Pa) (HX _ rfl).1 (HX _ rfl).2 rfl 2 (by decide) (gcw X lk_Pa_9) (fun _ h => h) t_Pa ty_Pa nm_Pa rfl (ty_Pa 2 (by decide)) rfl rfl rfl ?_
    refine gx_iconst X d_Pa_passPart_44 (v := nI 1) (by decide) ?_
    refine gx_zret X hr (by first | rfl | decide) hA d_Pa_passPart_45 (K _ _ _ ⟨by rw [ptPart_leaf hleaf]; rfl, rfl, ?_, fun a a4 a5 a7 => by rw [gxu_cell a7]; exact g2 a a4 a5⟩)
    rw [ptPart_leaf hleaf, hch]
    exact PaOK.step (q := (q.1, addC (nI k) q.2)) ⟨h1.of (g2 2 (by decide) (by decide)) (g2 3 (by decide) (by decide)), by rw [g2 3 (by decide) (by decide)]; exact h2, e7, h4, g1⟩ (by omega)
  refine gx_istore_n X d_Pa_passPart_11 rfl (by decide) ?_
  refine gx_iload_n X d_Pa_passPart_12 rfl rfl ?_
  refine gx_callS X d_Pa_passPart_13 mf_Fo_isVariable lk_Pa_33 (c_Fo_isVariable ch) rfl rfl (Nat.le_of_ble_eq_true rfl) ⟨by simp, by simp; omega⟩ ⟨rfl, rfl⟩ ⟨Nat.zero_le _, Nat.zero_le _⟩ (fun r13 F13 L13 hp13 => ?_)
  obtain ⟨rfl, rfl, rfl⟩ := hp13
  refine gx_if_ne X d_Pa_passPart_16 (tgt := 26) (by decide) (fun h16 => ?_) (fun h16 => ?_)
  · exact gx_el (J (by rw [hleafE, cb_t h16]; rfl)) ⟨rfl, rfl, rfl, trivial⟩
  have hv := cb_f h16
  refine gx_iload_n X d_Pa_passPart_19 rfl rfl ?_
  refine gx_callS X d_Pa_passPart_20 mf_Fo_isDigit lk_Pa_64 (c_Fo_isDigit ch) rfl rfl (Nat.le_of_ble_eq_true rfl) ⟨by simp, by simp; omega⟩ ⟨rfl, rfl⟩ ⟨Nat.zero_le _, Nat.zero_le _⟩ (fun r20 F20 L20 hp20 => ?_)
  obtain ⟨rfl, rfl, rfl⟩ := hp20
  refine gx_if_eq X d_Pa_passPart_23 (tgt := 46) (by decide) (fun h23 => ?_) (fun h23 => ?_)
  · have hleaf : ptLeaf n ln q = false := by rw [hleafE, hv, cb_f h23]; rfl
    refine gx_iload_n X d_Pa_passPart_46 rfl rfl ?_
    refine gx_bipush X d_Pa_passPart_47 (v := nI 40) (by decide) ?_
    refine gx_icmp_ne X d_Pa_passPart_49 (tgt := 57) (by decide) (fun h49 => ?_) (fun h49 => ?_)
    · refine gx_iconst X d_Pa_passPart_57 (v := nI 0) (by decide) ?_
      refine gx_zret X hr (by first | rfl | decide) hA d_Pa_passPart_58 (K _ _ _ ⟨by rw [ptPart_no hleaf (by rw [hch]; exact h49)]; rfl, rfl, by rw [ptPart_no hleaf (by rw [hch]; exact h49)]; exact hq, fun _ _ _ _ => rfl⟩)
    · have h40 : lnAt n ln q.1 = nI 40 := by rw [hch]; exact h49
      have hlt : q.1 < n := ln_lt (f := ln) (by rw [h40]; decide)
      refine gx_iload_n X d_Pa_passPart_52 rfl rfl ?_
      refine gx_iconst X d_Pa_passPart_53 (v := nI 4) (by decide) ?_
      refine gx_icmp_lt X d_Pa_passPart_54 (tgt := 59) (by decide) (fun h54 => ?_) (fun h54 => ?_)
      · have hd0 : 4 - d < 4 := (nI_ltI (by omega) (by decide)).mp h54
        obtain ⟨d', rfl⟩ : ∃ d', d = d' + 1 := ⟨d - 1, by omega⟩
        refine gx_aload_n X d_Pa_passPart_59 rfl rfl ?_
        refine gx_dup X d_Pa_passPart_60 rfl ?_
        refine gx_geti X d_Pa_passPart_61 (gci in_Pa) (HX _ rfl).1 (HX _ rfl).2 rfl 2 (by decide) (gcw X lk_Pa_9) (fun _ h => h) rfl ?_
        refine gx_top h3 ?_
        refine gx_iconst X d_Pa_passPart_64 (v := nI 1) (by decide) ?_
        refine gx_iadd X d_Pa_passPart_65 ?_
        refine gx_top (nI_add q.1 1) ?_
        refine gx_puti X d_Pa_passPart_66 (gci in_Pa) (HX _ rfl).1 (HX _ rfl).2 rfl 2 (by decide) (gcw X lk_Pa_9) (fun _ h => h) t_Pa ty_Pa nm_Pa rfl (ty_Pa 2 (by decide)) rfl rfl rfl ?_
        refine gx_aload_n X d_Pa_passPart_69 rfl rfl ?_
        refine gx_iload_n X d_Pa_passPart_70 rfl rfl ?_
        refine gx_iconst X d_Pa_passPart_71 (v := nI 1) (by decide) ?_
        refine gx_iadd X d_Pa_passPart_72 ?_
        refine gx_top (y := nI (4 - d')) (by rw [nI_add]; congr 1; omega) ?_
        have hq2 : PaOK (gxu F20 7 2 (nI (q.1 + 1))) n ln (q.1 + 1, q.2) := hq.step (by omega)
        refine gx_callV X d_Pa_passPart_73 mf_Pa_passTerm lk_Pa_48 (hT d' rfl (gxu F20 7 2 (nI (q.1 + 1))) L20 (q.1 + 1, q.2) hq2) (HX _ rfl).1 (HX _ rfl).2 rfl rfl rfl (Nat.le_of_ble_eq_true rfl) ⟨by simp; omega, by simp; omega⟩ ⟨rfl, rfl⟩ ⟨Nat.zero_le _, Nat.zero_le _⟩ (fun r73 F73 L73 hp73 => ?_)
        obtain ⟨rfl, rfl, g1, g2⟩ := hp73
        generalize hr2 : ptTerm n ln (ptPart n ln d') (q.1 + 1, q.2) = t at g1
        have hpp := ptPart_par hleaf h40 d'
        rw [hr2] at hpp
        obtain ⟨k1, k2, k3, k4, k5⟩ := id g1
        have g3 : ∀ a, a ≠ 4 → a ≠ 5 → a ≠ 7 → F73 a = F20 a := fun a a4 a5 a7 => by rw [g2 a a4 a5 a7, gxu_cell a7]
        refine gx_if_eq X d_Pa_passPart_76 (tgt := 95) (by decide) (fun h76 => ?_) (fun h76 => ?_)
        · have ht := cb_f h76
          rw [if_neg (by rw [ht]; exact fun z => absurd z.1 (by decide))] at hpp
          refine gx_iconst X d_Pa_passPart_95 (v := nI 0) (by decide) ?_
          refine gx_zret X hr (by first | rfl | decide) hA d_Pa_passPart_96 (K _ _ _ ⟨by rw [hpp]; rfl, rfl, by rw [hpp]; exact g1, g3⟩)
        · have ht := cb_t h76
          refine gx_aload_n X d_Pa_passPart_79 rfl rfl ?_
          refine gx_getr X d_Pa_passPart_80 (gci in_Pa) (HX _ rfl).1 (HX _ rfl).2 rfl 0 (by decide) (gcw X lk_Pa_15) (fun _ h => h) rfl ?_
          refine gx_aload_n X d_Pa_passPart_83 rfl rfl ?_
          refine gx_geti X d_Pa_passPart_84 (gci in_Pa) (HX _ rfl).1 (HX _ rfl).2 rfl 2 (by decide) (gcw X lk_Pa_9) (fun _ h => h) rfl ?_
          refine gx_top k3 ?_
          refine gx_callV X d_Pa_passPart_87 mf_Li_at lk_Pa_23 (c_Li_at HX k1 (j := t.2.1) (by omega)) (HX _ rfl).1 (HX _ rfl).2 rfl rfl rfl (Nat.le_of_ble_eq_true rfl) ⟨by simp, by simp; omega⟩ ⟨rfl, rfl⟩ ⟨Nat.zero_le _, Nat.zero_le _⟩ (fun r87 F87 L87 hp87 => ?_)
          obtain ⟨rfl, rfl, rfl⟩ := hp87
          rw [k2]
          refine gx_bipush X d_Pa_passPart_90 (v := nI 41) (by decide) ?_
          refine gx_icmp_eq X d_Pa_passPart_92 (tgt := 97) (by decide) (fun h92 => ?_) (fun h92 => ?_)
          · have hlt2 : t.2.1 < n := ln_lt (f := ln) (by rw [h92]; decide)
            rw [if_pos ⟨ht, h92⟩] at hpp
            refine gx_aload_n X d_Pa_passPart_97 rfl rfl ?_
            refine gx_dup X d_Pa_passPart_98 rfl ?_
            refine gx_geti X d_Pa_passPart_99 (gci in_Pa) (HX _ rfl).1 (HX _ rfl).2 rfl 2 (by decide) (gcw X lk_Pa_9) (fun _ h => h) rfl ?_
            refine gx_top k3 ?_
            refine gx_iconst X d_Pa_passPart_102 (v := nI 1) (by decide) ?_
            refine gx_iadd X d_Pa_passPart_103 ?_
            refine gx_top (nI_add t.2.1 1) ?_
            refine gx_puti X d_Pa_passPart_104 (gci in_Pa) (HX _ rfl).1 (HX _ rfl).2 rfl 2 (by decide) (gcw X lk_Pa_9) (fun _ h => h) t_Pa ty_Pa nm_Pa rfl (ty_Pa 2 (by decide)) rfl rfl rfl ?_
            refine gx_iconst X d_Pa_passPart_107 (v := nI 1) (by decide) ?_
            refine gx_zret X hr (by first | rfl | decide) hA d_Pa_passPart_108 (K _ _ _ ⟨by rw [hpp]; rfl, rfl, by rw [hpp]; exact g1.step (by omega), fun a a4 a5 a7 => by rw [gxu_cell a7]; exact g3 a a4 a5 a7⟩)
          · rw [if_neg (fun z => h92 z.2)] at hpp
            refine gx_iconst X d_Pa_passPart_95 (v := nI 0) (by decide) ?_
            refine gx_zret X hr (by first | rfl | decide) hA d_Pa_passPart_96 (K _ _ _ ⟨by rw [hpp]; rfl, rfl, by rw [hpp]; exact g1, g3⟩)
      · have hd0 : d = 0 := by
          have : ¬ 4 - d < 4 := fun z => h54 ((nI_ltI (by omega) (by decide)).mpr z)
          omega
        subst hd0
        refine gx_iconst X d_Pa_passPart_57 (v := nI 0) (by decide) ?_
        refine gx_zret X hr (by first | rfl | decide) hA d_Pa_passPart_58 (K _ _ _ ⟨by rw [ptPart_0 hleaf]; rfl, rfl, by rw [ptPart_0 hleaf]; exact hq, fun _ _ _ _ => rfl⟩)
  · exact gx_el (J (by rw [hleafE, cb_t h23]; simp)) ⟨rfl, rfl, rfl, trivial⟩
end
end
section
section
variable {l : Launch} {D : va_G} {ca : Nat → ClassId} {ks : List Nat} {lay : Nat → gxE} {ad : Nat → Nat} {F : Nat → Nat → Int32} {L : Nat → Nat → Int64} {N n : Nat} {ln : Nat → Int32}
theorem isOp_nI {ch : Int32} (h : isOp ch = true) : ∃ k, 38 ≤ k ∧ k ≤ 94 ∧ ch = nI k := by
  simp only [isOp, Bool.or_eq_true, decide_eq_true_eq] at h
  rcases h with (((h | h) | h) | h) | h <;> exact ⟨_, by decide, by decide, h⟩
theorem isCmp_nI {ch : Int32} (h : isCmp ch = true) : ∃ k, 35 ≤ k ∧ k ≤ 94 ∧ ch = nI k := by
  simp only [isCmp, Bool.or_eq_true, decide_eq_true_eq] at h
  rcases h with (h | h) | h <;> exact ⟨_, by decide, by decide, h⟩
theorem ln_nI {n : Nat} {f : Nat → Int32} {i k : Nat} (h : lnAt n f i = nI k) (hk : 0 < k) (h2 : k < 2 ^ 31) : i < n := ln_lt (f := f) (by rw [h]; exact fun z => nI_ne0 hk h2 z)
set_option maxHeartbeats 4000000 in
theorem term_ok (HX : gH ks lay N sX) {d : Nat} (hd : d ≤ 4) (hP : CP l D ca ks lay ad n ln d) : CT l D ca ks lay ad n ln d := by
  intro F L q hq
  have hn : n ≤ 24 := hq.1.1
  refine Con.ofK (fun post K => ?_)
  refine Con.of (ls := [(0, xR 7), (1, xI (nI (4 - d)))]) (by decide) rfl rfl (Nat.le_of_ble_eq_true rfl) ?_
  intro p e s m args below meth c A X hr hA
  refine gx_aload_n X d_Pa_passTerm_0 rfl rfl ?_
  refine gx_iload_n X d_Pa_passTerm_1 rfl rfl ?_
  refine gx_callV X d_Pa_passTerm_2 mf_Pa_passPart lk_Pa_58 (hP F L q hq) (HX _ rfl).1 (HX _ rfl).2 rfl rfl rfl (Nat.le_of_ble_eq_true rfl) ⟨by simp <;> omega, by simp <;> omega⟩ ⟨rfl, rfl⟩ ⟨Nat.zero_le _, Nat.zero_le _⟩ (fun r2 F2 L2 hp2 => ?_)
  obtain ⟨rfl, rfl, g1, g2⟩ := hp2
  refine gx_if_ne X d_Pa_passTerm_5 (tgt := 10) (by decide) (fun h5 => ?_) (fun h5 => ?_)
  · have ht := cb_t h5
    have hterm : ptTerm n ln (ptPart n ln d) q = ptLoop n ln (ptPart n ln d) 24 (ptPart n ln d q).2 := by
      unfold ptTerm
      rw [if_pos ht]
    have loop : ∀ (k i : Nat) (z : pS) (G : Nat → Nat → Int32), i + k = 24 → PaOK G n ln z → (∀ a, a ≠ 4 → a ≠ 5 → a ≠ 7 → G a = F a) → ptTerm n ln (ptPart n ln d) q = ptLoop n ln (ptPart n ln d) k z → GX p l e (rmT d) s m args below meth c (MQ below (gxQ D vcl ca ks lay ad s.heap.size post) args s 0 0 (gxA ks ad s.heap.size)) 4 A D vcl ca ks lay ad 0 0 12 [(2, xI (nI i)), (0, xR 7), (1, xI (nI (4 - d)))] [] G L2 := by
      intro k
      induction k with
      | zero =>
        intro i z G hi hz hG hres
        refine gx_iload_n X d_Pa_passTerm_12 rfl rfl ?_
        refine gx_bipush X d_Pa_passTerm_13 (v := nI 24) (by decide) ?_
        refine gx_icmp_ge X d_Pa_passTerm_15 (tgt := 81) (by decide) (fun h15 => ?_) (fun h15 => ?_)
        · refine gx_iconst X d_Pa_passTerm_81 (v := nI 1) (by decide) ?_
          refine gx_zret X hr (by first | rfl | decide) hA d_Pa_passTerm_82 (K _ _ _ ⟨by rw [hres]; rfl, rfl, by rw [hres]; exact hz, hG⟩)
        · exact absurd ((nI_leI (by decide) (by omega)).mpr (by omega)) h15
      | succ k ih =>
        intro i z G hi hz hG hres
        obtain ⟨z1, z2, z3, z4, z5⟩ := id hz
        refine gx_iload_n X d_Pa_passTerm_12 rfl rfl ?_
        refine gx_bipush X d_Pa_passTerm_13 (v := nI 24) (by decide) ?_
        refine gx_icmp_ge X d_Pa_passTerm_15 (tgt := 81) (by decide) (fun h15 => ?_) (fun h15 => ?_)
        · exact absurd ((nI_leI (by decide) (by omega)).mp h15) (by omega)
        · refine gx_aload_n X d_Pa_passTerm_18 rfl rfl ?_
          refine gx_getr X d_Pa_passTerm_19 (gci in_Pa) (HX _ rfl).1 (HX _ rfl).2 rfl 0 (by decide) (gcw X lk_Pa_15) (fun _ h => h) rfl ?_
          refine gx_aload_n X d_Pa_passTerm_22 rfl rfl ?_
          refine gx_geti X d_Pa_passTerm_23 (gci in_Pa) (HX _ rfl).1 (HX _ rfl).2 rfl 2 (by decide) (gcw X lk_Pa_9) (fun _ h => h) rfl ?_
          refine gx_top z3 ?_
          refine gx_callV X d_Pa_passTerm_26 mf_Li_at lk_Pa_23 (c_Li_at HX z1 (j := z.1) (by omega)) (HX _ rfl).1 (HX _ rfl).2 rfl rfl rfl (Nat.le_of_ble_eq_true rfl) ⟨by simp <;> omega, by simp <;> omega⟩ ⟨rfl, rfl⟩ ⟨Nat.zero_le _, Nat.zero_le _⟩ (fun r26 F26 L26 hp26 => ?_)
          obtain ⟨rfl, rfl, rfl⟩ := hp26
          rw [z2]
          refine gx_callS X d_Pa_passTerm_29 mf_Pa_isOperator lk_Pa_61 (c_Pa_isOperator (lnAt n ln z.1)) rfl rfl (Nat.le_of_ble_eq_true rfl) ⟨by simp <;> omega, by simp <;> omega⟩ ⟨rfl, rfl⟩ ⟨Nat.zero_le _, Nat.zero_le _⟩ (fun r29 F29 L29 hp29 => ?_)
          obtain ⟨rfl, rfl, rfl⟩ := hp29
          refine gx_if_eq X d_Pa_passTerm_32 (tgt := 81) (by decide) (fun h32 => ?_) (fun h32 => ?_)
          · have ho := cb_f h32
            have hres2 : ptLoop n ln (ptPart n ln d) (k + 1) z = (true, z) := by rw [ptLoop, if_neg (by rw [ho]; decide)]
            rw [hres2] at hres
            refine gx_iconst X d_Pa_passTerm_81 (v := nI 1) (by decide) ?_
            refine gx_zret X hr (by first | rfl | decide) hA d_Pa_passTerm_82 (K _ _ _ ⟨by rw [hres]; rfl, rfl, by rw [hres]; exact hz, hG⟩)
          · have ho := cb_t h32
            obtain ⟨c1, hc1, hc2, hc3⟩ := isOp_nI ho
            have hlt : z.1 < n := ln_nI hc3 (by omega) (by omega)
            rw [ptLoop, if_pos ho] at hres
            refine gx_aload_n X d_Pa_passTerm_35 rfl rfl ?_
            refine gx_getr X d_Pa_passTerm_36 (gci in_Pa) (HX _ rfl).1 (HX _ rfl).2 rfl 0 (by decide) (gcw X lk_Pa_15) (fun _ h => h) rfl ?_
            refine gx_aload_n X d_Pa_passTerm_39 rfl rfl ?_
            refine gx_geti X d_Pa_passTerm_40 (gci in_Pa) (HX _ rfl).1 (HX _ rfl).2 rfl 2 (by decide) (gcw X lk_Pa_9) (fun _ h => h) rfl ?_
            refine gx_top z3 ?_
            refine gx_callV X d_Pa_passTerm_43 mf_Li_at lk_Pa_23 (c_Li_at HX z1 (j := z.1) (by omega)) (HX _ rfl).1 (HX _ rfl).2 rfl rfl rfl (Nat.le_of_ble_eq_true rfl) ⟨by simp <;> omega, by simp <;> omega⟩ ⟨rfl, rfl⟩ ⟨Nat.zero_le _, Nat.zero_le _⟩ (fun r43 F43 L43 hp43 => ?_)
            obtain ⟨rfl, rfl, rfl⟩ := hp43
            rw [z2]
            refine gx_istore_n X d_Pa_passTerm_46 rfl (by decide) ?_
            refine gx_aload_n X d_Pa_passTerm_47 rfl rfl ?_
            refine gx_dup X d_Pa_passTerm_48 rfl ?_
            refine gx_geti X d_Pa_passTerm_49 (gci in_Pa) (HX _ rfl).1 (HX _ rfl).2 rfl 2 (by decide) (gcw X lk_Pa_9) (fun _ h => h) rfl ?_
            refine gx_top z3 ?_
            refine gx_iconst X d_Pa_passTerm_52 (v := nI 1) (by decide) ?_
            refine gx_iadd X d_Pa_passTerm_53 ?_
            refine gx_top (nI_add z.1 1) ?_
            refine gx_puti X d_Pa_passTerm_54 (gci in_Pa) (HX _ rfl).1 (HX _ rfl).2 rfl 2 (by decide) (gcw X lk_Pa_9) (fun _ h => h) t_Pa ty_Pa nm_Pa rfl (ty_Pa 2 (by decide)) rfl rfl rfl ?_
            refine gx_aload_n X d_Pa_passTerm_57 rfl rfl ?_
            refine gx_iload_n X d_Pa_passTerm_58 rfl rfl ?_
            refine gx_callV X d_Pa_passTerm_59 mf_Pa_passPart lk_Pa_58 (hP _ _ (z.1 + 1, z.2) (hz.step (by omega))) (HX _ rfl).1 (HX _ rfl).2 rfl rfl rfl (Nat.le_of_ble_eq_true rfl) ⟨by simp <;> omega, by simp <;> omega⟩ ⟨rfl, rfl⟩ ⟨Nat.zero_le _, Nat.zero_le _⟩ (fun r59 F59 L59 hp59 => ?_)
            obtain ⟨rfl, rfl, f1, f2⟩ := hp59
            have hG2 : ∀ a, a ≠ 4 → a ≠ 5 → a ≠ 7 → F59 a = F a := fun a a4 a5 a7 => by rw [f2 a a4 a5 a7, gxu_cell a7]; exact hG a a4 a5 a7
            generalize hr2 : ptPart n ln d (z.1 + 1, z.2) = t at f1 hres
            refine gx_if_ne X d_Pa_passTerm_62 (tgt := 67) (by decide) (fun h62 => ?_) (fun h62 => ?_)
            · have ht2 := cb_t h62
              rw [if_pos ht2] at hres
              refine gx_aload_n X d_Pa_passTerm_67 rfl rfl ?_
              refine gx_getr X d_Pa_passTerm_68 (gci in_Pa) (HX _ rfl).1 (HX _ rfl).2 rfl 1 (by decide) (gcw X lk_Pa_19) (fun _ h => h) rfl ?_
              obtain ⟨k1, k2, k3, k4, k5⟩ := id f1
              refine gx_iload_n X d_Pa_passTerm_71 rfl rfl ?_
              refine gx_top hc3 ?_
              refine gx_callV X d_Pa_passTerm_72 mf_Fo_add lk_Pa_54 (c_Fo_add HX k5 (q := c1) (by omega)) (HX _ rfl).1 (HX _ rfl).2 rfl rfl rfl (Nat.le_of_ble_eq_true rfl) ⟨by simp <;> omega, by simp <;> omega⟩ ⟨rfl, rfl⟩ ⟨Nat.zero_le _, Nat.zero_le _⟩ (fun r72 F72 L72 hp72 => ?_)
              obtain ⟨rfl, rfl, m1, m2⟩ := hp72
              refine gx_iinc X d_Pa_passTerm_75 rfl (pu_inc _) ?_
              refine gx_goto X d_Pa_passTerm_78 (tgt := 12) (by decide) ?_
              rw [hc3] at hres
              refine gx_el (ih (i + 1) (t.2.1, addC (nI c1) t.2.2) F72 (by omega) ⟨k1.of (m2 2 (by decide) (by decide)) (m2 3 (by decide) (by decide)), by rw [m2 3 (by decide) (by decide)]; exact k2, by rw [m2 7 (by decide) (by decide)]; exact k3, k4, m1⟩ (fun a a4 a5 a7 => by rw [m2 a a4 a5]; exact hG2 a a4 a5 a7) hres) ⟨rfl, rfl, rfl, trivial⟩
            · have ht2 := cb_f h62
              rw [if_neg (by rw [ht2]; decide)] at hres
              refine gx_iconst X d_Pa_passTerm_65 (v := nI 0) (by decide) ?_
              refine gx_zret X hr (by first | rfl | decide) hA d_Pa_passTerm_66 (K _ _ _ ⟨by rw [hres]; rfl, rfl, by rw [hres]; exact f1, hG2⟩)
    refine gx_iconst X d_Pa_passTerm_10 (v := nI 0) (by decide) ?_
    refine gx_istore_n X d_Pa_passTerm_11 rfl (by decide) ?_
    exact gx_el (loop 24 0 _ F2 (by omega) g1 g2 hterm) ⟨rfl, rfl, rfl, trivial⟩
  · have ht := cb_f h5
    have hterm : ptTerm n ln (ptPart n ln d) q = (false, (ptPart n ln d q).2) := by
      unfold ptTerm
      rw [if_neg (by rw [ht]; decide)]
    refine gx_iconst X d_Pa_passTerm_8 (v := nI 0) (by decide) ?_
    refine gx_zret X hr (by first | rfl | decide) hA d_Pa_passTerm_9 (K _ _ _ ⟨by rw [hterm]; rfl, rfl, by rw [hterm]; exact g1, g2⟩)
theorem all_ok (HX : gH ks lay N sX) : ∀ d, d ≤ 4 → CP l D ca ks lay ad n ln d ∧ CT l D ca ks lay ad n ln d
  | 0, h => by
    have hp : CP l D ca ks lay ad n ln 0 := part_ok HX (by omega) (fun d' e => by omega)
    exact ⟨hp, term_ok HX (by omega) hp⟩
  | d + 1, h => by
    have ih := all_ok HX d (by omega)
    have hp : CP l D ca ks lay ad n ln (d + 1) := part_ok HX h (fun d' e => by
      have : d' = d := by omega
      rw [this]
      exact ih.2)
    exact ⟨hp, term_ok HX h hp⟩
theorem c_Pa_passTerm (HX : gH ks lay N sX) {q : pS} (hq : PaOK F n ln q) : Con l y_Pa_passTerm (Cond.code y_Pa_passTerm b_Pa_passTerm 4 (some .boolean) :: WT) (rmT 4) D vcl ca ks lay ad [xR 7, xI (nI 0)] F L (fun r F' L' => r = some (xI (cond (ptTerm n ln (ptPart n ln 4) q).1 1 0)) ∧ L' = L ∧ PaOK F' n ln (ptTerm n ln (ptPart n ln 4) q).2 ∧ ∀ a, a ≠ 4 → a ≠ 5 → a ≠ 7 → F' a = F a) := (all_ok HX 4 (by omega)).2 F L q hq
/-- readTerm(b): the rest of the line is a term, and its code is the formula -/
theorem c_Pa_readTerm (HX : gH ks lay N sX) (hL : LiOK F n) (h3 : F 3 = ln) {b : Nat} (hb : b ≤ 24) : Con l y_Pa_readTerm (Cond.code y_Pa_readTerm b_Pa_readTerm 2 (some .boolean) :: WT) rm_Pa_readTerm D vcl ca ks lay ad [xR 7, xI (nI b)] F L (fun r F' L' => r = some (xI (cond ((ptTerm n ln (ptPart n ln 4) (b, [])).1 && decide (lnAt n ln (ptTerm n ln (ptPart n ln 4) (b, [])).2.1 = 0)) 1 0)) ∧ L' = L ∧ FoOK F' (ptTerm n ln (ptPart n ln 4) (b, [])).2.2 ∧ ∀ a, a ≠ 4 → a ≠ 5 → a ≠ 7 → F' a = F a) := by
  refine Con.ofK (fun post K => ?_)
  refine Con.of (ls := [(0, xR 7), (1, xI (nI b))]) (by decide) rfl rfl (Nat.le_of_ble_eq_true rfl) ?_
  intro p e s m args below meth c A X hr hA
  refine gx_aload_n X d_Pa_readTerm_0 rfl rfl ?_
  refine gx_iload_n X d_Pa_readTerm_1 rfl rfl ?_
  refine gx_puti X d_Pa_readTerm_2 (gci in_Pa) (HX _ rfl).1 (HX _ rfl).2 rfl 2 (by decide) (gcw X lk_Pa_9) (fun _ h => h) t_Pa ty_Pa nm_Pa rfl (ty_Pa 2 (by decide)) rfl rfl rfl ?_
  refine gx_aload_n X d_Pa_readTerm_5 rfl rfl ?_
  refine gx_getr X d_Pa_readTerm_6 (gci in_Pa) (HX _ rfl).1 (HX _ rfl).2 rfl 1 (by decide) (gcw X lk_Pa_19) (fun _ h => h) rfl ?_
  refine gx_callV X d_Pa_readTerm_9 mf_Fo_begin lk_Pa_45 (c_Fo_begin HX) (HX _ rfl).1 (HX _ rfl).2 rfl rfl rfl (Nat.le_of_ble_eq_true rfl) ⟨by decide, by decide⟩ ⟨rfl, rfl⟩ ⟨Nat.zero_le _, Nat.zero_le _⟩ (fun r9 F9 L9 hp9 => ?_)
  obtain ⟨rfl, rfl, rfl⟩ := hp9
  refine gx_aload_n X d_Pa_readTerm_12 rfl rfl ?_
  refine gx_iconst X d_Pa_readTerm_13 (v := nI 0) (by decide) ?_
  have hq : PaOK (gxu (gxu F 7 2 (nI b)) 4 3 (nI 0)) n ln (b, []) := ⟨hL.of (by rw [gxu_cell (by decide), gxu_cell (by decide)]) (by rw [gxu_cell (by decide), gxu_cell (by decide)]), by rw [gxu_cell (by decide), gxu_cell (by decide)]; exact h3, by rw [gxu_cell (by decide)]; exact gxu_at, hb, FoOK.nil gxu_at⟩
  refine gx_callV X d_Pa_readTerm_14 mf_Pa_passTerm lk_Pa_48 (c_Pa_passTerm HX hq) (HX _ rfl).1 (HX _ rfl).2 rfl rfl rfl (Nat.le_of_ble_eq_true rfl) ⟨by decide, by decide⟩ ⟨rfl, rfl⟩ ⟨Nat.zero_le _, Nat.zero_le _⟩ (fun r14 F14 L14 hp14 => ?_)
  obtain ⟨rfl, rfl, g1, g2⟩ := hp14
  have g3 : ∀ a, a ≠ 4 → a ≠ 5 → a ≠ 7 → F14 a = F a := fun a a4 a5 a7 => by rw [g2 a a4 a5 a7, gxu_cell a4, gxu_cell a7]
  generalize ptTerm n ln (ptPart n ln 4) (b, []) = t at g1 K
  obtain ⟨k1, k2, k3, k4, k5⟩ := id g1
  refine gx_if_eq X d_Pa_readTerm_17 (tgt := 38) (by decide) (fun h17 => ?_) (fun h17 => ?_)
  · have ht := cb_f h17
    refine gx_iconst X d_Pa_readTerm_38 (v := nI 0) (by decide) ?_
    refine gx_zret X hr (by first | rfl | decide) hA d_Pa_readTerm_39 (K _ _ _ ⟨by rw [ht]; rfl, rfl, k5, g3⟩)
  · have ht := cb_t h17
    refine gx_aload_n X d_Pa_readTerm_20 rfl rfl ?_
    refine gx_getr X d_Pa_readTerm_21 (gci in_Pa) (HX _ rfl).1 (HX _ rfl).2 rfl 0 (by decide) (gcw X lk_Pa_15) (fun _ h => h) rfl ?_
    refine gx_aload_n X d_Pa_readTerm_24 rfl rfl ?_
    refine gx_geti X d_Pa_readTerm_25 (gci in_Pa) (HX _ rfl).1 (HX _ rfl).2 rfl 2 (by decide) (gcw X lk_Pa_9) (fun _ h => h) rfl ?_
    refine gx_top k3 ?_
    refine gx_callV X d_Pa_readTerm_28 mf_Li_at lk_Pa_23 (c_Li_at HX k1 (j := t.2.1) (by omega)) (HX _ rfl).1 (HX _ rfl).2 rfl rfl rfl (Nat.le_of_ble_eq_true rfl) ⟨by decide, by decide⟩ ⟨rfl, rfl⟩ ⟨Nat.zero_le _, Nat.zero_le _⟩ (fun r28 F28 L28 hp28 => ?_)
    obtain ⟨rfl, rfl, rfl⟩ := hp28
    rw [k2]
    refine gx_if_ne X d_Pa_readTerm_31 (tgt := 38) (by decide) (fun h31 => ?_) (fun h31 => ?_)
    · refine gx_iconst X d_Pa_readTerm_38 (v := nI 0) (by decide) ?_
      refine gx_zret X hr (by first | rfl | decide) hA d_Pa_readTerm_39 (K _ _ _ ⟨by rw [ht, decide_eq_false h31]; rfl, rfl, k5, g3⟩)
    · refine gx_iconst X d_Pa_readTerm_34 (v := nI 1) (by decide) ?_
      refine gx_goto X d_Pa_readTerm_35 (tgt := 39) (by decide) ?_
      refine gx_zret X hr (by first | rfl | decide) hA d_Pa_readTerm_39 (K _ _ _ ⟨by rw [ht, decide_eq_true h31]; rfl, rfl, k5, g3⟩)
/-- readAtom(b): the rest of the line is an atom, and its code is the formula -/
theorem c_Pa_readAtom (HX : gH ks lay N sX) (hL : LiOK F n) (h3 : F 3 = ln) {b : Nat} (hb : b ≤ 24) : Con l y_Pa_readAtom (Cond.code y_Pa_readAtom b_Pa_readAtom 3 (some .boolean) :: WT) rm_Pa_readAtom D vcl ca ks lay ad [xR 7, xI (nI b)] F L (fun r F' L' => r = some (xI (cond (ptAtom n ln b).1 1 0)) ∧ L' = L ∧ ((ptAtom n ln b).1 = true → FoOK F' (ptAtom n ln b).2) ∧ ∀ a, a ≠ 4 → a ≠ 5 → a ≠ 7 → F' a = F a) := by
  refine Con.ofK (fun post K => ?_)
  refine Con.of (ls := [(0, xR 7), (1, xI (nI b))]) (by decide) rfl rfl (Nat.le_of_ble_eq_true rfl) ?_
  intro p e s m args below meth c A X hr hA
  refine gx_aload_n X d_Pa_readAtom_0 rfl rfl ?_
  refine gx_iload_n X d_Pa_readAtom_1 rfl rfl ?_
  refine gx_puti X d_Pa_readAtom_2 (gci in_Pa) (HX _ rfl).1 (HX _ rfl).2 rfl 2 (by decide) (gcw X lk_Pa_9) (fun _ h => h) t_Pa ty_Pa nm_Pa rfl (ty_Pa 2 (by decide)) rfl rfl rfl ?_
  refine gx_aload_n X d_Pa_readAtom_5 rfl rfl ?_
  refine gx_getr X d_Pa_readAtom_6 (gci in_Pa) (HX _ rfl).1 (HX _ rfl).2 rfl 1 (by decide) (gcw X lk_Pa_19) (fun _ h => h) rfl ?_
  refine gx_callV X d_Pa_readAtom_9 mf_Fo_begin lk_Pa_45 (c_Fo_begin HX) (HX _ rfl).1 (HX _ rfl).2 rfl rfl rfl (Nat.le_of_ble_eq_true rfl) ⟨by decide, by decide⟩ ⟨rfl, rfl⟩ ⟨Nat.zero_le _, Nat.zero_le _⟩ (fun r9 F9 L9 hp9 => ?_)
  obtain ⟨rfl, rfl, rfl⟩ := hp9
  refine gx_aload_n X d_Pa_readAtom_12 rfl rfl ?_
  refine gx_iconst X d_Pa_readAtom_13 (v := nI 0) (by decide) ?_
  have hq : PaOK (gxu (gxu F 7 2 (nI b)) 4 3 (nI 0)) n ln (b, []) := ⟨hL.of (by rw [gxu_cell (by decide), gxu_cell (by decide)]) (by rw [gxu_cell (by decide), gxu_cell (by decide)]), by rw [gxu_cell (by decide), gxu_cell (by decide)]; exact h3, by rw [gxu_cell (by decide)]; exact gxu_at, hb, FoOK.nil gxu_at⟩
  have hn : n ≤ 24 := hL.1
  unfold ptAtom at K
  refine gx_callV X d_Pa_readAtom_14 mf_Pa_passTerm lk_Pa_48 (c_Pa_passTerm HX hq) (HX _ rfl).1 (HX _ rfl).2 rfl rfl rfl (Nat.le_of_ble_eq_true rfl) ⟨by decide, by decide⟩ ⟨rfl, rfl⟩ ⟨Nat.zero_le _, Nat.zero_le _⟩ (fun r14 F14 L14 hp14 => ?_)
  obtain ⟨rfl, rfl, g1, g2⟩ := hp14
  have g3 : ∀ a, a ≠ 4 → a ≠ 5 → a ≠ 7 → F14 a = F a := fun a a4 a5 a7 => by rw [g2 a a4 a5 a7, gxu_cell a4, gxu_cell a7]
  generalize ptTerm n ln (ptPart n ln 4) (b, []) = t at g1 K
  obtain ⟨k1, k2, k3, k4, k5⟩ := id g1
  refine gx_if_ne X d_Pa_readAtom_17 (tgt := 22) (by decide) (fun h17 => ?_) (fun h17 => ?_)
  · have ht := cb_t h17
    refine gx_aload_n X d_Pa_readAtom_22 rfl rfl ?_
    refine gx_getr X d_Pa_readAtom_23 (gci in_Pa) (HX _ rfl).1 (HX _ rfl).2 rfl 0 (by decide) (gcw X lk_Pa_15) (fun _ h => h) rfl ?_
    refine gx_aload_n X d_Pa_readAtom_26 rfl rfl ?_
    refine gx_geti X d_Pa_readAtom_27 (gci in_Pa) (HX _ rfl).1 (HX _ rfl).2 rfl 2 (by decide) (gcw X lk_Pa_9) (fun _ h => h) rfl ?_
    refine gx_top k3 ?_
    refine gx_callV X d_Pa_readAtom_30 mf_Li_at lk_Pa_23 (c_Li_at HX k1 (j := t.2.1) (by omega)) (HX _ rfl).1 (HX _ rfl).2 rfl rfl rfl (Nat.le_of_ble_eq_true rfl) ⟨by decide, by decide⟩ ⟨rfl, rfl⟩ ⟨Nat.zero_le _, Nat.zero_le _⟩ (fun r30 F30 L30 hp30 => ?_)
    obtain ⟨rfl, rfl, rfl⟩ := hp30
    rw [k2]
    refine gx_istore_n X d_Pa_readAtom_33 rfl (by decide) ?_
    refine gx_iload_n X d_Pa_readAtom_34 rfl rfl ?_
    refine gx_callS X d_Pa_readAtom_35 mf_Pa_isComparison lk_Pa_51 (c_Pa_isComparison (lnAt n ln t.2.1)) rfl rfl (Nat.le_of_ble_eq_true rfl) ⟨by decide, by decide⟩ ⟨rfl, rfl⟩ ⟨Nat.zero_le _, Nat.zero_le _⟩ (fun r35 F35 L35 hp35 => ?_)
    obtain ⟨rfl, rfl, rfl⟩ := hp35
    refine gx_if_ne X d_Pa_readAtom_38 (tgt := 43) (by decide) (fun h38 => ?_) (fun h38 => ?_)
    · have hc := cb_t h38
      obtain ⟨c1, hc1, hc2, hc3⟩ := isCmp_nI hc
      have hlt : t.2.1 < n := ln_nI hc3 (by omega) (by omega)
      rw [if_pos ⟨ht, hc⟩] at K
      refine gx_aload_n X d_Pa_readAtom_43 rfl rfl ?_
      refine gx_dup X d_Pa_readAtom_44 rfl ?_
      refine gx_geti X d_Pa_readAtom_45 (gci in_Pa) (HX _ rfl).1 (HX _ rfl).2 rfl 2 (by decide) (gcw X lk_Pa_9) (fun _ h => h) rfl ?_
      refine gx_top k3 ?_
      refine gx_iconst X d_Pa_readAtom_48 (v := nI 1) (by decide) ?_
      refine gx_iadd X d_Pa_readAtom_49 ?_
      refine gx_top (nI_add t.2.1 1) ?_
      refine gx_puti X d_Pa_readAtom_50 (gci in_Pa) (HX _ rfl).1 (HX _ rfl).2 rfl 2 (by decide) (gcw X lk_Pa_9) (fun _ h => h) t_Pa ty_Pa nm_Pa rfl (ty_Pa 2 (by decide)) rfl rfl rfl ?_
      refine gx_aload_n X d_Pa_readAtom_53 rfl rfl ?_
      refine gx_iconst X d_Pa_readAtom_54 (v := nI 0) (by decide) ?_
      refine gx_callV X d_Pa_readAtom_55 mf_Pa_passTerm lk_Pa_48 (c_Pa_passTerm HX (q := (t.2.1 + 1, t.2.2)) (g1.step (by omega))) (HX _ rfl).1 (HX _ rfl).2 rfl rfl rfl (Nat.le_of_ble_eq_true rfl) ⟨by decide, by decide⟩ ⟨rfl, rfl⟩ ⟨Nat.zero_le _, Nat.zero_le _⟩ (fun r55 F55 L55 hp55 => ?_)
      obtain ⟨rfl, rfl, f1, f2⟩ := hp55
      have f3 : ∀ a, a ≠ 4 → a ≠ 5 → a ≠ 7 → F55 a = F a := fun a a4 a5 a7 => by rw [f2 a a4 a5 a7, gxu_cell a7]; exact g3 a a4 a5 a7
      generalize ptTerm n ln (ptPart n ln 4) (t.2.1 + 1, t.2.2) = u at f1 K
      obtain ⟨u1, u2, u3, u4, u5⟩ := id f1
      refine gx_if_ne X d_Pa_readAtom_58 (tgt := 63) (by decide) (fun h58 => ?_) (fun h58 => ?_)
      · have hu := cb_t h58
        rw [if_pos hu] at K
        refine gx_aload_n X d_Pa_readAtom_63 rfl rfl ?_
        refine gx_getr X d_Pa_readAtom_64 (gci in_Pa) (HX _ rfl).1 (HX _ rfl).2 rfl 1 (by decide) (gcw X lk_Pa_19) (fun _ h => h) rfl ?_
        refine gx_iload_n X d_Pa_readAtom_67 rfl rfl ?_
        refine gx_top hc3 ?_
        refine gx_callV X d_Pa_readAtom_68 mf_Fo_add lk_Pa_54 (c_Fo_add HX u5 (q := c1) (by omega)) (HX _ rfl).1 (HX _ rfl).2 rfl rfl rfl (Nat.le_of_ble_eq_true rfl) ⟨by decide, by decide⟩ ⟨rfl, rfl⟩ ⟨Nat.zero_le _, Nat.zero_le _⟩ (fun r68 F68 L68 hp68 => ?_)
        obtain ⟨rfl, rfl, m1, m2⟩ := hp68
        have m3 : ∀ a, a ≠ 4 → a ≠ 5 → a ≠ 7 → F68 a = F a := fun a a4 a5 a7 => by rw [m2 a a4 a5]; exact f3 a a4 a5 a7
        rw [hc3] at K
        refine gx_aload_n X d_Pa_readAtom_71 rfl rfl ?_
        refine gx_getr X d_Pa_readAtom_72 (gci in_Pa) (HX _ rfl).1 (HX _ rfl).2 rfl 0 (by decide) (gcw X lk_Pa_15) (fun _ h => h) rfl ?_
        refine gx_aload_n X d_Pa_readAtom_75 rfl rfl ?_
        refine gx_geti X d_Pa_readAtom_76 (gci in_Pa) (HX _ rfl).1 (HX _ rfl).2 rfl 2 (by decide) (gcw X lk_Pa_9) (fun _ h => h) rfl ?_
        refine gx_top (y := nI u.2.1) (by rw [m2 7 (by decide) (by decide)]; exact u3) ?_
        refine gx_callV X d_Pa_readAtom_79 mf_Li_at lk_Pa_23 (c_Li_at HX (u1.of (m2 2 (by decide) (by decide)) (m2 3 (by decide) (by decide))) (j := u.2.1) (by omega)) (HX _ rfl).1 (HX _ rfl).2 rfl rfl rfl (Nat.le_of_ble_eq_true rfl) ⟨by decide, by decide⟩ ⟨rfl, rfl⟩ ⟨Nat.zero_le _, Nat.zero_le _⟩ (fun r79 F79 L79 hp79 => ?_)
        obtain ⟨rfl, rfl, rfl⟩ := hp79
        rw [m2 3 (by decide) (by decide), u2]
        refine gx_if_ne X d_Pa_readAtom_82 (tgt := 89) (by decide) (fun h82 => ?_) (fun h82 => ?_)
        · refine gx_iconst X d_Pa_readAtom_89 (v := nI 0) (by decide) ?_
          refine gx_zret X hr (by first | rfl | decide) hA d_Pa_readAtom_90 (K _ _ _ ⟨by simp only; rw [decide_eq_false h82]; rfl, rfl, fun _ => m1, m3⟩)
        · refine gx_iconst X d_Pa_readAtom_85 (v := nI 1) (by decide) ?_
          refine gx_goto X d_Pa_readAtom_86 (tgt := 90) (by decide) ?_
          refine gx_zret X hr (by first | rfl | decide) hA d_Pa_readAtom_90 (K _ _ _ ⟨by simp only; rw [decide_eq_true h82]; rfl, rfl, fun _ => m1, m3⟩)
      · have hu := cb_f h58
        rw [if_neg (by rw [hu]; decide)] at K
        refine gx_iconst X d_Pa_readAtom_61 (v := nI 0) (by decide) ?_
        refine gx_zret X hr (by first | rfl | decide) hA d_Pa_readAtom_62 (K _ _ _ ⟨rfl, rfl, fun z => absurd z (by decide), f3⟩)
    · have hc := cb_f h38
      rw [if_neg (by rw [hc]; exact fun z => absurd z.2 (by decide))] at K
      refine gx_iconst X d_Pa_readAtom_41 (v := nI 0) (by decide) ?_
      refine gx_zret X hr (by first | rfl | decide) hA d_Pa_readAtom_42 (K _ _ _ ⟨rfl, rfl, fun z => absurd z (by decide), g3⟩)
  · have ht := cb_f h17
    rw [if_neg (by rw [ht]; exact fun z => absurd z.1 (by decide))] at K
    refine gx_iconst X d_Pa_readAtom_20 (v := nI 0) (by decide) ?_
    refine gx_zret X hr (by first | rfl | decide) hA d_Pa_readAtom_21 (K _ _ _ ⟨rfl, rfl, fun z => absurd z (by decide), g3⟩)
/-- the kind of the edge that the line is (0 a test, 1 a setting, 2 an input), and its code -/
def rdEdge (n : Nat) (f : Nat → Int32) : Option (Nat × List Int32) :=
  if isLoc (lnAt n f 0) = true ∧ isLoc (lnAt n f 1) = true ∧ lnAt n f 2 = nI 32 then
    (if isVar (lnAt n f 3) = true ∧ lnAt n f 4 = nI 63 then (if lnAt n f 5 = 0 then some (2, []) else none)
    else if isVar (lnAt n f 3) = true ∧ lnAt n f 4 = nI 58 then
      (if ((ptTerm n f (ptPart n f 4) (5, [])).1 && decide (lnAt n f (ptTerm n f (ptPart n f 4) (5, [])).2.1 = 0)) = true then some (1, (ptTerm n f (ptPart n f 4) (5, [])).2.2) else none)
    else if (ptAtom n f 3).1 = true then some (0, (ptAtom n f 3).2) else none)
  else none
def kdI (o : Option (Nat × List Int32)) : Int32 := match o with
  | some q => nI q.1
  | none => -1
set_option maxHeartbeats 4000000 in
theorem c_Pa_readEdge (HX : gH ks lay N sX) (hL : LiOK F n) (h3 : F 3 = ln) : Con l y_Pa_readEdge (Cond.code y_Pa_readEdge b_Pa_readEdge 1 (some .int) :: WT) rm_Pa_readEdge D vcl ca ks lay ad [xR 7] F L (fun r F' L' => r = some (xI (kdI (rdEdge n ln))) ∧ L' = L ∧ (∀ k code, rdEdge n ln = some (k, code) → k ≠ 2 → FoOK F' code) ∧ ∀ a, a ≠ 4 → a ≠ 5 → a ≠ 7 → F' a = F a) := by
  refine Con.ofK (fun post K => ?_)
  refine Con.of (ls := [(0, xR 7)]) (by decide) rfl rfl (Nat.le_of_ble_eq_true rfl) ?_
  intro p e s m args below meth c A X hr hA
  have hno : ¬ (isLoc (lnAt n ln 0) = true ∧ isLoc (lnAt n ln 1) = true ∧ lnAt n ln 2 = nI 32) → GX p l e rm_Pa_readEdge s m args below meth c (MQ below (gxQ D vcl ca ks lay ad s.heap.size post) args s 0 0 (gxA ks ad s.heap.size)) 1 A D vcl ca ks lay ad 0 0 41 [(0, xR 7)] [] F L := by
    intro h
    have e : rdEdge n ln = none := by unfold rdEdge; rw [if_neg h]
    refine gx_iconst X d_Pa_readEdge_41 (v := (-1)) (by decide) ?_
    refine gx_iret X hr hA d_Pa_readEdge_42 (K _ _ _ ⟨by rw [e]; rfl, rfl, fun k code z => (by rw [e] at z; cases z), fun _ _ _ _ => rfl⟩)
  refine gx_aload_n X d_Pa_readEdge_0 rfl rfl ?_
  refine gx_getr X d_Pa_readEdge_1 (gci in_Pa) (HX _ rfl).1 (HX _ rfl).2 rfl 0 (by decide) (gcw X lk_Pa_15) (fun _ h => h) rfl ?_
  refine gx_iconst X d_Pa_readEdge_4 (v := nI 0) (by decide) ?_
  refine gx_callV X d_Pa_readEdge_5 mf_Li_at lk_Pa_23 (c_Li_at HX hL (j := 0) (by omega)) (HX _ rfl).1 (HX _ rfl).2 rfl rfl rfl (Nat.le_of_ble_eq_true rfl) ⟨by decide, by decide⟩ ⟨rfl, rfl⟩ ⟨Nat.zero_le _, Nat.zero_le _⟩ (fun r5 F5 L5 hp5 => ?_)
  obtain ⟨rfl, rfl, rfl⟩ := hp5
  rw [h3]
  refine gx_callS X d_Pa_readEdge_8 mf_Pa_isLocation lk_Pa_29 (c_Pa_isLocation (lnAt n ln 0)) rfl rfl (Nat.le_of_ble_eq_true rfl) ⟨by decide, by decide⟩ ⟨rfl, rfl⟩ ⟨Nat.zero_le _, Nat.zero_le _⟩ (fun r8 F8 L8 hp8 => ?_)
  obtain ⟨rfl, rfl, rfl⟩ := hp8
  refine gx_if_eq X d_Pa_readEdge_11 (tgt := 41) (by decide) (fun h11 => ?_) (fun h11 => ?_)
  · exact hno (fun z => by rw [cb_f h11] at z; exact absurd z.1 (by decide))
  have l0 := cb_t h11
  refine gx_aload_n X d_Pa_readEdge_14 rfl rfl ?_
  refine gx_getr X d_Pa_readEdge_15 (gci in_Pa) (HX _ rfl).1 (HX _ rfl).2 rfl 0 (by decide) (gcw X lk_Pa_15) (fun _ h => h) rfl ?_
  refine gx_iconst X d_Pa_readEdge_18 (v := nI 1) (by decide) ?_
  refine gx_callV X d_Pa_readEdge_19 mf_Li_at lk_Pa_23 (c_Li_at HX hL (j := 1) (by omega)) (HX _ rfl).1 (HX _ rfl).2 rfl rfl rfl (Nat.le_of_ble_eq_true rfl) ⟨by decide, by decide⟩ ⟨rfl, rfl⟩ ⟨Nat.zero_le _, Nat.zero_le _⟩ (fun r19 F19 L19 hp19 => ?_)
  obtain ⟨rfl, rfl, rfl⟩ := hp19
  rw [h3]
  refine gx_callS X d_Pa_readEdge_22 mf_Pa_isLocation lk_Pa_29 (c_Pa_isLocation (lnAt n ln 1)) rfl rfl (Nat.le_of_ble_eq_true rfl) ⟨by decide, by decide⟩ ⟨rfl, rfl⟩ ⟨Nat.zero_le _, Nat.zero_le _⟩ (fun r22 F22 L22 hp22 => ?_)
  obtain ⟨rfl, rfl, rfl⟩ := hp22
  refine gx_if_eq X d_Pa_readEdge_25 (tgt := 41) (by decide) (fun h25 => ?_) (fun h25 => ?_)
  · exact hno (fun z => by rw [cb_f h25] at z; exact absurd z.2.1 (by decide))
  have l1 := cb_t h25
  refine gx_aload_n X d_Pa_readEdge_28 rfl rfl ?_
  refine gx_getr X d_Pa_readEdge_29 (gci in_Pa) (HX _ rfl).1 (HX _ rfl).2 rfl 0 (by decide) (gcw X lk_Pa_15) (fun _ h => h) rfl ?_
  refine gx_iconst X d_Pa_readEdge_32 (v := nI 2) (by decide) ?_
  refine gx_callV X d_Pa_readEdge_33 mf_Li_at lk_Pa_23 (c_Li_at HX hL (j := 2) (by omega)) (HX _ rfl).1 (HX _ rfl).2 rfl rfl rfl (Nat.le_of_ble_eq_true rfl) ⟨by decide, by decide⟩ ⟨rfl, rfl⟩ ⟨Nat.zero_le _, Nat.zero_le _⟩ (fun r33 F33 L33 hp33 => ?_)
  obtain ⟨rfl, rfl, rfl⟩ := hp33
  rw [h3]
  refine gx_bipush X d_Pa_readEdge_36 (v := nI 32) (by decide) ?_
  refine gx_icmp_eq X d_Pa_readEdge_38 (tgt := 43) (by decide) (fun h38 => ?_) (fun h38 => ?_)
  · have hhead : rdEdge n ln = (if isVar (lnAt n ln 3) = true ∧ lnAt n ln 4 = nI 63 then (if lnAt n ln 5 = 0 then some (2, []) else none)
      else if isVar (lnAt n ln 3) = true ∧ lnAt n ln 4 = nI 58 then
        (if ((ptTerm n ln (ptPart n ln 4) (5, [])).1 && decide (lnAt n ln (ptTerm n ln (ptPart n ln 4) (5, [])).2.1 = 0)) = true then some (1, (ptTerm n ln (ptPart n ln 4) (5, [])).2.2) else none)
      else if (ptAtom n ln 3).1 = true then some (0, (ptAtom n ln 3).2) else none) := by
      unfold rdEdge
      rw [if_pos ⟨l0, l1, h38⟩]
    have hatom : ¬ (isVar (lnAt n ln 3) = true ∧ lnAt n ln 4 = nI 63) → ¬ (isVar (lnAt n ln 3) = true ∧ lnAt n ln 4 = nI 58) → GX p l e rm_Pa_readEdge s m args below meth c (MQ below (gxQ D vcl ca ks lay ad s.heap.size post) args s 0 0 (gxA ks ad s.heap.size)) 1 A D vcl ca ks lay ad 0 0 128 [(0, xR 7)] [] F33 L33 := by
      intro g1 g2
      rw [if_neg g1, if_neg g2] at hhead
      refine gx_aload_n X d_Pa_readEdge_128 rfl rfl ?_
      refine gx_iconst X d_Pa_readEdge_129 (v := nI 3) (by decide) ?_
      refine gx_callV X d_Pa_readEdge_130 mf_Pa_readAtom lk_Pa_42 (c_Pa_readAtom HX hL h3 (b := 3) (by omega)) (HX _ rfl).1 (HX _ rfl).2 rfl rfl rfl (Nat.le_of_ble_eq_true rfl) ⟨by decide, by decide⟩ ⟨rfl, rfl⟩ ⟨Nat.zero_le _, Nat.zero_le _⟩ (fun r130 F130 L130 hp130 => ?_)
      obtain ⟨rfl, rfl, f1, f2⟩ := hp130
      refine gx_if_eq X d_Pa_readEdge_133 (tgt := 140) (by decide) (fun h133 => ?_) (fun h133 => ?_)
      · rw [if_neg (by rw [cb_f h133]; decide)] at hhead
        refine gx_iconst X d_Pa_readEdge_140 (v := (-1)) (by decide) ?_
        refine gx_iret X hr hA d_Pa_readEdge_141 (K _ _ _ ⟨by rw [hhead]; rfl, rfl, fun k code z => (by rw [hhead] at z; cases z), f2⟩)
      · rw [if_pos (cb_t h133)] at hhead
        refine gx_iconst X d_Pa_readEdge_136 (v := nI 0) (by decide) ?_
        refine gx_goto X d_Pa_readEdge_137 (tgt := 141) (by decide) ?_
        refine gx_iret X hr hA d_Pa_readEdge_141 (K _ _ _ ⟨by rw [hhead]; rfl, rfl, fun k code z _ => by rw [hhead] at z; cases z; exact f1 (cb_t h133), f2⟩)
    have hset : ¬ (isVar (lnAt n ln 3) = true ∧ lnAt n ln 4 = nI 63) → GX p l e rm_Pa_readEdge s m args below meth c (MQ below (gxQ D vcl ca ks lay ad s.heap.size post) args s 0 0 (gxA ks ad s.heap.size)) 1 A D vcl ca ks lay ad 0 0 87 [(0, xR 7)] [] F33 L33 := by
      intro g1
      refine gx_aload_n X d_Pa_readEdge_87 rfl rfl ?_
      refine gx_getr X d_Pa_readEdge_88 (gci in_Pa) (HX _ rfl).1 (HX _ rfl).2 rfl 0 (by decide) (gcw X lk_Pa_15) (fun _ h => h) rfl ?_
      refine gx_iconst X d_Pa_readEdge_91 (v := nI 3) (by decide) ?_
      refine gx_callV X d_Pa_readEdge_92 mf_Li_at lk_Pa_23 (c_Li_at HX hL (j := 3) (by omega)) (HX _ rfl).1 (HX _ rfl).2 rfl rfl rfl (Nat.le_of_ble_eq_true rfl) ⟨by decide, by decide⟩ ⟨rfl, rfl⟩ ⟨Nat.zero_le _, Nat.zero_le _⟩ (fun r92 F92 L92 hp92 => ?_)
      obtain ⟨rfl, rfl, rfl⟩ := hp92
      rw [h3]
      refine gx_callS X d_Pa_readEdge_95 mf_Fo_isVariable lk_Pa_33 (c_Fo_isVariable (lnAt n ln 3)) rfl rfl (Nat.le_of_ble_eq_true rfl) ⟨by decide, by decide⟩ ⟨rfl, rfl⟩ ⟨Nat.zero_le _, Nat.zero_le _⟩ (fun r95 F95 L95 hp95 => ?_)
      obtain ⟨rfl, rfl, rfl⟩ := hp95
      refine gx_if_eq X d_Pa_readEdge_98 (tgt := 128) (by decide) (fun h98 => ?_) (fun h98 => ?_)
      · exact hatom g1 (fun z => by rw [cb_f h98] at z; exact absurd z.1 (by decide))
      have v3 := cb_t h98
      refine gx_aload_n X d_Pa_readEdge_101 rfl rfl ?_
      refine gx_getr X d_Pa_readEdge_102 (gci in_Pa) (HX _ rfl).1 (HX _ rfl).2 rfl 0 (by decide) (gcw X lk_Pa_15) (fun _ h => h) rfl ?_
      refine gx_iconst X d_Pa_readEdge_105 (v := nI 4) (by decide) ?_
      refine gx_callV X d_Pa_readEdge_106 mf_Li_at lk_Pa_23 (c_Li_at HX hL (j := 4) (by omega)) (HX _ rfl).1 (HX _ rfl).2 rfl rfl rfl (Nat.le_of_ble_eq_true rfl) ⟨by decide, by decide⟩ ⟨rfl, rfl⟩ ⟨Nat.zero_le _, Nat.zero_le _⟩ (fun r106 F106 L106 hp106 => ?_)
      obtain ⟨rfl, rfl, rfl⟩ := hp106
      rw [h3]
      refine gx_bipush X d_Pa_readEdge_109 (v := nI 58) (by decide) ?_
      refine gx_icmp_ne X d_Pa_readEdge_111 (tgt := 128) (by decide) (fun h111 => ?_) (fun h111 => ?_)
      · exact hatom g1 (fun z => h111 z.2)
      · rw [if_neg g1, if_pos ⟨v3, h111⟩] at hhead
        refine gx_aload_n X d_Pa_readEdge_114 rfl rfl ?_
        refine gx_iconst X d_Pa_readEdge_115 (v := nI 5) (by decide) ?_
        refine gx_callV X d_Pa_readEdge_116 mf_Pa_readTerm lk_Pa_38 (c_Pa_readTerm HX hL h3 (b := 5) (by omega)) (HX _ rfl).1 (HX _ rfl).2 rfl rfl rfl (Nat.le_of_ble_eq_true rfl) ⟨by decide, by decide⟩ ⟨rfl, rfl⟩ ⟨Nat.zero_le _, Nat.zero_le _⟩ (fun r116 F116 L116 hp116 => ?_)
        obtain ⟨rfl, rfl, f1, f2⟩ := hp116
        refine gx_if_eq X d_Pa_readEdge_119 (tgt := 126) (by decide) (fun h119 => ?_) (fun h119 => ?_)
        · rw [if_neg (by rw [cb_f h119]; decide)] at hhead
          refine gx_iconst X d_Pa_readEdge_126 (v := (-1)) (by decide) ?_
          refine gx_iret X hr hA d_Pa_readEdge_127 (K _ _ _ ⟨by rw [hhead]; rfl, rfl, fun k code z => (by rw [hhead] at z; cases z), f2⟩)
        · rw [if_pos (cb_t h119)] at hhead
          refine gx_iconst X d_Pa_readEdge_122 (v := nI 1) (by decide) ?_
          refine gx_goto X d_Pa_readEdge_123 (tgt := 127) (by decide) ?_
          refine gx_iret X hr hA d_Pa_readEdge_127 (K _ _ _ ⟨by rw [hhead]; rfl, rfl, fun k code z _ => by rw [hhead] at z; cases z; exact f1, f2⟩)
    refine gx_aload_n X d_Pa_readEdge_43 rfl rfl ?_
    refine gx_getr X d_Pa_readEdge_44 (gci in_Pa) (HX _ rfl).1 (HX _ rfl).2 rfl 0 (by decide) (gcw X lk_Pa_15) (fun _ h => h) rfl ?_
    refine gx_iconst X d_Pa_readEdge_47 (v := nI 3) (by decide) ?_
    refine gx_callV X d_Pa_readEdge_48 mf_Li_at lk_Pa_23 (c_Li_at HX hL (j := 3) (by omega)) (HX _ rfl).1 (HX _ rfl).2 rfl rfl rfl (Nat.le_of_ble_eq_true rfl) ⟨by decide, by decide⟩ ⟨rfl, rfl⟩ ⟨Nat.zero_le _, Nat.zero_le _⟩ (fun r48 F48 L48 hp48 => ?_)
    obtain ⟨rfl, rfl, rfl⟩ := hp48
    rw [h3]
    refine gx_callS X d_Pa_readEdge_51 mf_Fo_isVariable lk_Pa_33 (c_Fo_isVariable (lnAt n ln 3)) rfl rfl (Nat.le_of_ble_eq_true rfl) ⟨by decide, by decide⟩ ⟨rfl, rfl⟩ ⟨Nat.zero_le _, Nat.zero_le _⟩ (fun r51 F51 L51 hp51 => ?_)
    obtain ⟨rfl, rfl, rfl⟩ := hp51
    refine gx_if_eq X d_Pa_readEdge_54 (tgt := 87) (by decide) (fun h54 => ?_) (fun h54 => ?_)
    · exact hset (fun z => by rw [cb_f h54] at z; exact absurd z.1 (by decide))
    have v3 := cb_t h54
    refine gx_aload_n X d_Pa_readEdge_57 rfl rfl ?_
    refine gx_getr X d_Pa_readEdge_58 (gci in_Pa) (HX _ rfl).1 (HX _ rfl).2 rfl 0 (by decide) (gcw X lk_Pa_15) (fun _ h => h) rfl ?_
    refine gx_iconst X d_Pa_readEdge_61 (v := nI 4) (by decide) ?_
    refine gx_callV X d_Pa_readEdge_62 mf_Li_at lk_Pa_23 (c_Li_at HX hL (j := 4) (by omega)) (HX _ rfl).1 (HX _ rfl).2 rfl rfl rfl (Nat.le_of_ble_eq_true rfl) ⟨by decide, by decide⟩ ⟨rfl, rfl⟩ ⟨Nat.zero_le _, Nat.zero_le _⟩ (fun r62 F62 L62 hp62 => ?_)
    obtain ⟨rfl, rfl, rfl⟩ := hp62
    rw [h3]
    refine gx_bipush X d_Pa_readEdge_65 (v := nI 63) (by decide) ?_
    refine gx_icmp_ne X d_Pa_readEdge_67 (tgt := 87) (by decide) (fun h67 => ?_) (fun h67 => ?_)
    · exact hset (fun z => h67 z.2)
    · rw [if_pos ⟨v3, h67⟩] at hhead
      refine gx_aload_n X d_Pa_readEdge_70 rfl rfl ?_
      refine gx_getr X d_Pa_readEdge_71 (gci in_Pa) (HX _ rfl).1 (HX _ rfl).2 rfl 0 (by decide) (gcw X lk_Pa_15) (fun _ h => h) rfl ?_
      refine gx_iconst X d_Pa_readEdge_74 (v := nI 5) (by decide) ?_
      refine gx_callV X d_Pa_readEdge_75 mf_Li_at lk_Pa_23 (c_Li_at HX hL (j := 5) (by omega)) (HX _ rfl).1 (HX _ rfl).2 rfl rfl rfl (Nat.le_of_ble_eq_true rfl) ⟨by decide, by decide⟩ ⟨rfl, rfl⟩ ⟨Nat.zero_le _, Nat.zero_le _⟩ (fun r75 F75 L75 hp75 => ?_)
      obtain ⟨rfl, rfl, rfl⟩ := hp75
      rw [h3]
      refine gx_if_ne X d_Pa_readEdge_78 (tgt := 85) (by decide) (fun h78 => ?_) (fun h78 => ?_)
      · rw [if_neg h78] at hhead
        refine gx_iconst X d_Pa_readEdge_85 (v := (-1)) (by decide) ?_
        refine gx_iret X hr hA d_Pa_readEdge_86 (K _ _ _ ⟨by rw [hhead]; rfl, rfl, fun k code z => (by rw [hhead] at z; cases z), fun _ _ _ _ => rfl⟩)
      · rw [if_pos h78] at hhead
        refine gx_iconst X d_Pa_readEdge_81 (v := nI 2) (by decide) ?_
        refine gx_goto X d_Pa_readEdge_82 (tgt := 86) (by decide) ?_
        refine gx_iret X hr hA d_Pa_readEdge_86 (K _ _ _ ⟨by rw [hhead]; rfl, rfl, fun k code z z2 => by rw [hhead] at z; cases z; exact absurd rfl z2, fun _ _ _ _ => rfl⟩)
  · exact hno (fun z => h38 z.2.2)
end
end
section
section
variable {l : Launch} {D : va_G} {ca : Nat → ClassId} {ks : List Nat} {lay : Nat → gxE} {ad : Nat → Nat} {F : Nat → Nat → Int32} {L : Nat → Nat → Int64} {n w : Nat} {ln : Nat → Int32}
def tgI (o : Option Nat) : Int32 := match o with
  | some t => nI t
  | none => -1
def stp (w : Nat) (ek ev : Nat → Nat) (tg : Nat → Nat → Option Nat) (e s x : Nat) : Option Nat := if ek e = 2 then some (wr w s (ev e) x) else tg e s
def chs (w : Nat) (ek : Nat → Nat) (e : Nat) : Nat := if ek e = 2 then 2 ^ w else 1
/-- the edges: from, to, kind (0 a test, 1 a setting, 2 an input), variable, and where each leads from a state -/
def PrOK (F : Nat → Nat → Int32) (w ne : Nat) (ef et ek ev : Nat → Nat) (tg : Nat → Nat → Option Nat) : Prop :=
  ne ≤ 20 ∧ F 8 6 = nI ne ∧ ∀ e, e < ne → (F 9 e = nI (ef e) ∧ ef e < 12) ∧ (F 10 e = nI (et e) ∧ et e < 12) ∧ (F 11 e = nI (ek e) ∧ ek e < 3) ∧ (F 12 e = nI (ev e) ∧ ev e < 3) ∧
    ∀ s, s < 2 ^ (3 * w) → F (rT e) s = tgI (tg e s) ∧ (∀ t, tg e s = some t → t < 2 ^ (3 * w)) ∧ (ek e = 2 → tg e s = some (wr w s (ev e) 0)) ∧ (ek e = 1 → ∃ t, tg e s = some t) ∧ (ek e = 0 → tg e s = none ∨ tg e s = some s)
variable {ne : Nat} {ef et ek ev : Nat → Nat} {tg : Nat → Nat → Option Nat}
theorem PrOK.of {G : Nat → Nat → Int32} (h : PrOK F w ne ef et ek ev tg) (hG : ∀ a, (8 ≤ a ∧ a ≤ 12) ∨ (100 ≤ a ∧ a < 120) → G a = F a) : PrOK G w ne ef et ek ev tg := by
  obtain ⟨h1, h2, h3⟩ := h
  refine ⟨h1, by rw [hG 8 (by omega)]; exact h2, fun e he => ?_⟩
  rw [hG 9 (by omega), hG 10 (by omega), hG 11 (by omega), hG 12 (by omega), hG (rT e) (by unfold rT; omega)]
  exact h3 e he
theorem c_Pr_isFull (HX : gH ks lay (2 ^ (3 * w)) sX) (hP : PrOK F w ne ef et ek ev tg) : Con l y_Pr_isFull (Cond.code y_Pr_isFull b_Pr_isFull 1 (some .boolean) :: WT) rm_Pr_isFull D vcl ca ks lay ad [xR 8] F L (fun r F' L' => r = some (xI (cond (decide (20 ≤ ne)) 1 0)) ∧ F' = F ∧ L' = L) := by
  have h20 := hP.1
  refine Con.ofK (fun post K => ?_)
  refine Con.of (ls := [(0, xR 8)]) (by decide) rfl rfl (Nat.le_of_ble_eq_true rfl) ?_
  intro p e s m args below meth c A X hr hA
  refine gx_aload_n X d_Pr_isFull_0 rfl rfl ?_
  refine gx_geti X d_Pr_isFull_1 (gci in_Pr) (HX _ rfl).1 (HX _ rfl).2 rfl 6 (by decide) (gcw X lk_Pr_24) (fun _ h => h) rfl ?_
  refine gx_top hP.2.1 ?_
  refine gx_bipush X d_Pr_isFull_4 (v := nI 20) (by decide) ?_
  refine gx_icmp_lt X d_Pr_isFull_6 (tgt := 13) (by decide) (fun h6 => ?_) (fun h6 => ?_)
  · have : ne < 20 := (nI_ltI (by omega) (by decide)).mp h6
    refine gx_iconst X d_Pr_isFull_13 (v := nI 0) (by decide) ?_
    refine gx_zret X hr (by first | rfl | decide) hA d_Pr_isFull_14 (K _ _ _ ⟨by rw [decide_eq_false (by omega)]; rfl, rfl, rfl⟩)
  · have : ¬ ne < 20 := fun z => h6 ((nI_ltI (by omega) (by decide)).mpr z)
    refine gx_iconst X d_Pr_isFull_9 (v := nI 1) (by decide) ?_
    refine gx_goto X d_Pr_isFull_10 (tgt := 14) (by decide) ?_
    refine gx_zret X hr (by first | rfl | decide) hA d_Pr_isFull_14 (K _ _ _ ⟨by rw [decide_eq_true (by omega)]; rfl, rfl, rfl⟩)
theorem c_Pr_choices (HX : gH ks lay (2 ^ (3 * w)) sX) (hS : SpOK F w) (hP : PrOK F w ne ef et ek ev tg) {e0 : Nat} (he : e0 < ne) : Con l y_Pr_choices (Cond.code y_Pr_choices b_Pr_choices 2 (some .int) :: WT) rm_Pr_choices D vcl ca ks lay ad [xR 8, xI (nI e0)] F L (fun r F' L' => r = some (xI (nI (chs w ek e0))) ∧ F' = F ∧ L' = L) := by
  have h20 := hP.1
  obtain ⟨-, -, ⟨k1, k2⟩, -⟩ := hP.2.2 e0 he
  refine Con.ofK (fun post K => ?_)
  refine Con.of (ls := [(0, xR 8), (1, xI (nI e0))]) (by decide) rfl rfl (Nat.le_of_ble_eq_true rfl) ?_
  intro p e s m args below meth c A X hr hA
  refine gx_aload_n X d_Pr_choices_0 rfl rfl ?_
  refine gx_getr X d_Pr_choices_1 (gci in_Pr) (HX _ rfl).1 (HX _ rfl).2 rfl 3 (by decide) (gcw X lk_Pr_18) (fun _ h => h) rfl ?_
  refine gx_iload_n X d_Pr_choices_4 rfl rfl ?_
  refine gx_iald X d_Pr_choices_5 (HX _ rfl).1 (HX _ rfl).2 rfl (by omega) (by omega) ?_
  refine gx_top k1 ?_
  refine gx_iconst X d_Pr_choices_6 (v := nI 2) (by decide) ?_
  refine gx_icmp_ne X d_Pr_choices_7 (tgt := 22) (by decide) (fun h7 => ?_) (fun h7 => ?_)
  · have hk : ¬ ek e0 = 2 := fun z => h7 (by rw [z])
    refine gx_iconst X d_Pr_choices_22 (v := nI 1) (by decide) ?_
    refine gx_iret X hr hA d_Pr_choices_23 (K _ _ _ ⟨by unfold chs; rw [if_neg hk], rfl, rfl⟩)
  · have hk : ek e0 = 2 := (nI_eq (by omega) (by decide)).mp h7
    refine gx_aload_n X d_Pr_choices_10 rfl rfl ?_
    refine gx_getr X d_Pr_choices_11 (gci in_Pr) (HX _ rfl).1 (HX _ rfl).2 rfl 0 (by decide) (gcw X lk_Pr_28) (fun _ h => h) rfl ?_
    refine gx_geti X d_Pr_choices_14 (gci in_Sp) (HX _ rfl).1 (HX _ rfl).2 rfl 1 (by decide) (gcw X lk_Pr_62) (fun _ h => h) rfl ?_
    refine gx_top hS.2.2.1 ?_
    refine gx_iconst X d_Pr_choices_17 (v := nI 1) (by decide) ?_
    refine gx_iadd X d_Pr_choices_18 ?_
    refine gx_top (y := nI (2 ^ w)) (by rw [nI_add]; congr 1; have := Nat.two_pow_pos w; omega) ?_
    refine gx_goto X d_Pr_choices_19 (tgt := 23) (by decide) ?_
    refine gx_iret X hr hA d_Pr_choices_23 (K _ _ _ ⟨by unfold chs; rw [if_pos hk], rfl, rfl⟩)
theorem c_Pr_step (HX : gH ks lay (2 ^ (3 * w)) sX) (hS : SpOK F w) (hP : PrOK F w ne ef et ek ev tg) {e0 q : Nat} (he : e0 < ne) (hq : q < 2 ^ (3 * w)) (x : Int32) : Con l y_Pr_step (Cond.code y_Pr_step b_Pr_step 5 (some .int) :: WT) rm_Pr_step D vcl ca ks lay ad [xR 8, xI (nI e0), xI (nI q), xI x] F L (fun r F' L' => r = some (xI (tgI (stp w ek ev tg e0 q x.toBitVec.toNat))) ∧ F' = F ∧ L' = L) := by
  have h20 := hP.1
  obtain ⟨-, -, ⟨k1, k2⟩, ⟨v1, v2⟩, ht⟩ := hP.2.2 e0 he
  obtain ⟨t1, t2, t3, -⟩ := ht q hq
  have hw : w < 4 := by have := hS.1; omega
  have hN := pu_N w hw
  refine Con.ofK (fun post K => ?_)
  refine Con.of (ls := [(0, xR 8), (1, xI (nI e0)), (2, xI (nI q)), (3, xI x)]) (by decide) rfl rfl (Nat.le_of_ble_eq_true rfl) ?_
  intro p e s m args below meth c A X hr hA
  refine gx_aload_n X d_Pr_step_0 rfl rfl ?_
  refine gx_getr X d_Pr_step_1 (gci in_Pr) (HX _ rfl).1 (HX _ rfl).2 rfl 5 (by decide) (gcw X lk_Pr_39) (fun _ h => h) rfl ?_
  refine gx_iload_n X d_Pr_step_4 rfl rfl ?_
  refine gx_aald X d_Pr_step_5 (HX _ rfl).1 (HX _ rfl).2 rfl rfl rfl (by omega) (by omega) ?_
  refine gx_iload_n X d_Pr_step_6 rfl rfl ?_
  refine gx_iald X d_Pr_step_7 (hxT HX (by omega)).1 (hxT HX (by omega)).2 rfl hq (by omega) ?_
  refine gx_top t1 ?_
  refine gx_istore X d_Pr_step_8 (by decide) ?_
  refine gx_aload_n X d_Pr_step_10 rfl rfl ?_
  refine gx_getr X d_Pr_step_11 (gci in_Pr) (HX _ rfl).1 (HX _ rfl).2 rfl 3 (by decide) (gcw X lk_Pr_18) (fun _ h => h) rfl ?_
  refine gx_iload_n X d_Pr_step_14 rfl rfl ?_
  refine gx_iald X d_Pr_step_15 (HX _ rfl).1 (HX _ rfl).2 rfl (by omega) (by omega) ?_
  refine gx_top k1 ?_
  refine gx_iconst X d_Pr_step_16 (v := nI 2) (by decide) ?_
  refine gx_icmp_ne X d_Pr_step_17 (tgt := 39) (by decide) (fun h17 => ?_) (fun h17 => ?_)
  · have hk : ¬ ek e0 = 2 := fun z => h17 (by rw [z])
    refine gx_iload X d_Pr_step_39 rfl ?_
    refine gx_iret X hr hA d_Pr_step_41 (K _ _ _ ⟨by unfold stp; rw [if_neg hk], rfl, rfl⟩)
  · have hk : ek e0 = 2 := (nI_eq (by omega) (by decide)).mp h17
    rw [t3 hk] at t1
    have hlt : wr w q (ev e0) 0 < 2 ^ (3 * w) := wr_lt' hw v2 hq
    refine gx_aload_n X d_Pr_step_20 rfl rfl ?_
    refine gx_getr X d_Pr_step_21 (gci in_Pr) (HX _ rfl).1 (HX _ rfl).2 rfl 0 (by decide) (gcw X lk_Pr_28) (fun _ h => h) rfl ?_
    refine gx_iload X d_Pr_step_24 rfl ?_
    refine gx_top (y := nI (wr w q (ev e0) 0)) (by rw [t3 hk]; rfl) ?_
    refine gx_aload_n X d_Pr_step_26 rfl rfl ?_
    refine gx_getr X d_Pr_step_27 (gci in_Pr) (HX _ rfl).1 (HX _ rfl).2 rfl 4 (by decide) (gcw X lk_Pr_21) (fun _ h => h) rfl ?_
    refine gx_iload_n X d_Pr_step_30 rfl rfl ?_
    refine gx_iald X d_Pr_step_31 (HX _ rfl).1 (HX _ rfl).2 rfl (by omega) (by omega) ?_
    refine gx_top v1 ?_
    refine gx_iload_n X d_Pr_step_32 rfl rfl ?_
    refine gx_callV X d_Pr_step_33 mf_Sp_write lk_Pr_52 (c_Sp_write (HX.mono sG_X) hS (st := wr w q (ev e0) 0) (v := ev e0) (by omega) v2 x) (HX _ rfl).1 (HX _ rfl).2 rfl rfl rfl (Nat.le_of_ble_eq_true rfl) ⟨by decide, by decide⟩ ⟨rfl, rfl⟩ ⟨Nat.zero_le _, Nat.zero_le _⟩ (fun r33 F33 L33 hp33 => ?_)
    obtain ⟨rfl, rfl, rfl⟩ := hp33
    refine gx_goto X d_Pr_step_36 (tgt := 41) (by decide) ?_
    refine gx_iret X hr hA d_Pr_step_41 (K _ _ _ ⟨by unfold stp; rw [if_pos hk, wr_wr' hw v2 hq]; rfl, rfl, rfl⟩)
theorem evS_lt {w q : Nat} (hw : w < 4) (h0 : 0 < w) (ch : Int32) {st : List Nat} (h : ∀ x ∈ st, x < 2 ^ w) : ∀ x ∈ evS w q ch st, x < 2 ^ w := by
  unfold evS
  split
  · intro x hx
    rcases List.mem_cons.mp hx with e | e
    · rw [e]; exact leafV_lt ch
    · exact h x e
  · match st, h with
    | [], h => exact h
    | [_], h => exact h
    | y :: z :: r, h =>
      intro x hx
      rcases List.mem_cons.mp hx with e | e
      · rw [e]; exact opV_lt hw h0 (h z (by simp)) (h y (by simp)) ch
      · exact h x (by simp [e])
theorem evC_lt {w q : Nat} (hw : w < 4) (h0 : 0 < w) : ∀ (code : List Int32) {st : List Nat}, (∀ x ∈ st, x < 2 ^ w) → ∀ x ∈ evC w q code st, x < 2 ^ w
  | [], _, h => h
  | ch :: r, st, h => evC_lt hw h0 r (evS_lt hw h0 ch h)
/-- where a new edge leads from the state q -/
def tgN (w k v q z : Nat) : Option Nat := if k = 2 then some (wr w q v 0) else if k = 1 then some (wr w q v z) else if z = 0 then none else some q
def vlC (w q : Nat) (code : List Int32) : Nat := (evC w q code []).headD 0
theorem c_Pr_targetOf (HX : gH ks lay (2 ^ (3 * w)) sX) (hS : SpOK F w) {e0 q k v : Nat} (he : e0 < 20) (hk : F 11 e0 = nI k) (hk3 : k < 3) (hv : F 12 e0 = nI v) (hv3 : v < 3) (hq : q < 2 ^ (3 * w)) {code : List Int32} (hc : k ≠ 2 → FoOK F code ∧ ∃ z, evC w q code [] = [z]) : Con l y_Pr_targetOf (Cond.code y_Pr_targetOf b_Pr_targetOf 5 (some .int) :: WT) rm_Pr_targetOf D vcl ca ks lay ad [xR 8, xI (nI e0), xI (nI q), xR 4] F L (fun r F' L' => r = some (xI (tgI (tgN w k v q (vlC w q code)))) ∧ L' = L ∧ ∀ a, a ≠ 6 → F' a = F a) := by
  have hw : w < 4 := by have := hS.1; omega
  have hN := pu_N w hw
  refine Con.ofK (fun post K => ?_)
  refine Con.of (ls := [(0, xR 8), (1, xI (nI e0)), (2, xI (nI q)), (3, xR 4)]) (by decide) rfl rfl (Nat.le_of_ble_eq_true rfl) ?_
  intro p e s m args below meth c A X hr hA
  refine gx_aload_n X d_Pr_targetOf_0 rfl rfl ?_
  refine gx_getr X d_Pr_targetOf_1 (gci in_Pr) (HX _ rfl).1 (HX _ rfl).2 rfl 3 (by decide) (gcw X lk_Pr_18) (fun _ h => h) rfl ?_
  refine gx_iload_n X d_Pr_targetOf_4 rfl rfl ?_
  refine gx_iald X d_Pr_targetOf_5 (HX _ rfl).1 (HX _ rfl).2 rfl (by omega) (by omega) ?_
  refine gx_top hk ?_
  refine gx_iconst X d_Pr_targetOf_6 (v := nI 2) (by decide) ?_
  refine gx_icmp_ne X d_Pr_targetOf_7 (tgt := 26) (by decide) (fun h7 => ?_) (fun h7 => ?_)
  · have h2 : ¬ k = 2 := fun z => h7 (by rw [z])
    obtain ⟨hc1, z, hz⟩ := hc h2
    have hvl : vlC w q code = z := by unfold vlC; rw [hz]; rfl
    have hz8 : z < 8 := Nat.lt_of_lt_of_le (evC_lt hw (by have := hS.1; omega) code (st := []) (fun x hx => by simp at hx) z (by rw [hz]; simp)) (pu_p8 w hw)
    refine gx_aload_n X d_Pr_targetOf_26 rfl rfl ?_
    refine gx_iload_n X d_Pr_targetOf_27 rfl rfl ?_
    refine gx_callV X d_Pr_targetOf_28 mf_Fo_valueIn lk_Pr_56 (c_Fo_valueIn HX hS hc1 (by omega) hz) (HX _ rfl).1 (HX _ rfl).2 rfl rfl rfl (Nat.le_of_ble_eq_true rfl) ⟨by decide, by decide⟩ ⟨rfl, rfl⟩ ⟨Nat.zero_le _, Nat.zero_le _⟩ (fun r28 F28 L28 hp28 => ?_)
    obtain ⟨rfl, rfl, g1⟩ := hp28
    refine gx_istore X d_Pr_targetOf_31 (by decide) ?_
    refine gx_aload_n X d_Pr_targetOf_33 rfl rfl ?_
    refine gx_getr X d_Pr_targetOf_34 (gci in_Pr) (HX _ rfl).1 (HX _ rfl).2 rfl 3 (by decide) (gcw X lk_Pr_18) (fun _ h => h) rfl ?_
    refine gx_iload_n X d_Pr_targetOf_37 rfl rfl ?_
    refine gx_iald X d_Pr_targetOf_38 (HX _ rfl).1 (HX _ rfl).2 rfl (by omega) (by omega) ?_
    refine gx_top (y := nI k) (by rw [g1 11 (by decide)]; exact hk) ?_
    refine gx_iconst X d_Pr_targetOf_39 (v := nI 1) (by decide) ?_
    refine gx_icmp_ne X d_Pr_targetOf_40 (tgt := 60) (by decide) (fun h40 => ?_) (fun h40 => ?_)
    · have h1 : ¬ k = 1 := fun y => h40 (by rw [y])
      refine gx_iload X d_Pr_targetOf_60 rfl ?_
      refine gx_if_eq X d_Pr_targetOf_62 (tgt := 69) (by decide) (fun h62 => ?_) (fun h62 => ?_)
      · have h0 : z = 0 := Classical.byContradiction fun y => nI_ne0 (by omega) (by omega) h62
        refine gx_iconst X d_Pr_targetOf_69 (v := (-1)) (by decide) ?_
        refine gx_iret X hr hA d_Pr_targetOf_70 (K _ _ _ ⟨by unfold tgN; rw [if_neg h2, if_neg h1, hvl, if_pos h0]; rfl, rfl, g1⟩)
      · have h0 : ¬ z = 0 := fun y => h62 (by rw [y]; rfl)
        refine gx_iload_n X d_Pr_targetOf_65 rfl rfl ?_
        refine gx_goto X d_Pr_targetOf_66 (tgt := 70) (by decide) ?_
        refine gx_iret X hr hA d_Pr_targetOf_70 (K _ _ _ ⟨by unfold tgN; rw [if_neg h2, if_neg h1, hvl, if_neg h0]; rfl, rfl, g1⟩)
    · have h1 : k = 1 := (nI_eq (by omega) (by decide)).mp h40
      refine gx_aload_n X d_Pr_targetOf_43 rfl rfl ?_
      refine gx_getr X d_Pr_targetOf_44 (gci in_Pr) (HX _ rfl).1 (HX _ rfl).2 rfl 0 (by decide) (gcw X lk_Pr_28) (fun _ h => h) rfl ?_
      refine gx_iload_n X d_Pr_targetOf_47 rfl rfl ?_
      refine gx_aload_n X d_Pr_targetOf_48 rfl rfl ?_
      refine gx_getr X d_Pr_targetOf_49 (gci in_Pr) (HX _ rfl).1 (HX _ rfl).2 rfl 4 (by decide) (gcw X lk_Pr_21) (fun _ h => h) rfl ?_
      refine gx_iload_n X d_Pr_targetOf_52 rfl rfl ?_
      refine gx_iald X d_Pr_targetOf_53 (HX _ rfl).1 (HX _ rfl).2 rfl (by omega) (by omega) ?_
      refine gx_top (y := nI v) (by rw [g1 12 (by decide)]; exact hv) ?_
      refine gx_iload X d_Pr_targetOf_54 rfl ?_
      refine gx_callV X d_Pr_targetOf_56 mf_Sp_write lk_Pr_52 (c_Sp_write (HX.mono sG_X) (hS.of (g1 1 (by decide))) (st := q) (v := v) (by omega) hv3 (nI z)) (HX _ rfl).1 (HX _ rfl).2 rfl rfl rfl (Nat.le_of_ble_eq_true rfl) ⟨by decide, by decide⟩ ⟨rfl, rfl⟩ ⟨Nat.zero_le _, Nat.zero_le _⟩ (fun r56 F56 L56 hp56 => ?_)
      obtain ⟨rfl, rfl, rfl⟩ := hp56
      refine gx_iret X hr hA d_Pr_targetOf_59 (K _ _ _ ⟨?_, rfl, g1⟩)
      unfold tgN
      rw [if_neg h2, if_pos h1, hvl, pk_tn (by omega)]
      rfl
  · have h2 : k = 2 := (nI_eq (by omega) (by decide)).mp h7
    refine gx_aload_n X d_Pr_targetOf_10 rfl rfl ?_
    refine gx_getr X d_Pr_targetOf_11 (gci in_Pr) (HX _ rfl).1 (HX _ rfl).2 rfl 0 (by decide) (gcw X lk_Pr_28) (fun _ h => h) rfl ?_
    refine gx_iload_n X d_Pr_targetOf_14 rfl rfl ?_
    refine gx_aload_n X d_Pr_targetOf_15 rfl rfl ?_
    refine gx_getr X d_Pr_targetOf_16 (gci in_Pr) (HX _ rfl).1 (HX _ rfl).2 rfl 4 (by decide) (gcw X lk_Pr_21) (fun _ h => h) rfl ?_
    refine gx_iload_n X d_Pr_targetOf_19 rfl rfl ?_
    refine gx_iald X d_Pr_targetOf_20 (HX _ rfl).1 (HX _ rfl).2 rfl (by omega) (by omega) ?_
    refine gx_top hv ?_
    refine gx_iconst X d_Pr_targetOf_21 (v := nI 0) (by decide) ?_
    refine gx_callV X d_Pr_targetOf_22 mf_Sp_write lk_Pr_52 (c_Sp_write (HX.mono sG_X) hS (st := q) (v := v) (by omega) hv3 (nI 0)) (HX _ rfl).1 (HX _ rfl).2 rfl rfl rfl (Nat.le_of_ble_eq_true rfl) ⟨by decide, by decide⟩ ⟨rfl, rfl⟩ ⟨Nat.zero_le _, Nat.zero_le _⟩ (fun r22 F22 L22 hp22 => ?_)
    obtain ⟨rfl, rfl, rfl⟩ := hp22
    refine gx_iret X hr hA d_Pr_targetOf_25 (K _ _ _ ⟨by unfold tgN; rw [if_pos h2]; rfl, rfl, fun _ _ => rfl⟩)
theorem cb_loc {ch : Int32} (h : isLoc ch = true) : ∃ k, k < 12 ∧ ch - nI 65 = nI k := by
  rw [isLoc_eq] at h
  obtain ⟨k, a, b, rfl⟩ := rg_nI (by decide) (by decide) h
  exact ⟨k - 65, by omega, pk_sub a⟩
theorem cb_var {ch : Int32} (h : isVar ch = true) : ∃ k, k < 3 ∧ ch - nI 120 = nI k := by
  obtain ⟨k, a, b, rfl⟩ := rg_nI (by decide) (by decide) h
  exact ⟨k - 120, by omega, pk_sub a⟩
theorem rdEdge_facts {n : Nat} {f : Nat → Int32} {k : Nat} {code : List Int32} (h : rdEdge n f = some (k, code)) : isLoc (lnAt n f 0) = true ∧ isLoc (lnAt n f 1) = true ∧ k < 3 ∧ (k ≠ 0 → isVar (lnAt n f 3) = true) := by
  unfold rdEdge at h
  split at h
  · rename_i h1
    refine ⟨h1.1, h1.2.1, ?_⟩
    split at h
    · rename_i h2
      split at h
      · cases h; exact ⟨by decide, fun _ => h2.1⟩
      · cases h
    · split at h
      · rename_i h2
        split at h
        · cases h; exact ⟨by decide, fun _ => h2.1⟩
        · cases h
      · split at h
        · cases h; exact ⟨by decide, fun z => absurd rfl z⟩
        · cases h
  · cases h
/-- the numbers of a new edge -/
def nwF (n : Nat) (f : Nat → Int32) (i : Nat) : Nat := (lnAt n f i - nI 65).toBitVec.toNat
def nwV (n : Nat) (f : Nat → Int32) (k : Nat) : Nat := if k = 0 then 0 else (lnAt n f 3 - nI 120).toBitVec.toNat
theorem nwF_ok {n : Nat} {f : Nat → Int32} {i : Nat} (h : isLoc (lnAt n f i) = true) : lnAt n f i - nI 65 = nI (nwF n f i) ∧ nwF n f i < 12 := by
  obtain ⟨k, a, b⟩ := cb_loc h
  unfold nwF
  rw [b, pk_tn (by omega)]
  exact ⟨rfl, a⟩
theorem nwV_ok {n : Nat} {f : Nat → Int32} {k : Nat} (hk : k ≠ 0) (h : isVar (lnAt n f 3) = true) : lnAt n f 3 - nI 120 = nI (nwV n f k) ∧ nwV n f k < 3 := by
  obtain ⟨v, a, b⟩ := cb_var h
  unfold nwV
  rw [if_neg hk, b, pk_tn (by omega)]
  exact ⟨rfl, a⟩
def upN {α : Type} (f : Nat → α) (k : Nat) (v : α) : Nat → α := fun j => if j = k then v else f j
theorem upN_at {α : Type} (f : Nat → α) (k : Nat) (v : α) : upN f k v k = v := by simp [upN]
theorem upN_ne {α : Type} (f : Nat → α) {k j : Nat} (v : α) (h : j ≠ k) : upN f k v j = f j := by simp [upN, h]
set_option maxHeartbeats 4000000 in
theorem c_Pr_add (HX : gH ks lay (2 ^ (3 * w)) sX) (hS : SpOK F w) (hL : LiOK F n) (h3 : F 3 = ln) (hP : PrOK F w ne ef et ek ev tg) (hne : ne < 20) {k : Nat} {code : List Int32} (hrd : rdEdge n ln = some (k, code)) (hc : k ≠ 2 → FoOK F code ∧ ∀ q, q < 2 ^ (3 * w) → ∃ z, evC w q code [] = [z]) :
    Con l y_Pr_add (Cond.code y_Pr_add b_Pr_add 6 (some .int) :: WT) rm_Pr_add D vcl ca ks lay ad [xR 8, xI (nI k), xR 2, xR 4] F L (fun r F' L' => r = some (xI (nI ne)) ∧ L' = L ∧ PrOK F' w (ne + 1) (upN ef ne (nwF n ln 0)) (upN et ne (nwF n ln 1)) (upN ek ne k) (upN ev ne (nwV n ln k)) (upN tg ne (fun q => tgN w k (nwV n ln k) q (vlC w q code))) ∧ ∀ a, a ≠ 6 → ¬ (8 ≤ a ∧ a ≤ 12) → ¬ (100 ≤ a ∧ a < 120) → F' a = F a) := by
  have hw : w < 4 := by have := hS.1; omega
  have hN := pu_N w hw
  obtain ⟨l0, l1, hk3, hv⟩ := rdEdge_facts hrd
  obtain ⟨f0, f0b⟩ := nwF_ok l0
  obtain ⟨f1, f1b⟩ := nwF_ok l1
  obtain ⟨p1, p2, p3⟩ := hP
  have hvv : nwV n ln k < 3 := by
    by_cases hk : k = 0
    · unfold nwV; rw [if_pos hk]; decide
    · exact (nwV_ok hk (hv hk)).2
  refine Con.ofK (fun post K => ?_)
  refine Con.of (ls := [(0, xR 8), (1, xI (nI k)), (2, xR 2), (3, xR 4)]) (by decide) rfl rfl (Nat.le_of_ble_eq_true rfl) ?_
  intro p e s m args below meth c A X hr hA
  refine gx_aload_n X d_Pr_add_0 rfl rfl ?_
  refine gx_geti X d_Pr_add_1 (gci in_Pr) (HX _ rfl).1 (HX _ rfl).2 rfl 6 (by decide) (gcw X lk_Pr_24) (fun _ h => h) rfl ?_
  refine gx_top p2 ?_
  refine gx_istore X d_Pr_add_4 (by decide) ?_
  refine gx_aload_n X d_Pr_add_6 rfl rfl ?_
  refine gx_getr X d_Pr_add_7 (gci in_Pr) (HX _ rfl).1 (HX _ rfl).2 rfl 1 (by decide) (gcw X lk_Pr_9) (fun _ h => h) rfl ?_
  refine gx_iload X d_Pr_add_10 rfl ?_
  refine gx_aload_n X d_Pr_add_12 rfl rfl ?_
  refine gx_iconst X d_Pr_add_13 (v := nI 0) (by decide) ?_
  refine gx_callV X d_Pr_add_14 mf_Li_at lk_Pr_42 (c_Li_at HX hL (j := 0) (by omega)) (HX _ rfl).1 (HX _ rfl).2 rfl rfl rfl (Nat.le_of_ble_eq_true rfl) ⟨by decide, by decide⟩ ⟨rfl, rfl⟩ ⟨Nat.zero_le _, Nat.zero_le _⟩ (fun r14 F14 L14 hp14 => ?_)
  obtain ⟨rfl, rfl, rfl⟩ := hp14
  rw [h3]
  refine gx_bipush X d_Pr_add_17 (v := nI 65) (by decide) ?_
  refine gx_isub X d_Pr_add_19 ?_
  refine gx_top f0 ?_
  refine gx_iast X d_Pr_add_20 (HX _ rfl).1 (HX _ rfl).2 rfl (by omega) (by omega) ?_
  refine gx_aload_n X d_Pr_add_21 rfl rfl ?_
  refine gx_getr X d_Pr_add_22 (gci in_Pr) (HX _ rfl).1 (HX _ rfl).2 rfl 2 (by decide) (gcw X lk_Pr_15) (fun _ h => h) rfl ?_
  refine gx_iload X d_Pr_add_25 rfl ?_
  refine gx_aload_n X d_Pr_add_27 rfl rfl ?_
  refine gx_iconst X d_Pr_add_28 (v := nI 1) (by decide) ?_
  refine gx_callV X d_Pr_add_29 mf_Li_at lk_Pr_42 (c_Li_at HX (n := n) (hL.of (gxu_cell (by decide)) (gxu_cell (by decide))) (j := 1) (by omega)) (HX _ rfl).1 (HX _ rfl).2 rfl rfl rfl (Nat.le_of_ble_eq_true rfl) ⟨by decide, by decide⟩ ⟨rfl, rfl⟩ ⟨Nat.zero_le _, Nat.zero_le _⟩ (fun r29 F29 L29 hp29 => ?_)
  obtain ⟨rfl, rfl, rfl⟩ := hp29
  rw [gxu_cell (by decide), h3]
  refine gx_bipush X d_Pr_add_32 (v := nI 65) (by decide) ?_
  refine gx_isub X d_Pr_add_34 ?_
  refine gx_top f1 ?_
  refine gx_iast X d_Pr_add_35 (HX _ rfl).1 (HX _ rfl).2 rfl (by omega) (by omega) ?_
  refine gx_aload_n X d_Pr_add_36 rfl rfl ?_
  refine gx_getr X d_Pr_add_37 (gci in_Pr) (HX _ rfl).1 (HX _ rfl).2 rfl 3 (by decide) (gcw X lk_Pr_18) (fun _ h => h) rfl ?_
  refine gx_iload X d_Pr_add_40 rfl ?_
  refine gx_iload_n X d_Pr_add_42 rfl rfl ?_
  refine gx_iast X d_Pr_add_43 (HX _ rfl).1 (HX _ rfl).2 rfl (by omega) (by omega) ?_
  refine gx_aload_n X d_Pr_add_44 rfl rfl ?_
  refine gx_getr X d_Pr_add_45 (gci in_Pr) (HX _ rfl).1 (HX _ rfl).2 rfl 4 (by decide) (gcw X lk_Pr_21) (fun _ h => h) rfl ?_
  refine gx_iload X d_Pr_add_48 rfl ?_
  -- behind the variable
  have body : ∀ (G : Nat → Nat → Int32), G = gxu (gxu (gxu (gxu F14 9 ne (nI (nwF n ln 0))) 10 ne (nI (nwF n ln 1))) 11 ne (nI k)) 12 ne (nI (nwV n ln k)) → GX p l e rm_Pr_add s m args below meth c (MQ below (gxQ D vcl ca ks lay ad s.heap.size post) args s 0 0 (gxA ks ad s.heap.size)) 6 A D vcl ca ks lay ad 0 0 67 [(4, xI (nI ne)), (0, xR 8), (1, xI (nI k)), (2, xR 2), (3, xR 4)] [] G L29 := by
    intro G hG
    have hG0 : ∀ a, ¬ (8 ≤ a ∧ a ≤ 12) → G a = F14 a := fun a ha => by
      rw [hG, gxu_cell (by omega), gxu_cell (by omega), gxu_cell (by omega), gxu_cell (by omega)]
    have loop : ∀ (d i : Nat) (G2 : Nat → Nat → Int32), i + d = 2 ^ (3 * w) → (∀ a, a ≠ 6 → a ≠ rT ne → G2 a = G a) → (∀ q, q < i → G2 (rT ne) q = tgI (tgN w k (nwV n ln k) q (vlC w q code))) → GX p l e rm_Pr_add s m args below meth c (MQ below (gxQ D vcl ca ks lay ad s.heap.size post) args s 0 0 (gxA ks ad s.heap.size)) 6 A D vcl ca ks lay ad 0 0 70 [(5, xI (nI i)), (4, xI (nI ne)), (0, xR 8), (1, xI (nI k)), (2, xR 2), (3, xR 4)] [] G2 L29 := by
      intro d
      induction d with
      | zero =>
        intro i G2 hd h1 h2
        have hrn : rT ne ≠ 1 ∧ rT ne ≠ 8 := by unfold rT; omega
        have e1 : G2 1 2 = nI (2 ^ (3 * w)) := by rw [h1 1 (by decide) (Ne.symm hrn.1), hG0 1 (by omega)]; exact hS.2.2.2
        have e8 : G2 8 6 = nI ne := by rw [h1 8 (by decide) (Ne.symm hrn.2), hG]; simp [gxu]; exact p2
        refine gx_iload X d_Pr_add_70 rfl ?_
        refine gx_aload_n X d_Pr_add_72 rfl rfl ?_
        refine gx_getr X d_Pr_add_73 (gci in_Pr) (HX _ rfl).1 (HX _ rfl).2 rfl 0 (by decide) (gcw X lk_Pr_28) (fun _ h => h) rfl ?_
        refine gx_geti X d_Pr_add_76 (gci in_Sp) (HX _ rfl).1 (HX _ rfl).2 rfl 2 (by decide) (gcw X lk_Pr_32) (fun _ h => h) rfl ?_
        refine gx_top e1 ?_
        refine gx_icmp_ge X d_Pr_add_79 (tgt := 107) (by decide) (fun h79 => ?_) (fun h79 => ?_)
        · refine gx_aload_n X d_Pr_add_107 rfl rfl ?_
          refine gx_dup X d_Pr_add_108 rfl ?_
          refine gx_geti X d_Pr_add_109 (gci in_Pr) (HX _ rfl).1 (HX _ rfl).2 rfl 6 (by decide) (gcw X lk_Pr_24) (fun _ h => h) rfl ?_
          refine gx_top e8 ?_
          refine gx_iconst X d_Pr_add_112 (v := nI 1) (by decide) ?_
          refine gx_iadd X d_Pr_add_113 ?_
          refine gx_top (nI_add ne 1) ?_
          refine gx_puti X d_Pr_add_114 (gci in_Pr) (HX _ rfl).1 (HX _ rfl).2 rfl 6 (by decide) (gcw X lk_Pr_24) (fun _ h => h) t_Pr ty_Pr nm_Pr rfl (ty_Pr 6 (by decide)) rfl rfl rfl ?_
          refine gx_iload X d_Pr_add_117 rfl ?_
          refine gx_iret X hr hA d_Pr_add_119 (K _ _ _ ⟨rfl, rfl, ⟨by omega, gxu_at, fun e he => ?_⟩, fun a a6 a8 a100 => ?_⟩)
          · have hrt : rT e ≠ 8 ∧ rT e ≠ 6 ∧ ¬ (8 ≤ rT e ∧ rT e ≤ 12) := by unfold rT; omega
            have hrr : ∀ a, 9 ≤ a → a ≤ 12 → a ≠ 8 ∧ a ≠ 6 ∧ a ≠ rT ne := by intro a _ _; unfold rT; omega
            by_cases hen : e = ne
            · subst hen
              simp only [upN_at]
              refine ⟨⟨?_, f0b⟩, ⟨?_, f1b⟩, ⟨?_, hk3⟩, ⟨?_, hvv⟩, fun q hq => ⟨?_, ?_, ?_, ?_, ?_⟩⟩
              · rw [gxu_cell (by decide), h1 9 (by decide) (hrr 9 (by omega) (by omega)).2.2, hG]; simp [gxu]
              · rw [gxu_cell (by decide), h1 10 (by decide) (hrr 10 (by omega) (by omega)).2.2, hG]; simp [gxu]
              · rw [gxu_cell (by decide), h1 11 (by decide) (hrr 11 (by omega) (by omega)).2.2, hG]; simp [gxu]
              · rw [gxu_cell (by decide), h1 12 (by decide) (hrr 12 (by omega) (by omega)).2.2, hG]; simp [gxu]
              · rw [gxu_cell hrt.1]; exact h2 q (by omega)
              · intro t ht
                unfold tgN at ht
                split at ht
                · cases ht; exact wr_lt' hw hvv hq
                split at ht
                · cases ht; exact wr_lt' hw hvv hq
                split at ht
                · cases ht
                · cases ht; exact hq
              · intro h; unfold tgN; rw [if_pos h]
              · intro h; unfold tgN; rw [if_neg (by omega), if_pos h]; exact ⟨_, rfl⟩
              · intro h; unfold tgN; rw [if_neg (by omega), if_neg (by omega)]; split
                · exact Or.inl rfl
                · exact Or.inr rfl
            · have hlt : e < ne := by omega
              have hre : rT e ≠ rT ne := by unfold rT; omega
              simp only [upN_ne _ _ hen]
              have o := p3 e hlt
              have hg : ∀ a, 9 ≤ a → a ≤ 12 → gxu G2 8 6 (nI (ne + 1)) a e = F14 a e := by
                intro a ha hb
                rw [gxu_cell (by omega), h1 a (by omega) (hrr a ha hb).2.2, hG]
                rw [gxu_ne (by omega), gxu_ne (by omega), gxu_ne (by omega), gxu_ne (by omega)]
              rw [hg 9 (by omega) (by omega), hg 10 (by omega) (by omega), hg 11 (by omega) (by omega), hg 12 (by omega) (by omega), gxu_cell hrt.1, h1 (rT e) hrt.2.1 hre, hG0 (rT e) hrt.2.2]
              exact o
          · have hre : a ≠ rT ne := by unfold rT; omega
            rw [gxu_cell (by omega), h1 a a6 hre, hG0 a a8]
        · exact absurd ((nI_leI (by omega) (by omega)).mpr (by omega)) h79
      | succ d ih =>
        intro i G2 hd h1 h2
        have hrn : rT ne ≠ 1 ∧ rT ne ≠ 8 ∧ rT ne ≠ 6 ∧ rT ne ≠ 4 ∧ rT ne ≠ 5 ∧ rT ne ≠ 11 ∧ rT ne ≠ 12 := by unfold rT; omega
        have e1 : G2 1 = F14 1 := by rw [h1 1 (by decide) (Ne.symm hrn.1), hG0 1 (by omega)]
        have e12 : G2 1 2 = nI (2 ^ (3 * w)) := by rw [e1]; exact hS.2.2.2
        refine gx_iload X d_Pr_add_70 rfl ?_
        refine gx_aload_n X d_Pr_add_72 rfl rfl ?_
        refine gx_getr X d_Pr_add_73 (gci in_Pr) (HX _ rfl).1 (HX _ rfl).2 rfl 0 (by decide) (gcw X lk_Pr_28) (fun _ h => h) rfl ?_
        refine gx_geti X d_Pr_add_76 (gci in_Sp) (HX _ rfl).1 (HX _ rfl).2 rfl 2 (by decide) (gcw X lk_Pr_32) (fun _ h => h) rfl ?_
        refine gx_top e12 ?_
        refine gx_icmp_ge X d_Pr_add_79 (tgt := 107) (by decide) (fun h79 => ?_) (fun h79 => ?_)
        · exact absurd ((nI_leI (by omega) (by omega)).mp h79) (by omega)
        · refine gx_aload_n X d_Pr_add_82 rfl rfl ?_
          refine gx_getr X d_Pr_add_83 (gci in_Pr) (HX _ rfl).1 (HX _ rfl).2 rfl 5 (by decide) (gcw X lk_Pr_39) (fun _ h => h) rfl ?_
          refine gx_iload X d_Pr_add_86 rfl ?_
          refine gx_aald X d_Pr_add_88 (HX _ rfl).1 (HX _ rfl).2 rfl rfl rfl (by omega) (by omega) ?_
          refine gx_iload X d_Pr_add_89 rfl ?_
          refine gx_aload_n X d_Pr_add_91 rfl rfl ?_
          refine gx_iload X d_Pr_add_92 rfl ?_
          refine gx_iload X d_Pr_add_94 rfl ?_
          refine gx_aload_n X d_Pr_add_96 rfl rfl ?_
          refine gx_callV X d_Pr_add_97 mf_Pr_targetOf lk_Pr_48 (c_Pr_targetOf HX (hS.of e1) (e0 := ne) (q := i) (k := k) (v := nwV n ln k) hne (by rw [h1 11 (by decide) (by omega), hG]; simp [gxu]) hk3 (by rw [h1 12 (by decide) (by omega), hG]; simp [gxu]) hvv (by omega) (code := code) (fun hk2 => ⟨(hc hk2).1.of (by rw [h1 4 (by decide) (by omega), hG0 4 (by omega)]) (by rw [h1 5 (by decide) (by omega), hG0 5 (by omega)]), (hc hk2).2 i (by omega)⟩)) (HX _ rfl).1 (HX _ rfl).2 rfl rfl rfl (Nat.le_of_ble_eq_true rfl) ⟨by decide, by decide⟩ ⟨rfl, rfl⟩ ⟨Nat.zero_le _, Nat.zero_le _⟩ (fun r97 F97 L97 hp97 => ?_)
          obtain ⟨rfl, rfl, g1⟩ := hp97
          refine gx_iast X d_Pr_add_100 (hxT HX hne).1 (hxT HX hne).2 rfl (by omega) (by omega) ?_
          refine gx_iinc X d_Pr_add_101 rfl (pu_inc _) ?_
          refine gx_goto X d_Pr_add_104 (tgt := 70) (by decide) ?_
          refine gx_el (ih (i + 1) _ (by omega) (fun a a6 ar => ?_) (fun q hq => ?_)) ⟨rfl, rfl, rfl, rfl, rfl, rfl, trivial⟩
          · rw [gxu_cell ar, g1 a a6, h1 a a6 ar]
          · by_cases hqi : q = i
            · subst hqi; exact gxu_at
            · rw [gxu_ne (by omega), g1 (rT ne) hrn.2.2.1, h2 q (by omega)]
    refine gx_iconst X d_Pr_add_67 (v := nI 0) (by decide) ?_
    refine gx_istore X d_Pr_add_68 (by decide) ?_
    exact gx_el (loop (2 ^ (3 * w)) 0 G (by omega) (fun _ _ _ => rfl) (fun q hq => absurd hq (by omega))) ⟨rfl, rfl, rfl, rfl, rfl, rfl, trivial⟩
  refine gx_iload_n X d_Pr_add_50 rfl rfl ?_
  refine gx_if_ne X d_Pr_add_51 (tgt := 58) (by decide) (fun h51 => ?_) (fun h51 => ?_)
  · have hk : k ≠ 0 := fun z => h51 (by rw [z]; rfl)
    refine gx_aload_n X d_Pr_add_58 rfl rfl ?_
    refine gx_iconst X d_Pr_add_59 (v := nI 3) (by decide) ?_
    refine gx_callV X d_Pr_add_60 mf_Li_at lk_Pr_42 (c_Li_at HX (n := n) (hL.of (by rw [gxu_cell (by decide), gxu_cell (by decide), gxu_cell (by decide)]) (by rw [gxu_cell (by decide), gxu_cell (by decide), gxu_cell (by decide)])) (j := 3) (by omega)) (HX _ rfl).1 (HX _ rfl).2 rfl rfl rfl (Nat.le_of_ble_eq_true rfl) ⟨by decide, by decide⟩ ⟨rfl, rfl⟩ ⟨Nat.zero_le _, Nat.zero_le _⟩ (fun r60 F60 L60 hp60 => ?_)
    obtain ⟨rfl, rfl, rfl⟩ := hp60
    rw [gxu_cell (by decide), gxu_cell (by decide), gxu_cell (by decide), h3]
    refine gx_bipush X d_Pr_add_63 (v := nI 120) (by decide) ?_
    refine gx_isub X d_Pr_add_65 ?_
    refine gx_top (nwV_ok hk (hv hk)).1 ?_
    refine gx_iast X d_Pr_add_66 (HX _ rfl).1 (HX _ rfl).2 rfl (by omega) (by omega) ?_
    exact gx_el (body _ rfl) ⟨rfl, rfl, rfl, rfl, rfl, trivial⟩
  · have hk : k = 0 := Classical.byContradiction fun z => nI_ne0 (by omega) (by omega) h51
    refine gx_iconst X d_Pr_add_54 (v := nI 0) (by decide) ?_
    refine gx_goto X d_Pr_add_55 (tgt := 66) (by decide) ?_
    refine gx_top (y := nI (nwV n ln k)) (by unfold nwV; rw [if_pos hk]) ?_
    refine gx_iast X d_Pr_add_66 (HX _ rfl).1 (HX _ rfl).2 rfl (by omega) (by omega) ?_
    exact gx_el (body _ rfl) ⟨rfl, rfl, rfl, rfl, rfl, trivial⟩
end
end
section
section
variable {l : Launch} {D : va_G} {ca : Nat → ClassId} {ks : List Nat} {lay : Nat → gxE} {ad : Nat → Nat} {F : Nat → Nat → Int32} {L : Nat → Nat → Int64} {k n : Nat}
/-- the places from a to b of the cell k hold x -/
def flF (F : Nat → Nat → Int32) (k a b : Nat) (x : Int32) : Nat → Nat → Int32 := fun c j => if c = k ∧ a ≤ j ∧ j < b then x else F c j
def flL (L : Nat → Nat → Int64) (k a b : Nat) (x : Int64) : Nat → Nat → Int64 := fun c j => if c = k ∧ a ≤ j ∧ j < b then x else L c j
theorem flF_0 (F : Nat → Nat → Int32) (k a : Nat) (x : Int32) : flF F k a a x = F := by
  funext c j
  unfold flF
  rw [if_neg (by omega)]
theorem flL_0 (L : Nat → Nat → Int64) (k a : Nat) (x : Int64) : flL L k a a x = L := by
  funext c j
  unfold flL
  rw [if_neg (by omega)]
theorem flF_s (F : Nat → Nat → Int32) {k a b : Nat} (x : Int32) (h : a ≤ b) : gxu (flF F k a b x) k b x = flF F k a (b + 1) x := by
  funext c j
  unfold gxu flF
  by_cases e1 : c = k
  · by_cases e2 : j = b
    · rw [if_pos ⟨e1, e2⟩, if_pos ⟨e1, by omega, by omega⟩]
    · rw [if_neg (fun z => e2 z.2)]
      by_cases e3 : a ≤ j ∧ j < b
      · rw [if_pos ⟨e1, e3⟩, if_pos ⟨e1, e3.1, by omega⟩]
      · rw [if_neg (fun z => e3 z.2), if_neg (fun z => e3 ⟨z.2.1, by omega⟩)]
  · rw [if_neg (fun z => e1 z.1), if_neg (fun z => e1 z.1), if_neg (fun z => e1 z.1)]
theorem flL_s (L : Nat → Nat → Int64) {k a b : Nat} (x : Int64) (h : a ≤ b) : gxU (flL L k a b x) k b x = flL L k a (b + 1) x := by
  funext c j
  unfold gxU flL
  by_cases e1 : c = k
  · by_cases e2 : j = b
    · rw [if_pos ⟨e1, e2⟩, if_pos ⟨e1, by omega, by omega⟩]
    · rw [if_neg (fun z => e2 z.2)]
      by_cases e3 : a ≤ j ∧ j < b
      · rw [if_pos ⟨e1, e3⟩, if_pos ⟨e1, e3.1, by omega⟩]
      · rw [if_neg (fun z => e3 z.2), if_neg (fun z => e3 ⟨z.2.1, by omega⟩)]
  · rw [if_neg (fun z => e1 z.1), if_neg (fun z => e1 z.1), if_neg (fun z => e1 z.1)]
theorem flF_cell {F : Nat → Nat → Int32} {k a b c : Nat} {x : Int32} (h : c ≠ k) : flF F k a b x c = F c := by
  funext j
  unfold flF
  rw [if_neg (fun z => h z.1)]
theorem flF_in {F : Nat → Nat → Int32} {k a b j : Nat} {x : Int32} (h : a ≤ j) (h2 : j < b) : flF F k a b x k j = x := by
  unfold flF
  rw [if_pos ⟨rfl, h, h2⟩]
theorem flF_out {F : Nat → Nat → Int32} {k a b c j : Nat} {x : Int32} (h : ¬ (c = k ∧ a ≤ j ∧ j < b)) : flF F k a b x c j = F c j := by
  unfold flF
  rw [if_neg h]
theorem flL_cell {L : Nat → Nat → Int64} {k a b c : Nat} {x : Int64} (h : c ≠ k) : flL L k a b x c = L c := by
  funext j
  unfold flL
  rw [if_neg (fun z => h z.1)]
theorem flL_in {L : Nat → Nat → Int64} {k a b j : Nat} {x : Int64} (h : a ≤ j) (h2 : j < b) : flL L k a b x k j = x := by
  unfold flL
  rw [if_pos ⟨rfl, h, h2⟩]
theorem c_fill_I (hk : k ∈ ks) (hlay : lay k = Sum.inr (Sum.inl (0, n))) (hn : n < 2 ^ 31) (x : Int32) : Con l y_Ar_fill_aII (Cond.code y_Ar_fill_aII b_Ar_fill_aII 4 none :: WT) rm_Ar_fill_aII D vcl ca ks lay ad [xR k, xI x] F L (fun r F' L' => r = none ∧ F' = flF F k 0 n x ∧ L' = L) := by
  refine Con.ofK (fun post K => ?_)
  refine Con.of (ls := [(0, xR k), (1, xI x)]) (by decide) rfl rfl (Nat.le_of_ble_eq_true rfl) ?_
  intro p e s m args below meth c A X hr hA
  refine gx_iconst X d_Ar_fill_aII_0 (v := nI 0) (by decide) ?_
  refine gx_istore_n X d_Ar_fill_aII_1 rfl (by decide) ?_
  refine gx_aload_n X d_Ar_fill_aII_2 rfl rfl ?_
  refine gx_alen X d_Ar_fill_aII_3 hk (τ := 0) (ty := .int) (by rw [hlay]; rfl) rfl rfl (v := nI n) rfl ?_
  refine gx_istore_n X d_Ar_fill_aII_4 rfl (by decide) ?_
  have loop : ∀ (d i : Nat), i + d = n → GX p l e rm_Ar_fill_aII s m args below meth c (MQ below (gxQ D vcl ca ks lay ad s.heap.size post) args s 0 0 (gxA ks ad s.heap.size)) 4 A D vcl ca ks lay ad 0 0 5 [(3, xI (nI n)), (2, xI (nI i)), (0, xR k), (1, xI x)] [] (flF F k 0 i x) L := by
    intro d
    induction d with
    | zero =>
      intro i hi
      refine gx_iload_n X d_Ar_fill_aII_5 rfl rfl ?_
      refine gx_iload_n X d_Ar_fill_aII_6 rfl rfl ?_
      refine gx_icmp_ge X d_Ar_fill_aII_7 (tgt := 20) (by decide) (fun h7 => ?_) (fun h7 => ?_)
      · refine gx_vret X hr hA d_Ar_fill_aII_20 (K _ _ _ ⟨rfl, by rw [show i = n by omega], rfl⟩)
      · exact absurd ((nI_leI (by omega) (by omega)).mpr (by omega)) h7
    | succ d ih =>
      intro i hi
      refine gx_iload_n X d_Ar_fill_aII_5 rfl rfl ?_
      refine gx_iload_n X d_Ar_fill_aII_6 rfl rfl ?_
      refine gx_icmp_ge X d_Ar_fill_aII_7 (tgt := 20) (by decide) (fun h7 => ?_) (fun h7 => ?_)
      · exact absurd ((nI_leI (by omega) (by omega)).mp h7) (by omega)
      · refine gx_aload_n X d_Ar_fill_aII_10 rfl rfl ?_
        refine gx_iload_n X d_Ar_fill_aII_11 rfl rfl ?_
        refine gx_iload_n X d_Ar_fill_aII_12 rfl rfl ?_
        refine gx_iast X d_Ar_fill_aII_13 hk hlay rfl (by omega) hn ?_
        refine gx_iinc X d_Ar_fill_aII_14 rfl (pu_inc _) ?_
        refine gx_goto X d_Ar_fill_aII_17 (tgt := 5) (by decide) ?_
        rw [flF_s F x (Nat.zero_le _)]
        exact gx_el (ih (i + 1) (by omega)) ⟨rfl, rfl, rfl, rfl, trivial⟩
  have h := loop n 0 (by omega)
  rw [flF_0] at h
  exact gx_el h ⟨rfl, rfl, rfl, rfl, trivial⟩
theorem c_fill_B (hk : k ∈ ks) (hlay : lay k = Sum.inr (Sum.inl (3, n))) (hn : n < 2 ^ 31) : Con l y_Ar_fill_aBB (Cond.code y_Ar_fill_aBB b_Ar_fill_aBB 4 none :: WT) rm_Ar_fill_aBB D vcl ca ks lay ad [xR k, xI (nI 0)] F L (fun r F' L' => r = none ∧ F' = flF F k 0 n (nI 0) ∧ L' = L) := by
  refine Con.ofK (fun post K => ?_)
  refine Con.of (ls := [(0, xR k), (1, xI (nI 0))]) (by decide) rfl rfl (Nat.le_of_ble_eq_true rfl) ?_
  intro p e s m args below meth c A X hr hA
  refine gx_iconst X d_Ar_fill_aBB_0 (v := nI 0) (by decide) ?_
  refine gx_istore_n X d_Ar_fill_aBB_1 rfl (by decide) ?_
  refine gx_aload_n X d_Ar_fill_aBB_2 rfl rfl ?_
  refine gx_alen X d_Ar_fill_aBB_3 hk (τ := 3) (ty := .byte) (by rw [hlay]; rfl) rfl rfl (v := nI n) rfl ?_
  refine gx_istore_n X d_Ar_fill_aBB_4 rfl (by decide) ?_
  have loop : ∀ (d i : Nat), i + d = n → GX p l e rm_Ar_fill_aBB s m args below meth c (MQ below (gxQ D vcl ca ks lay ad s.heap.size post) args s 0 0 (gxA ks ad s.heap.size)) 4 A D vcl ca ks lay ad 0 0 5 [(3, xI (nI n)), (2, xI (nI i)), (0, xR k), (1, xI (nI 0))] [] (flF F k 0 i (nI 0)) L := by
    intro d
    induction d with
    | zero =>
      intro i hi
      refine gx_iload_n X d_Ar_fill_aBB_5 rfl rfl ?_
      refine gx_iload_n X d_Ar_fill_aBB_6 rfl rfl ?_
      refine gx_icmp_ge X d_Ar_fill_aBB_7 (tgt := 20) (by decide) (fun h7 => ?_) (fun h7 => ?_)
      · refine gx_vret X hr hA d_Ar_fill_aBB_20 (K _ _ _ ⟨rfl, by rw [show i = n by omega], rfl⟩)
      · exact absurd ((nI_leI (by omega) (by omega)).mpr (by omega)) h7
    | succ d ih =>
      intro i hi
      refine gx_iload_n X d_Ar_fill_aBB_5 rfl rfl ?_
      refine gx_iload_n X d_Ar_fill_aBB_6 rfl rfl ?_
      refine gx_icmp_ge X d_Ar_fill_aBB_7 (tgt := 20) (by decide) (fun h7 => ?_) (fun h7 => ?_)
      · exact absurd ((nI_leI (by omega) (by omega)).mp h7) (by omega)
      · refine gx_aload_n X d_Ar_fill_aBB_10 rfl rfl ?_
        refine gx_iload_n X d_Ar_fill_aBB_11 rfl rfl ?_
        refine gx_iload_n X d_Ar_fill_aBB_12 rfl rfl ?_
        refine gx_bast X d_Ar_fill_aBB_13 hk hlay rfl (by omega) hn (v := nI 0) (by decide) ?_
        refine gx_iinc X d_Ar_fill_aBB_14 rfl (pu_inc _) ?_
        refine gx_goto X d_Ar_fill_aBB_17 (tgt := 5) (by decide) ?_
        rw [flF_s F (nI 0) (Nat.zero_le _)]
        exact gx_el (ih (i + 1) (by omega)) ⟨rfl, rfl, rfl, rfl, trivial⟩
  have h := loop n 0 (by omega)
  rw [flF_0] at h
  exact gx_el h ⟨rfl, rfl, rfl, rfl, trivial⟩
theorem c_fill_J (hk : k ∈ ks) (hlay : lay k = Sum.inr (Sum.inr (Sum.inl n))) (hn : n < 2 ^ 31) (x : Int64) : Con l y_Ar_fill_aJJ (Cond.code y_Ar_fill_aJJ b_Ar_fill_aJJ 5 none :: WT) rm_Ar_fill_aJJ D vcl ca ks lay ad [xR k, xL x] F L (fun r F' L' => r = none ∧ F' = F ∧ L' = flL L k 0 n x) := by
  refine Con.ofK (fun post K => ?_)
  refine Con.of (ls := [(0, xR k), (1, xL x)]) (by decide) rfl rfl (Nat.le_of_ble_eq_true rfl) ?_
  intro p e s m args below meth c A X hr hA
  refine gx_iconst X d_Ar_fill_aJJ_0 (v := nI 0) (by decide) ?_
  refine gx_istore_n X d_Ar_fill_aJJ_1 rfl (by decide) ?_
  refine gx_aload_n X d_Ar_fill_aJJ_2 rfl rfl ?_
  refine gx_alen X d_Ar_fill_aJJ_3 hk (τ := 1) (ty := .long) (by rw [hlay]; rfl) rfl rfl (v := nI n) rfl ?_
  refine gx_istore X d_Ar_fill_aJJ_4 (by decide) ?_
  have loop : ∀ (d i : Nat), i + d = n → GX p l e rm_Ar_fill_aJJ s m args below meth c (MQ below (gxQ D vcl ca ks lay ad s.heap.size post) args s 0 0 (gxA ks ad s.heap.size)) 5 A D vcl ca ks lay ad 0 0 6 [(4, xI (nI n)), (3, xI (nI i)), (0, xR k), (1, xL x)] [] F (flL L k 0 i x) := by
    intro d
    induction d with
    | zero =>
      intro i hi
      refine gx_iload_n X d_Ar_fill_aJJ_6 rfl rfl ?_
      refine gx_iload X d_Ar_fill_aJJ_7 rfl ?_
      refine gx_icmp_ge X d_Ar_fill_aJJ_9 (tgt := 22) (by decide) (fun h9 => ?_) (fun h9 => ?_)
      · refine gx_vret X hr hA d_Ar_fill_aJJ_22 (K _ _ _ ⟨rfl, rfl, by rw [show i = n by omega]⟩)
      · exact absurd ((nI_leI (by omega) (by omega)).mpr (by omega)) h9
    | succ d ih =>
      intro i hi
      refine gx_iload_n X d_Ar_fill_aJJ_6 rfl rfl ?_
      refine gx_iload X d_Ar_fill_aJJ_7 rfl ?_
      refine gx_icmp_ge X d_Ar_fill_aJJ_9 (tgt := 22) (by decide) (fun h9 => ?_) (fun h9 => ?_)
      · exact absurd ((nI_leI (by omega) (by omega)).mp h9) (by omega)
      · refine gx_aload_n X d_Ar_fill_aJJ_12 rfl rfl ?_
        refine gx_iload_n X d_Ar_fill_aJJ_13 rfl rfl ?_
        refine gx_lload_n X d_Ar_fill_aJJ_14 rfl rfl ?_
        refine gx_last X d_Ar_fill_aJJ_15 hk hlay rfl (by omega) hn ?_
        refine gx_iinc X d_Ar_fill_aJJ_16 rfl (pu_inc _) ?_
        refine gx_goto X d_Ar_fill_aJJ_19 (tgt := 6) (by decide) ?_
        rw [flL_s L x (Nat.zero_le _)]
        exact gx_el (ih (i + 1) (by omega)) ⟨rfl, rfl, rfl, rfl, trivial⟩
  have h := loop n 0 (by omega)
  rw [flL_0] at h
  exact gx_el h ⟨rfl, rfl, rfl, rfl, trivial⟩
theorem c_rangeCheck {a b : Nat} (hab : a ≤ b) (hb : b ≤ n) (hn : n < 2 ^ 31) : Con l y_Ar_rangeCheck (Cond.code y_Ar_rangeCheck b_Ar_rangeCheck 3 none :: WT) rm_Ar_rangeCheck D vcl ca ks lay ad [xI (nI n), xI (nI a), xI (nI b)] F L (fun r F' L' => r = none ∧ F' = F ∧ L' = L) := by
  refine Con.ofK (fun post K => ?_)
  refine Con.of (ls := [(0, xI (nI n)), (1, xI (nI a)), (2, xI (nI b))]) (by decide) rfl rfl (Nat.le_of_ble_eq_true rfl) ?_
  intro p e s m args below meth c A X hr hA
  refine gx_iload_n X d_Ar_rangeCheck_0 rfl rfl ?_
  refine gx_iload_n X d_Ar_rangeCheck_1 rfl rfl ?_
  refine gx_icmp_le X d_Ar_rangeCheck_2 (tgt := 46) (by decide) (fun h2 => ?_) (fun h2 => ?_)
  · refine gx_iload_n X d_Ar_rangeCheck_46 rfl rfl ?_
    refine gx_if_ge X d_Ar_rangeCheck_47 (tgt := 59) (by decide) (fun h47 => ?_) (fun h47 => ?_)
    · refine gx_iload_n X d_Ar_rangeCheck_59 rfl rfl ?_
      refine gx_iload_n X d_Ar_rangeCheck_60 rfl rfl ?_
      refine gx_icmp_le X d_Ar_rangeCheck_61 (tgt := 73) (by decide) (fun h61 => ?_) (fun h61 => ?_)
      · refine gx_vret X hr hA d_Ar_rangeCheck_73 (K _ _ _ ⟨rfl, rfl, rfl⟩)
      · exact absurd ((nI_leI (by omega) (by omega)).mpr hb) h61
    · exact absurd (nI_pos' (by omega)) h47
  · exact absurd ((nI_leI (by omega) (by omega)).mpr hab) h2
theorem c_fill_IR (hk : k ∈ ks) (hlay : lay k = Sum.inr (Sum.inl (0, n))) (hn : n < 2 ^ 31) {a b : Nat} (hab : a ≤ b) (hb : b ≤ n) (x : Int32) : Con l y_Ar_fill_aIIII (Cond.code y_Ar_fill_aIIII b_Ar_fill_aIIII 5 none :: WT) rm_Ar_fill_aIIII D vcl ca ks lay ad [xR k, xI (nI a), xI (nI b), xI x] F L (fun r F' L' => r = none ∧ F' = flF F k a b x ∧ L' = L) := by
  refine Con.ofK (fun post K => ?_)
  refine Con.of (ls := [(0, xR k), (1, xI (nI a)), (2, xI (nI b)), (3, xI x)]) (by decide) rfl rfl (Nat.le_of_ble_eq_true rfl) ?_
  intro p e s m args below meth c A X hr hA
  refine gx_aload_n X d_Ar_fill_aIIII_0 rfl rfl ?_
  refine gx_alen X d_Ar_fill_aIIII_1 hk (τ := 0) (ty := .int) (by rw [hlay]; rfl) rfl rfl (v := nI n) rfl ?_
  refine gx_iload_n X d_Ar_fill_aIIII_2 rfl rfl ?_
  refine gx_iload_n X d_Ar_fill_aIIII_3 rfl rfl ?_
  refine gx_callS X d_Ar_fill_aIIII_4 mf_Ar_rangeCheck lk_Ar_13 (c_rangeCheck hab hb hn) rfl rfl (Nat.le_of_ble_eq_true rfl) ⟨by decide, by decide⟩ ⟨rfl, rfl⟩ ⟨Nat.zero_le _, Nat.zero_le _⟩ (fun r4 F4 L4 hp4 => ?_)
  obtain ⟨rfl, rfl, rfl⟩ := hp4
  refine gx_iload_n X d_Ar_fill_aIIII_7 rfl rfl ?_
  refine gx_istore X d_Ar_fill_aIIII_8 (by decide) ?_
  have loop : ∀ (d i : Nat), a ≤ i → i + d = b → GX p l e rm_Ar_fill_aIIII s m args below meth c (MQ below (gxQ D vcl ca ks lay ad s.heap.size post) args s 0 0 (gxA ks ad s.heap.size)) 5 A D vcl ca ks lay ad 0 0 10 [(4, xI (nI i)), (0, xR k), (1, xI (nI a)), (2, xI (nI b)), (3, xI x)] [] (flF F4 k a i x) L4 := by
    intro d
    induction d with
    | zero =>
      intro i ha hi
      refine gx_iload X d_Ar_fill_aIIII_10 rfl ?_
      refine gx_iload_n X d_Ar_fill_aIIII_12 rfl rfl ?_
      refine gx_icmp_ge X d_Ar_fill_aIIII_13 (tgt := 27) (by decide) (fun h13 => ?_) (fun h13 => ?_)
      · refine gx_vret X hr hA d_Ar_fill_aIIII_27 (K _ _ _ ⟨rfl, by rw [show i = b by omega], rfl⟩)
      · exact absurd ((nI_leI (by omega) (by omega)).mpr (by omega)) h13
    | succ d ih =>
      intro i ha hi
      refine gx_iload X d_Ar_fill_aIIII_10 rfl ?_
      refine gx_iload_n X d_Ar_fill_aIIII_12 rfl rfl ?_
      refine gx_icmp_ge X d_Ar_fill_aIIII_13 (tgt := 27) (by decide) (fun h13 => ?_) (fun h13 => ?_)
      · exact absurd ((nI_leI (by omega) (by omega)).mp h13) (by omega)
      · refine gx_aload_n X d_Ar_fill_aIIII_16 rfl rfl ?_
        refine gx_iload X d_Ar_fill_aIIII_17 rfl ?_
        refine gx_iload_n X d_Ar_fill_aIIII_19 rfl rfl ?_
        refine gx_iast X d_Ar_fill_aIIII_20 hk hlay rfl (by omega) hn ?_
        refine gx_iinc X d_Ar_fill_aIIII_21 rfl (pu_inc _) ?_
        refine gx_goto X d_Ar_fill_aIIII_24 (tgt := 10) (by decide) ?_
        rw [flF_s F4 x ha]
        exact gx_el (ih (i + 1) (by omega) (by omega)) ⟨rfl, rfl, rfl, rfl, rfl, trivial⟩
  have h := loop (b - a) a (by omega) (by omega)
  rw [flF_0] at h
  exact gx_el h ⟨rfl, rfl, rfl, rfl, rfl, trivial⟩
theorem c_fill_BR (hk : k ∈ ks) (hlay : lay k = Sum.inr (Sum.inl (3, n))) (hn : n < 2 ^ 31) {a b : Nat} (hab : a ≤ b) (hb : b ≤ n) : Con l y_Ar_fill_aBIIB (Cond.code y_Ar_fill_aBIIB b_Ar_fill_aBIIB 5 none :: WT) rm_Ar_fill_aBIIB D vcl ca ks lay ad [xR k, xI (nI a), xI (nI b), xI (nI 0)] F L (fun r F' L' => r = none ∧ F' = flF F k a b (nI 0) ∧ L' = L) := by
  refine Con.ofK (fun post K => ?_)
  refine Con.of (ls := [(0, xR k), (1, xI (nI a)), (2, xI (nI b)), (3, xI (nI 0))]) (by decide) rfl rfl (Nat.le_of_ble_eq_true rfl) ?_
  intro p e s m args below meth c A X hr hA
  refine gx_aload_n X d_Ar_fill_aBIIB_0 rfl rfl ?_
  refine gx_alen X d_Ar_fill_aBIIB_1 hk (τ := 3) (ty := .byte) (by rw [hlay]; rfl) rfl rfl (v := nI n) rfl ?_
  refine gx_iload_n X d_Ar_fill_aBIIB_2 rfl rfl ?_
  refine gx_iload_n X d_Ar_fill_aBIIB_3 rfl rfl ?_
  refine gx_callS X d_Ar_fill_aBIIB_4 mf_Ar_rangeCheck lk_Ar_13 (c_rangeCheck hab hb hn) rfl rfl (Nat.le_of_ble_eq_true rfl) ⟨by decide, by decide⟩ ⟨rfl, rfl⟩ ⟨Nat.zero_le _, Nat.zero_le _⟩ (fun r4 F4 L4 hp4 => ?_)
  obtain ⟨rfl, rfl, rfl⟩ := hp4
  refine gx_iload_n X d_Ar_fill_aBIIB_7 rfl rfl ?_
  refine gx_istore X d_Ar_fill_aBIIB_8 (by decide) ?_
  have loop : ∀ (d i : Nat), a ≤ i → i + d = b → GX p l e rm_Ar_fill_aBIIB s m args below meth c (MQ below (gxQ D vcl ca ks lay ad s.heap.size post) args s 0 0 (gxA ks ad s.heap.size)) 5 A D vcl ca ks lay ad 0 0 10 [(4, xI (nI i)), (0, xR k), (1, xI (nI a)), (2, xI (nI b)), (3, xI (nI 0))] [] (flF F4 k a i (nI 0)) L4 := by
    intro d
    induction d with
    | zero =>
      intro i ha hi
      refine gx_iload X d_Ar_fill_aBIIB_10 rfl ?_
      refine gx_iload_n X d_Ar_fill_aBIIB_12 rfl rfl ?_
      refine gx_icmp_ge X d_Ar_fill_aBIIB_13 (tgt := 27) (by decide) (fun h13 => ?_) (fun h13 => ?_)
      · refine gx_vret X hr hA d_Ar_fill_aBIIB_27 (K _ _ _ ⟨rfl, by rw [show i = b by omega], rfl⟩)
      · exact absurd ((nI_leI (by omega) (by omega)).mpr (by omega)) h13
    | succ d ih =>
      intro i ha hi
      refine gx_iload X d_Ar_fill_aBIIB_10 rfl ?_
      refine gx_iload_n X d_Ar_fill_aBIIB_12 rfl rfl ?_
      refine gx_icmp_ge X d_Ar_fill_aBIIB_13 (tgt := 27) (by decide) (fun h13 => ?_) (fun h13 => ?_)
      · exact absurd ((nI_leI (by omega) (by omega)).mp h13) (by omega)
      · refine gx_aload_n X d_Ar_fill_aBIIB_16 rfl rfl ?_
        refine gx_iload X d_Ar_fill_aBIIB_17 rfl ?_
        refine gx_iload_n X d_Ar_fill_aBIIB_19 rfl rfl ?_
        refine gx_bast X d_Ar_fill_aBIIB_20 hk hlay rfl (by omega) hn (v := nI 0) (by decide) ?_
        refine gx_iinc X d_Ar_fill_aBIIB_21 rfl (pu_inc _) ?_
        refine gx_goto X d_Ar_fill_aBIIB_24 (tgt := 10) (by decide) ?_
        rw [flF_s F4 (nI 0) ha]
        exact gx_el (ih (i + 1) (by omega) (by omega)) ⟨rfl, rfl, rfl, rfl, rfl, trivial⟩
  have h := loop (b - a) a (by omega) (by omega)
  rw [flF_0] at h
  exact gx_el h ⟨rfl, rfl, rfl, rfl, rfl, trivial⟩
end
end
section
/-! groups of states by their signatures, purely -/
def prs (N : Nat) (sg : Nat → Nat) (p : Nat) : Bool := (List.range N).any (fun s => Nat.beq (sg s) p)
theorem prs_iff {N : Nat} {sg : Nat → Nat} {p : Nat} : prs N sg p = true ↔ ∃ s, s < N ∧ sg s = p := by
  unfold prs
  rw [List.any_eq_true]
  constructor
  · rintro ⟨s, h1, h2⟩
    exact ⟨s, List.mem_range.mp h1, Nat.eq_of_beq_eq_true h2⟩
  · rintro ⟨s, h1, h2⟩
    exact ⟨s, List.mem_range.mpr h1, by rw [h2]; exact Nat.beq_refl p⟩
theorem prs_false {N : Nat} {sg : Nat → Nat} {p : Nat} : prs N sg p = false ↔ ∀ s, s < N → sg s ≠ p := by
  constructor
  · intro h s hs e
    have := prs_iff.mpr ⟨s, hs, e⟩
    rw [h] at this
    cases this
  · intro h
    cases e : prs N sg p with
    | false => rfl
    | true =>
      obtain ⟨s, a, b⟩ := prs_iff.mp e
      exact absurd b (h s a)
theorem prs_succ (N : Nat) (sg : Nat → Nat) (p : Nat) : prs (N + 1) sg p = (prs N sg p || Nat.beq (sg N) p) := by
  unfold prs
  rw [List.range_succ, List.any_append]
  simp
theorem cnt_ext {P Q : Nat → Bool} : ∀ {n : Nat}, (∀ i, i < n → P i = Q i) → cnt P n = cnt Q n
  | 0, _ => rfl
  | n + 1, h => by
    show cnt P n + cond (P n) 1 0 = cnt Q n + cond (Q n) 1 0
    rw [cnt_ext (fun i hi => h i (by omega)), h n (by omega)]
theorem cnt_or (P : Nat → Bool) (v : Nat) : ∀ M, cnt (fun p => P p || Nat.beq v p) M ≤ cnt P M + (if v < M then 1 else 0)
  | 0 => by simp [cnt]
  | M + 1 => by
    have ih := cnt_or P v M
    show cnt (fun p => P p || Nat.beq v p) M + cond (P M || Nat.beq v M) 1 0 ≤ cnt P M + cond (P M) 1 0 + (if v < M + 1 then 1 else 0)
    by_cases h : v = M
    · rw [if_neg (by omega)] at ih
      rw [if_pos (by omega)]
      cases P M <;> cases Nat.beq v M <;> simp <;> omega
    · have h1 : Nat.beq v M = false := by
        cases e : Nat.beq v M with
        | false => rfl
        | true => exact absurd (Nat.eq_of_beq_eq_true e) h
      rw [h1, Bool.or_false]
      by_cases h3 : v < M
      · rw [if_pos h3] at ih
        rw [if_pos (by omega)]
        omega
      · rw [if_neg h3] at ih
        rw [if_neg (by omega)]
        omega
theorem cnt_prs_le (sg : Nat → Nat) (M : Nat) : ∀ N, cnt (prs N sg) M ≤ N
  | 0 => by
    have : cnt (prs 0 sg) M = cnt (fun _ => false) M := cnt_ext (fun i _ => rfl)
    rw [this]
    clear this
    induction M with
    | zero => exact Nat.le_refl _
    | succ M ih => show cnt (fun _ => false) M + 0 ≤ 0; omega
  | N + 1 => by
    have ih := cnt_prs_le sg M N
    have h1 : cnt (prs (N + 1) sg) M = cnt (fun p => prs N sg p || Nat.beq (sg N) p) M := cnt_ext (fun i _ => prs_succ N sg i)
    have h2 := cnt_or (prs N sg) (sg N) M
    have h3 : (if sg N < M then 1 else 0) ≤ 1 := by split <;> decide
    omega
/-- the number of a state's group -/
def rk (N : Nat) (sg : Nat → Nat) (s : Nat) : Nat := cnt (prs N sg) (sg s)
theorem rk_lt {N np : Nat} {sg : Nat → Nat} (hsg : ∀ s, s < N → sg s < 2 ^ np) {s : Nat} (hs : s < N) : rk N sg s < cnt (prs N sg) (2 ^ np) := cnt_lt (hsg s hs) (prs_iff.mpr ⟨s, hs, rfl⟩)
theorem rk_inj {N : Nat} {sg : Nat → Nat} {s t : Nat} (hs : s < N) (ht : t < N) : rk N sg s = rk N sg t ↔ sg s = sg t := by
  constructor
  · intro h
    unfold rk at h
    rcases Nat.lt_trichotomy (sg s) (sg t) with h1 | h1 | h1
    · have := cnt_lt h1 (prs_iff.mpr ⟨s, hs, rfl⟩ : prs N sg (sg s) = true)
      omega
    · exact h1
    · have := cnt_lt h1 (prs_iff.mpr ⟨t, ht, rfl⟩ : prs N sg (sg t) = true)
      omega
  · intro h
    unfold rk
    rw [h]
/-- every number below the count is a group's -/
theorem rk_at {N np : Nat} {sg : Nat → Nat} {g : Nat} (h : g < cnt (prs N sg) (2 ^ np)) : ∃ s, s < N ∧ rk N sg s = g := by
  obtain ⟨p, -, hp, hc⟩ := cnt_at h
  obtain ⟨s, hs, he⟩ := prs_iff.mp hp
  exact ⟨s, hs, by unfold rk; rw [he]; exact hc⟩
theorem sh1 : ∀ n, n < 31 → (nI 1) <<< (nI n &&& 31) = nI (2 ^ n) := by decide +kernel
/-- places: the group's end, less those before it -/
def gcn (N : Nat) (sg : Nat → Nat) (g : Nat) (t : Nat) : Nat := cnt (fun s => rk N sg s == g) t
def gps (N : Nat) (sg : Nat → Nat) (s : Nat) : Nat := sm (fun g => gcn N sg g N) (rk N sg s + 1) - gcn N sg (rk N sg s) (s + 1)
theorem gcn_s (N : Nat) (sg : Nat → Nat) (t : Nat) : gcn N sg (rk N sg t) (t + 1) = gcn N sg (rk N sg t) t + 1 := by
  unfold gcn
  show cnt _ t + cond (rk N sg t == rk N sg t) 1 0 = _
  simp
theorem gcn_ne (N : Nat) (sg : Nat → Nat) {g t : Nat} (h : rk N sg t ≠ g) : gcn N sg g (t + 1) = gcn N sg g t := by
  unfold gcn
  show cnt _ t + cond (rk N sg t == g) 1 0 = _
  rw [show (rk N sg t == g) = false by simpa using h]
  rfl
theorem gps_in {N np : Nat} {sg : Nat → Nat} {s : Nat} (hs : s < N) : sm (fun g => gcn N sg g N) (rk N sg s) ≤ gps N sg s ∧ gps N sg s < sm (fun g => gcn N sg g N) (rk N sg s + 1) := by
  have h1 : gcn N sg (rk N sg s) (s + 1) ≤ gcn N sg (rk N sg s) N := cnt_mono _ hs
  have h2 := gcn_s N sg s
  have h3 : sm (fun g => gcn N sg g N) (rk N sg s + 1) = sm (fun g => gcn N sg g N) (rk N sg s) + gcn N sg (rk N sg s) N := rfl
  unfold gps
  omega
theorem gps_sum {N np : Nat} {sg : Nat → Nat} (hsg : ∀ s, s < N → sg s < 2 ^ np) : sm (fun g => gcn N sg g N) (cnt (prs N sg) (2 ^ np)) = N :=
  sm_cnt (rk N sg) _ N (fun s hs => rk_lt hsg hs)
theorem gps_lt {N np : Nat} {sg : Nat → Nat} (hsg : ∀ s, s < N → sg s < 2 ^ np) {s : Nat} (hs : s < N) : gps N sg s < N := by
  have h1 := (gps_in (np := np) (sg := sg) hs).2
  have h2 := sm_mono (fun g => gcn N sg g N) (show rk N sg s + 1 ≤ cnt (prs N sg) (2 ^ np) from rk_lt hsg hs)
  rw [gps_sum hsg] at h2
  omega
theorem gps_inj {N np : Nat} {sg : Nat → Nat} {s t : Nat} (hs : s < N) (ht : t < N) (hst : s < t) : gps N sg s ≠ gps N sg t := by
  intro e
  have a := gps_in (np := np) (sg := sg) hs
  have b := gps_in (np := np) (sg := sg) ht
  rcases Nat.lt_trichotomy (rk N sg s) (rk N sg t) with h | h | h
  · have := sm_mono (fun g => gcn N sg g N) (show rk N sg s + 1 ≤ rk N sg t from h)
    omega
  · unfold gps at e
    rw [h] at e
    have h1 : gcn N sg (rk N sg t) (s + 1) ≤ gcn N sg (rk N sg t) t := cnt_mono _ hst
    have h2 := gcn_s N sg t
    have h3 : gcn N sg (rk N sg t) (t + 1) ≤ gcn N sg (rk N sg t) N := cnt_mono _ ht
    have h4 : sm (fun g => gcn N sg g N) (rk N sg t + 1) = sm (fun g => gcn N sg g N) (rk N sg t) + gcn N sg (rk N sg t) N := rfl
    omega
  · have := sm_mono (fun g => gcn N sg g N) (show rk N sg t + 1 ≤ rk N sg s from h)
    omega
/-- every place of a group is one of its states' -/
theorem gps_at {N : Nat} {sg : Nat → Nat} {g i : Nat} (h1 : sm (fun g => gcn N sg g N) g ≤ i) (h2 : i < sm (fun g => gcn N sg g N) (g + 1)) : ∃ s, s < N ∧ rk N sg s = g ∧ gps N sg s = i := by
  have h3 : sm (fun g => gcn N sg g N) (g + 1) = sm (fun g => gcn N sg g N) g + gcn N sg g N := rfl
  have h4 : sm (fun g => gcn N sg g N) (g + 1) - 1 - i < gcn N sg g N := by omega
  obtain ⟨s, a, b, c⟩ := cnt_at h4
  have e : rk N sg s = g := by simpa using b
  refine ⟨s, a, e, ?_⟩
  unfold gps
  have h5 := gcn_s N sg s
  rw [e] at h5 ⊢
  have h6 : gcn N sg g s = sm (fun g => gcn N sg g N) (g + 1) - 1 - i := c
  omega
end
section
section
variable {l : Launch} {D : va_G} {ca : Nat → ClassId} {ks : List Nat} {lay : Nat → gxE} {ad : Nat → Nat} {F : Nat → Nat → Int32} {L : Nat → Nat → Int64} {w np : Nat} {sg : Nat → Nat}
/-- the signatures of the states: np bits each -/
def SgOK (F : Nat → Nat → Int32) (N np : Nat) (sg : Nat → Nat) : Prop := np ≤ 12 ∧ F 14 1 = nI np ∧ ∀ s, s < N → F 15 s = nI (sg s) ∧ sg s < 2 ^ np
theorem pw12 : ∀ n, n ≤ 12 → 2 ^ n ≤ 4096 := by
  intro n h
  exact Nat.pow_le_pow_right (by decide) h
theorem m1ne0 {b : Bool} : (cond b (nI 0) (-1) : Int32) = 0 ↔ b = true := by cases b <;> decide
set_option maxHeartbeats 4000000 in
theorem c_Gr_numberGroups (HX : gH ks lay (2 ^ (3 * w)) sG) (hS : SpOK F w) (hG : SgOK F (2 ^ (3 * w)) np sg) : Con l y_Gr_numberGroups (Cond.code y_Gr_numberGroups b_Gr_numberGroups 3 none :: WT) rm_Gr_numberGroups D vcl ca ks lay ad [xR 14] F L (fun r F' L' => r = none ∧ L' = L ∧ (∀ a, a ≠ 14 → a ≠ 19 → F' a = F a) ∧ F' 14 1 = F 14 1 ∧ F' 14 3 = nI (cnt (prs (2 ^ (3 * w)) sg) (2 ^ np)) ∧ ∀ p, p < 2 ^ np → F' 19 p = cond (prs (2 ^ (3 * w)) sg p) (nI (cnt (prs (2 ^ (3 * w)) sg) p)) (-1)) := by
  have hw : w < 4 := by have := hS.1; omega
  have hN := pu_N w hw
  obtain ⟨hnp, hc, hsg⟩ := hG
  have h4 := pw12 np hnp
  generalize hNe : 2 ^ (3 * w) = N at *
  refine Con.ofK (fun post K => ?_)
  refine Con.of (ls := [(0, xR 14)]) (by decide) rfl rfl (Nat.le_of_ble_eq_true rfl) ?_
  intro p e s m args below meth c A X hr hA
  refine gx_iconst X d_Gr_numberGroups_0 (v := nI 1) (by decide) ?_
  refine gx_aload_n X d_Gr_numberGroups_1 rfl rfl ?_
  refine gx_geti X d_Gr_numberGroups_2 (gci in_Gr) (HX _ rfl).1 (HX _ rfl).2 rfl 1 (by decide) (gcw X lk_Gr_9) (fun _ h => h) rfl ?_
  refine gx_top hc ?_
  refine gx_ishl X d_Gr_numberGroups_5 ?_
  refine gx_top (sh1 np (by omega)) ?_
  refine gx_istore_n X d_Gr_numberGroups_6 rfl (by decide) ?_
  refine gx_aload_n X d_Gr_numberGroups_7 rfl rfl ?_
  refine gx_getr X d_Gr_numberGroups_8 (gci in_Gr) (HX _ rfl).1 (HX _ rfl).2 rfl 7 (by decide) (gcw X lk_Gr_18) (fun _ h => h) rfl ?_
  refine gx_iconst X d_Gr_numberGroups_11 (v := nI 0) (by decide) ?_
  refine gx_iload_n X d_Gr_numberGroups_12 rfl rfl ?_
  refine gx_iconst X d_Gr_numberGroups_13 (v := (-1)) (by decide) ?_
  refine gx_callS X d_Gr_numberGroups_14 mf_Ar_fill_aIIII lk_Gr_55 (c_fill_IR (HX 19 rfl).1 (n := 4096) (HX 19 rfl).2 (by decide) (a := 0) (b := 2 ^ np) (Nat.zero_le _) h4 (-1)) rfl rfl (Nat.le_of_ble_eq_true rfl) ⟨by decide, by decide⟩ ⟨rfl, rfl⟩ ⟨Nat.zero_le _, Nat.zero_le _⟩ (fun r14 F14 L14 hp14 => ?_)
  obtain ⟨rfl, rfl, rfl⟩ := hp14
  have e14 : ∀ a, a ≠ 19 → flF F 19 0 (2 ^ np) (-1) a = F a := fun a h => flF_cell h
  refine gx_iconst X d_Gr_numberGroups_17 (v := nI 0) (by decide) ?_
  refine gx_istore_n X d_Gr_numberGroups_18 rfl (by decide) ?_
  -- the third loop: numbers
  have loop2 : ∀ (d i : Nat) (G : Nat → Nat → Int32), i + d = 2 ^ np → (∀ a, a ≠ 14 → a ≠ 19 → G a = F a) → G 14 1 = F 14 1 → G 14 3 = nI (cnt (prs N sg) i) → (∀ p, p < 2 ^ np → G 19 p = cond (prs N sg p) (if p < i then nI (cnt (prs N sg) p) else nI 0) (-1)) → GX p l e rm_Gr_numberGroups s m args below meth c (MQ below (gxQ D vcl ca ks lay ad s.heap.size post) args s 0 0 (gxA ks ad s.heap.size)) 3 A D vcl ca ks lay ad 0 0 55 [(2, xI (nI i)), (1, xI (nI (2 ^ np))), (0, xR 14)] [] G L14 := by
    intro d
    induction d with
    | zero =>
      intro i G hd h1 h2 h3 h5
      refine gx_iload_n X d_Gr_numberGroups_55 rfl rfl ?_
      refine gx_iload_n X d_Gr_numberGroups_56 rfl rfl ?_
      refine gx_icmp_ge X d_Gr_numberGroups_57 (tgt := 95) (by decide) (fun h57 => ?_) (fun h57 => ?_)
      · refine gx_vret X hr hA d_Gr_numberGroups_95 (K _ _ _ ⟨rfl, rfl, h1, h2, by rw [h3, show i = 2 ^ np by omega], fun p hp => ?_⟩)
        rw [h5 p hp, if_pos (by omega)]
      · exact absurd ((nI_leI (by omega) (by omega)).mpr (by omega)) h57
    | succ d ih =>
      intro i G hd h1 h2 h3 h5
      have hle : cnt (prs N sg) i ≤ i := cnt_le _ _
      have hi := h5 i (by omega)
      rw [if_neg (by omega)] at hi
      refine gx_iload_n X d_Gr_numberGroups_55 rfl rfl ?_
      refine gx_iload_n X d_Gr_numberGroups_56 rfl rfl ?_
      refine gx_icmp_ge X d_Gr_numberGroups_57 (tgt := 95) (by decide) (fun h57 => ?_) (fun h57 => ?_)
      · exact absurd ((nI_leI (by omega) (by omega)).mp h57) (by omega)
      · refine gx_aload_n X d_Gr_numberGroups_60 rfl rfl ?_
        refine gx_getr X d_Gr_numberGroups_61 (gci in_Gr) (HX _ rfl).1 (HX _ rfl).2 rfl 7 (by decide) (gcw X lk_Gr_18) (fun _ h => h) rfl ?_
        refine gx_iload_n X d_Gr_numberGroups_64 rfl rfl ?_
        refine gx_iald X d_Gr_numberGroups_65 (HX _ rfl).1 (HX _ rfl).2 rfl (by omega) (by omega) ?_
        refine gx_top hi ?_
        refine gx_if_ne X d_Gr_numberGroups_66 (tgt := 89) (by decide) (fun h66 => ?_) (fun h66 => ?_)
        · have hp : prs N sg i = false := by
            cases e : prs N sg i with
            | false => rfl
            | true => exact absurd (m1ne0.mpr e) h66
          refine gx_iinc X d_Gr_numberGroups_89 rfl (pu_inc _) ?_
          refine gx_goto X d_Gr_numberGroups_92 (tgt := 55) (by decide) ?_
          refine gx_el (ih (i + 1) G (by omega) h1 h2 (by rw [h3]; show _ = nI (cnt _ i + cond (prs N sg i) 1 0); rw [hp]; rfl) (fun p hp2 => ?_)) ⟨rfl, rfl, rfl, trivial⟩
          rw [h5 p hp2]
          by_cases e : p = i
          · rw [e, hp]; rfl
          · by_cases e2 : p < i
            · rw [if_pos e2, if_pos (by omega)]
            · rw [if_neg e2, if_neg (by omega)]
        · have hp : prs N sg i = true := m1ne0.mp h66
          refine gx_aload_n X d_Gr_numberGroups_69 rfl rfl ?_
          refine gx_getr X d_Gr_numberGroups_70 (gci in_Gr) (HX _ rfl).1 (HX _ rfl).2 rfl 7 (by decide) (gcw X lk_Gr_18) (fun _ h => h) rfl ?_
          refine gx_iload_n X d_Gr_numberGroups_73 rfl rfl ?_
          refine gx_aload_n X d_Gr_numberGroups_74 rfl rfl ?_
          refine gx_geti X d_Gr_numberGroups_75 (gci in_Gr) (HX _ rfl).1 (HX _ rfl).2 rfl 3 (by decide) (gcw X lk_Gr_15) (fun _ h => h) rfl ?_
          refine gx_top h3 ?_
          refine gx_iast X d_Gr_numberGroups_78 (HX _ rfl).1 (HX _ rfl).2 rfl (by omega) (by omega) ?_
          refine gx_aload_n X d_Gr_numberGroups_79 rfl rfl ?_
          refine gx_dup X d_Gr_numberGroups_80 rfl ?_
          refine gx_geti X d_Gr_numberGroups_81 (gci in_Gr) (HX _ rfl).1 (HX _ rfl).2 rfl 3 (by decide) (gcw X lk_Gr_15) (fun _ h => h) rfl ?_
          refine gx_top (y := nI (cnt (prs N sg) i)) (by rw [gxu_cell (by decide)]; exact h3) ?_
          refine gx_iconst X d_Gr_numberGroups_84 (v := nI 1) (by decide) ?_
          refine gx_iadd X d_Gr_numberGroups_85 ?_
          refine gx_top (nI_add _ 1) ?_
          refine gx_puti X d_Gr_numberGroups_86 (gci in_Gr) (HX _ rfl).1 (HX _ rfl).2 rfl 3 (by decide) (gcw X lk_Gr_15) (fun _ h => h) t_Gr ty_Gr nm_Gr rfl (ty_Gr 3 (by decide)) rfl rfl rfl ?_
          refine gx_iinc X d_Gr_numberGroups_89 rfl (pu_inc _) ?_
          refine gx_goto X d_Gr_numberGroups_92 (tgt := 55) (by decide) ?_
          refine gx_el (ih (i + 1) _ (by omega) (fun a a1 a2 => by rw [gxu_cell a1, gxu_cell a2]; exact h1 a a1 a2) (by rw [gxu_ne (by decide), gxu_cell (by decide)]; exact h2) (by rw [gxu_at]; show _ = nI (cnt _ i + cond (prs N sg i) 1 0); rw [hp]; rfl) (fun p hp2 => ?_)) ⟨rfl, rfl, rfl, trivial⟩
          rw [gxu_cell (by decide)]
          by_cases e : p = i
          · rw [e, gxu_at, hp, if_pos (by omega)]; rfl
          · rw [gxu_ne (by omega), h5 p hp2]
            by_cases e2 : p < i
            · rw [if_pos e2, if_pos (by omega)]
            · rw [if_neg e2, if_neg (by omega)]
  -- the first loop: which signatures there are
  have loop1 : ∀ (d i : Nat) (G : Nat → Nat → Int32), i + d = N → (∀ a, a ≠ 19 → G a = F a) → (∀ p, p < 2 ^ np → G 19 p = cond (prs i sg p) (nI 0) (-1)) → GX p l e rm_Gr_numberGroups s m args below meth c (MQ below (gxQ D vcl ca ks lay ad s.heap.size post) args s 0 0 (gxA ks ad s.heap.size)) 3 A D vcl ca ks lay ad 0 0 19 [(2, xI (nI i)), (1, xI (nI (2 ^ np))), (0, xR 14)] [] G L14 := by
    intro d
    induction d with
    | zero =>
      intro i G hd h1 h2
      have e12 : G 1 2 = nI N := by rw [h1 1 (by decide), hS.2.2.2, hNe]
      refine gx_iload_n X d_Gr_numberGroups_19 rfl rfl ?_
      refine gx_aload_n X d_Gr_numberGroups_20 rfl rfl ?_
      refine gx_getr X d_Gr_numberGroups_21 (gci in_Gr) (HX _ rfl).1 (HX _ rfl).2 rfl 0 (by decide) (gcw X lk_Gr_22) (fun _ h => h) rfl ?_
      refine gx_geti X d_Gr_numberGroups_24 (gci in_Sp) (HX _ rfl).1 (HX _ rfl).2 rfl 2 (by decide) (gcw X lk_Gr_26) (fun _ h => h) rfl ?_
      refine gx_top e12 ?_
      refine gx_icmp_ge X d_Gr_numberGroups_27 (tgt := 48) (by decide) (fun h27 => ?_) (fun h27 => ?_)
      · refine gx_aload_n X d_Gr_numberGroups_48 rfl rfl ?_
        refine gx_iconst X d_Gr_numberGroups_49 (v := nI 0) (by decide) ?_
        refine gx_puti X d_Gr_numberGroups_50 (gci in_Gr) (HX _ rfl).1 (HX _ rfl).2 rfl 3 (by decide) (gcw X lk_Gr_15) (fun _ h => h) t_Gr ty_Gr nm_Gr rfl (ty_Gr 3 (by decide)) rfl rfl rfl ?_
        refine gx_iconst X d_Gr_numberGroups_53 (v := nI 0) (by decide) ?_
        refine gx_istore_n X d_Gr_numberGroups_54 rfl (by decide) ?_
        refine gx_el (loop2 (2 ^ np) 0 _ (by omega) (fun a a1 a2 => by rw [gxu_cell a1]; exact h1 a a2) (by rw [gxu_ne (by decide), h1 14 (by decide)]) gxu_at (fun p hp => ?_)) ⟨rfl, rfl, rfl, trivial⟩
        rw [gxu_cell (by decide), h2 p hp, show i = N by omega, if_neg (by omega)]
      · exact absurd ((nI_leI (by omega) (by omega)).mpr (by omega)) h27
    | succ d ih =>
      intro i G hd h1 h2
      have e12 : G 1 2 = nI N := by rw [h1 1 (by decide), hS.2.2.2, hNe]
      obtain ⟨q1, q2⟩ := hsg i (by omega)
      refine gx_iload_n X d_Gr_numberGroups_19 rfl rfl ?_
      refine gx_aload_n X d_Gr_numberGroups_20 rfl rfl ?_
      refine gx_getr X d_Gr_numberGroups_21 (gci in_Gr) (HX _ rfl).1 (HX _ rfl).2 rfl 0 (by decide) (gcw X lk_Gr_22) (fun _ h => h) rfl ?_
      refine gx_geti X d_Gr_numberGroups_24 (gci in_Sp) (HX _ rfl).1 (HX _ rfl).2 rfl 2 (by decide) (gcw X lk_Gr_26) (fun _ h => h) rfl ?_
      refine gx_top e12 ?_
      refine gx_icmp_ge X d_Gr_numberGroups_27 (tgt := 48) (by decide) (fun h27 => ?_) (fun h27 => ?_)
      · exact absurd ((nI_leI (by omega) (by omega)).mp h27) (by omega)
      · refine gx_aload_n X d_Gr_numberGroups_30 rfl rfl ?_
        refine gx_getr X d_Gr_numberGroups_31 (gci in_Gr) (HX _ rfl).1 (HX _ rfl).2 rfl 7 (by decide) (gcw X lk_Gr_18) (fun _ h => h) rfl ?_
        refine gx_aload_n X d_Gr_numberGroups_34 rfl rfl ?_
        refine gx_getr X d_Gr_numberGroups_35 (gci in_Gr) (HX _ rfl).1 (HX _ rfl).2 rfl 2 (by decide) (gcw X lk_Gr_31) (fun _ h => h) rfl ?_
        refine gx_iload_n X d_Gr_numberGroups_38 rfl rfl ?_
        refine gx_iald X d_Gr_numberGroups_39 (HX _ rfl).1 (HX _ rfl).2 rfl (by omega) (by omega) ?_
        refine gx_top (y := nI (sg i)) (by rw [h1 15 (by decide)]; exact q1) ?_
        refine gx_iconst X d_Gr_numberGroups_40 (v := nI 0) (by decide) ?_
        refine gx_iast X d_Gr_numberGroups_41 (HX _ rfl).1 (HX _ rfl).2 rfl (by omega) (by omega) ?_
        refine gx_iinc X d_Gr_numberGroups_42 rfl (pu_inc _) ?_
        refine gx_goto X d_Gr_numberGroups_45 (tgt := 19) (by decide) ?_
        refine gx_el (ih (i + 1) _ (by omega) (fun a a1 => by rw [gxu_cell a1]; exact h1 a a1) (fun p hp => ?_)) ⟨rfl, rfl, rfl, trivial⟩
        rw [prs_succ]
        by_cases e : p = sg i
        · rw [e, gxu_at, Nat.beq_refl, Bool.or_true]; rfl
        · have e2 : Nat.beq (sg i) p = false := by
            cases e3 : Nat.beq (sg i) p with
            | false => rfl
            | true => exact absurd (Nat.eq_of_beq_eq_true e3).symm e
          rw [gxu_ne (by omega), h2 p hp, e2, Bool.or_false]
  refine gx_el (loop1 N 0 _ (by omega) e14 (fun p hp => ?_)) ⟨rfl, rfl, rfl, trivial⟩
  rw [flF_in (by omega) hp]
  rfl
end
end
section
section
variable {l : Launch} {D : va_G} {ca : Nat → ClassId} {ks : List Nat} {lay : Nat → gxE} {ad : Nat → Nat} {F : Nat → Nat → Int32} {L : Nat → Nat → Int64} {w np : Nat} {sg : Nat → Nat}
/-- the groups as they stand in the cells -/
def GrOK (F : Nat → Nat → Int32) (N np : Nat) (sg : Nat → Nat) : Prop := SgOK F N np sg ∧ F 14 3 = nI (cnt (prs N sg) (2 ^ np)) ∧ (∀ s, s < N → F 16 s = nI (rk N sg s)) ∧ (∀ g, g ≤ cnt (prs N sg) (2 ^ np) → F 18 g = nI (sm (fun g => gcn N sg g N) g)) ∧ ∀ s, s < N → F 17 (gps N sg s) = nI s
theorem SgOK.of {G : Nat → Nat → Int32} {N : Nat} (h : SgOK F N np sg) (e14 : G 14 1 = F 14 1) (e15 : G 15 = F 15) : SgOK G N np sg := by
  unfold SgOK
  rw [e14, e15]
  exact h
theorem GrOK.of {G : Nat → Nat → Int32} {N : Nat} (h : GrOK F N np sg) (e : ∀ a, 14 ≤ a → a ≤ 19 → G a = F a) : GrOK G N np sg := by
  unfold GrOK
  rw [e 14 (by omega) (by omega), e 16 (by omega) (by omega), e 17 (by omega) (by omega), e 18 (by omega) (by omega)]
  exact ⟨h.1.of (by rw [e 14 (by omega) (by omega)]) (e 15 (by omega) (by omega)), h.2⟩
set_option maxHeartbeats 4000000 in
theorem c_Gr_placeStates (HX : gH ks lay (2 ^ (3 * w)) sG) (hS : SpOK F w) (hG : SgOK F (2 ^ (3 * w)) np sg) (hgc : F 14 3 = nI (cnt (prs (2 ^ (3 * w)) sg) (2 ^ np))) (h19 : ∀ p, p < 2 ^ np → F 19 p = cond (prs (2 ^ (3 * w)) sg p) (nI (cnt (prs (2 ^ (3 * w)) sg) p)) (-1)) : Con l y_Gr_placeStates (Cond.code y_Gr_placeStates b_Gr_placeStates 3 none :: WT) rm_Gr_placeStates D vcl ca ks lay ad [xR 14] F L (fun r F' L' => r = none ∧ L' = L ∧ (∀ a, a ≠ 16 → a ≠ 17 → a ≠ 18 → F' a = F a) ∧ GrOK F' (2 ^ (3 * w)) np sg) := by
  have hw : w < 4 := by have := hS.1; omega
  have hN := pu_N w hw
  obtain ⟨hnp, hc, hsg⟩ := id hG
  have h4 := pw12 np hnp
  generalize hNe : 2 ^ (3 * w) = N at *
  have hsg2 : ∀ s, s < N → sg s < 2 ^ np := fun s hs => (hsg s hs).2
  have hgN : cnt (prs N sg) (2 ^ np) ≤ N := cnt_prs_le sg _ N
  have hsum := gps_sum (np := np) hsg2
  refine Con.ofK (fun post K => ?_)
  refine Con.of (ls := [(0, xR 14)]) (by decide) rfl rfl (Nat.le_of_ble_eq_true rfl) ?_
  intro p e s m args below meth c A X hr hA
  refine gx_aload_n X d_Gr_placeStates_0 rfl rfl ?_
  refine gx_getr X d_Gr_placeStates_1 (gci in_Gr) (HX _ rfl).1 (HX _ rfl).2 rfl 6 (by decide) (gcw X lk_Gr_40) (fun _ h => h) rfl ?_
  refine gx_iconst X d_Gr_placeStates_4 (v := nI 0) (by decide) ?_
  refine gx_callS X d_Gr_placeStates_5 mf_Ar_fill_aII lk_Gr_49 (c_fill_I (HX 18 rfl).1 (n := N + 1) (HX 18 rfl).2 (by omega) (nI 0)) rfl rfl (Nat.le_of_ble_eq_true rfl) ⟨by decide, by decide⟩ ⟨rfl, rfl⟩ ⟨Nat.zero_le _, Nat.zero_le _⟩ (fun r5 F5 L5 hp5 => ?_)
  obtain ⟨rfl, rfl, rfl⟩ := hp5
  -- the third loop: each state to its place
  have loop3 : ∀ (d t : Nat) (G : Nat → Nat → Int32), t + d = N → (∀ a, a ≠ 16 → a ≠ 17 → a ≠ 18 → G a = F a) → (∀ s, s < N → G 16 s = nI (rk N sg s)) → (∀ g, g ≤ cnt (prs N sg) (2 ^ np) → G 18 g = nI (sm (fun g => gcn N sg g N) (g + 1) - gcn N sg g t)) → (∀ s, s < t → G 17 (gps N sg s) = nI s) → GX p l e rm_Gr_placeStates s m args below meth c (MQ below (gxQ D vcl ca ks lay ad s.heap.size post) args s 0 0 (gxA ks ad s.heap.size)) 3 A D vcl ca ks lay ad 0 0 94 [(1, xI (nI t)), (0, xR 14)] [] G L5 := by
    intro d
    induction d with
    | zero =>
      intro t G hd h1 h2 h3 h5
      have e12 : G 1 2 = nI N := by rw [h1 1 (by decide) (by decide) (by decide), hS.2.2.2, hNe]
      refine gx_iload_n X d_Gr_placeStates_94 rfl rfl ?_
      refine gx_aload_n X d_Gr_placeStates_95 rfl rfl ?_
      refine gx_getr X d_Gr_placeStates_96 (gci in_Gr) (HX _ rfl).1 (HX _ rfl).2 rfl 0 (by decide) (gcw X lk_Gr_22) (fun _ h => h) rfl ?_
      refine gx_geti X d_Gr_placeStates_99 (gci in_Sp) (HX _ rfl).1 (HX _ rfl).2 rfl 2 (by decide) (gcw X lk_Gr_26) (fun _ h => h) rfl ?_
      refine gx_top e12 ?_
      refine gx_icmp_ge X d_Gr_placeStates_102 (tgt := 140) (by decide) (fun h102 => ?_) (fun h102 => ?_)
      · refine gx_vret X hr hA d_Gr_placeStates_140 (K _ _ _ ⟨rfl, rfl, h1, hG.of (by rw [h1 14 (by decide) (by decide) (by decide)]) (h1 15 (by decide) (by decide) (by decide)), by rw [h1 14 (by decide) (by decide) (by decide)]; exact hgc, h2, fun g hg => ?_, fun s hs => h5 s (by omega)⟩)
        rw [h3 g hg, show t = N by omega]
        congr 1
        show sm _ g + gcn N sg g N - gcn N sg g N = _
        omega
      · exact absurd ((nI_leI (by omega) (by omega)).mpr (by omega)) h102
    | succ d ih =>
      intro t G hd h1 h2 h3 h5
      have e12 : G 1 2 = nI N := by rw [h1 1 (by decide) (by decide) (by decide), hS.2.2.2, hNe]
      have htN : t < N := by omega
      have hrk := rk_lt hsg2 htN
      have hps := gps_lt hsg2 htN
      have hin := gps_in (np := np) (sg := sg) htN
      have hgs := gcn_s N sg t
      have hmono : gcn N sg (rk N sg t) (t + 1) ≤ gcn N sg (rk N sg t) N := cnt_mono _ htN
      have hsm : sm (fun g => gcn N sg g N) (rk N sg t + 1) = sm (fun g => gcn N sg g N) (rk N sg t) + gcn N sg (rk N sg t) N := rfl
      have hpe : sm (fun g => gcn N sg g N) (rk N sg t + 1) - gcn N sg (rk N sg t) t - 1 = gps N sg t := by unfold gps; omega
      refine gx_iload_n X d_Gr_placeStates_94 rfl rfl ?_
      refine gx_aload_n X d_Gr_placeStates_95 rfl rfl ?_
      refine gx_getr X d_Gr_placeStates_96 (gci in_Gr) (HX _ rfl).1 (HX _ rfl).2 rfl 0 (by decide) (gcw X lk_Gr_22) (fun _ h => h) rfl ?_
      refine gx_geti X d_Gr_placeStates_99 (gci in_Sp) (HX _ rfl).1 (HX _ rfl).2 rfl 2 (by decide) (gcw X lk_Gr_26) (fun _ h => h) rfl ?_
      refine gx_top e12 ?_
      refine gx_icmp_ge X d_Gr_placeStates_102 (tgt := 140) (by decide) (fun h102 => ?_) (fun h102 => ?_)
      · exact absurd ((nI_leI (by omega) (by omega)).mp h102) (by omega)
      · refine gx_aload_n X d_Gr_placeStates_105 rfl rfl ?_
        refine gx_getr X d_Gr_placeStates_106 (gci in_Gr) (HX _ rfl).1 (HX _ rfl).2 rfl 4 (by decide) (gcw X lk_Gr_34) (fun _ h => h) rfl ?_
        refine gx_iload_n X d_Gr_placeStates_109 rfl rfl ?_
        refine gx_iald X d_Gr_placeStates_110 (HX _ rfl).1 (HX _ rfl).2 rfl (by omega) (by omega) ?_
        refine gx_top (h2 t htN) ?_
        refine gx_istore_n X d_Gr_placeStates_111 rfl (by decide) ?_
        refine gx_aload_n X d_Gr_placeStates_112 rfl rfl ?_
        refine gx_getr X d_Gr_placeStates_113 (gci in_Gr) (HX _ rfl).1 (HX _ rfl).2 rfl 6 (by decide) (gcw X lk_Gr_40) (fun _ h => h) rfl ?_
        refine gx_iload_n X d_Gr_placeStates_116 rfl rfl ?_
        first | refine gx_dup2_11 X d_Gr_placeStates_117 rfl rfl ?_ | refine gx_dup2_2 X d_Gr_placeStates_117 rfl ?_
        refine gx_iald X d_Gr_placeStates_118 (HX _ rfl).1 (HX _ rfl).2 rfl (by omega) (by omega) ?_
        refine gx_top (h3 _ (by omega)) ?_
        refine gx_iconst X d_Gr_placeStates_119 (v := nI 1) (by decide) ?_
        refine gx_isub X d_Gr_placeStates_120 ?_
        refine gx_top (y := nI (gps N sg t)) (by rw [pk_sub (by omega), hpe]) ?_
        refine gx_iast X d_Gr_placeStates_121 (HX _ rfl).1 (HX _ rfl).2 rfl (by omega) (by omega) ?_
        refine gx_aload_n X d_Gr_placeStates_122 rfl rfl ?_
        refine gx_getr X d_Gr_placeStates_123 (gci in_Gr) (HX _ rfl).1 (HX _ rfl).2 rfl 5 (by decide) (gcw X lk_Gr_37) (fun _ h => h) rfl ?_
        refine gx_aload_n X d_Gr_placeStates_126 rfl rfl ?_
        refine gx_getr X d_Gr_placeStates_127 (gci in_Gr) (HX _ rfl).1 (HX _ rfl).2 rfl 6 (by decide) (gcw X lk_Gr_40) (fun _ h => h) rfl ?_
        refine gx_iload_n X d_Gr_placeStates_130 rfl rfl ?_
        refine gx_iald X d_Gr_placeStates_131 (HX _ rfl).1 (HX _ rfl).2 rfl (by omega) (by omega) ?_
        refine gx_top gxu_at ?_
        refine gx_iload_n X d_Gr_placeStates_132 rfl rfl ?_
        refine gx_iast X d_Gr_placeStates_133 (HX _ rfl).1 (HX _ rfl).2 rfl (by omega) (by omega) ?_
        refine gx_iinc X d_Gr_placeStates_134 rfl (pu_inc _) ?_
        refine gx_goto X d_Gr_placeStates_137 (tgt := 94) (by decide) ?_
        refine gx_el (ih (t + 1) _ (by omega) (fun a a1 a2 a3 => by rw [gxu_cell a2, gxu_cell a3]; exact h1 a a1 a2 a3) (fun s hs => by rw [gxu_cell (by decide), gxu_cell (by decide)]; exact h2 s hs) (fun g hg => ?_) (fun s hs => ?_)) ⟨rfl, rfl, trivial⟩
        · rw [gxu_cell (by decide)]
          by_cases e : g = rk N sg t
          · rw [e, gxu_at]; rfl
          · rw [gxu_ne (fun z => e z.2), h3 g hg, gcn_ne N sg (Ne.symm e)]
        · by_cases e : s = t
          · rw [e, gxu_at]
          · have hne : gps N sg s ≠ gps N sg t := gps_inj (np := np) (by omega) htN (by omega)
            rw [gxu_ne (fun z => hne z.2), gxu_cell (by decide), h5 s (by omega)]
  -- the second loop: the groups' ends
  have loop2 : ∀ (d i : Nat) (G : Nat → Nat → Int32), i + d = cnt (prs N sg) (2 ^ np) + 1 → 1 ≤ i → (∀ a, a ≠ 16 → a ≠ 17 → a ≠ 18 → G a = F a) → (∀ s, s < N → G 16 s = nI (rk N sg s)) → (∀ g, g ≤ N → G 18 g = nI (if g < i then sm (fun g => gcn N sg g N) (g + 1) else gcn N sg g N)) → GX p l e rm_Gr_placeStates s m args below meth c (MQ below (gxQ D vcl ca ks lay ad s.heap.size post) args s 0 0 (gxA ks ad s.heap.size)) 3 A D vcl ca ks lay ad 0 0 61 [(1, xI (nI i)), (0, xR 14)] [] G L5 := by
    intro d
    induction d with
    | zero =>
      intro i G hd hi h1 h2 h3
      have e14 : G 14 3 = nI (cnt (prs N sg) (2 ^ np)) := by rw [h1 14 (by decide) (by decide) (by decide)]; exact hgc
      refine gx_iload_n X d_Gr_placeStates_61 rfl rfl ?_
      refine gx_aload_n X d_Gr_placeStates_62 rfl rfl ?_
      refine gx_geti X d_Gr_placeStates_63 (gci in_Gr) (HX _ rfl).1 (HX _ rfl).2 rfl 3 (by decide) (gcw X lk_Gr_15) (fun _ h => h) rfl ?_
      refine gx_top e14 ?_
      refine gx_icmp_gt X d_Gr_placeStates_66 (tgt := 92) (by decide) (fun h66 => ?_) (fun h66 => ?_)
      · refine gx_iconst X d_Gr_placeStates_92 (v := nI 0) (by decide) ?_
        refine gx_istore_n X d_Gr_placeStates_93 rfl (by decide) ?_
        refine gx_el (loop3 N 0 G (by omega) h1 h2 (fun g hg => ?_) (fun s hs => absurd hs (by omega))) ⟨rfl, rfl, trivial⟩
        rw [h3 g (by omega), if_pos (by omega)]
        rfl
      · exact absurd ((nI_ltI (by omega) (by omega)).mpr (by omega)) h66
    | succ d ih =>
      intro i G hd hi h1 h2 h3
      have e14 : G 14 3 = nI (cnt (prs N sg) (2 ^ np)) := by rw [h1 14 (by decide) (by decide) (by decide)]; exact hgc
      refine gx_iload_n X d_Gr_placeStates_61 rfl rfl ?_
      refine gx_aload_n X d_Gr_placeStates_62 rfl rfl ?_
      refine gx_geti X d_Gr_placeStates_63 (gci in_Gr) (HX _ rfl).1 (HX _ rfl).2 rfl 3 (by decide) (gcw X lk_Gr_15) (fun _ h => h) rfl ?_
      refine gx_top e14 ?_
      refine gx_icmp_gt X d_Gr_placeStates_66 (tgt := 92) (by decide) (fun h66 => ?_) (fun h66 => ?_)
      · exact absurd ((nI_ltI (by omega) (by omega)).mp h66) (by omega)
      · have a1 := h3 i (by omega)
        rw [if_neg (by omega)] at a1
        have a2 := h3 (i - 1) (by omega)
        rw [if_pos (by omega), show i - 1 + 1 = i by omega] at a2
        refine gx_aload_n X d_Gr_placeStates_69 rfl rfl ?_
        refine gx_getr X d_Gr_placeStates_70 (gci in_Gr) (HX _ rfl).1 (HX _ rfl).2 rfl 6 (by decide) (gcw X lk_Gr_40) (fun _ h => h) rfl ?_
        refine gx_iload_n X d_Gr_placeStates_73 rfl rfl ?_
        first | refine gx_dup2_11 X d_Gr_placeStates_74 rfl rfl ?_ | refine gx_dup2_2 X d_Gr_placeStates_74 rfl ?_
        refine gx_iald X d_Gr_placeStates_75 (HX _ rfl).1 (HX _ rfl).2 rfl (by omega) (by omega) ?_
        refine gx_top a1 ?_
        refine gx_aload_n X d_Gr_placeStates_76 rfl rfl ?_
        refine gx_getr X d_Gr_placeStates_77 (gci in_Gr) (HX _ rfl).1 (HX _ rfl).2 rfl 6 (by decide) (gcw X lk_Gr_40) (fun _ h => h) rfl ?_
        refine gx_iload_n X d_Gr_placeStates_80 rfl rfl ?_
        refine gx_iconst X d_Gr_placeStates_81 (v := nI 1) (by decide) ?_
        refine gx_isub X d_Gr_placeStates_82 ?_
        refine gx_top (y := nI (i - 1)) (pk_sub hi) ?_
        refine gx_iald X d_Gr_placeStates_83 (HX _ rfl).1 (HX _ rfl).2 rfl (by omega) (by omega) ?_
        refine gx_top a2 ?_
        refine gx_iadd X d_Gr_placeStates_84 ?_
        refine gx_top (nI_add _ _) ?_
        refine gx_iast X d_Gr_placeStates_85 (HX _ rfl).1 (HX _ rfl).2 rfl (by omega) (by omega) ?_
        refine gx_iinc X d_Gr_placeStates_86 rfl (pu_inc _) ?_
        refine gx_goto X d_Gr_placeStates_89 (tgt := 61) (by decide) ?_
        refine gx_el (ih (i + 1) _ (by omega) (by omega) (fun a b1 b2 b3 => by rw [gxu_cell b3]; exact h1 a b1 b2 b3) (fun s hs => by rw [gxu_cell (by decide)]; exact h2 s hs) (fun g hg => ?_)) ⟨rfl, rfl, trivial⟩
        by_cases e : g = i
        · rw [e, gxu_at, if_pos (by omega)]
          congr 1
          show gcn N sg i N + sm _ i = sm _ i + gcn N sg i N
          omega
        · rw [gxu_ne (fun z => e z.2), h3 g hg]
          by_cases e2 : g < i
          · rw [if_pos e2, if_pos (by omega)]
          · rw [if_neg e2, if_neg (by omega)]
  -- the first loop: the states' groups, and how many each has
  have loop1 : ∀ (d i : Nat) (G : Nat → Nat → Int32), i + d = N → (∀ a, a ≠ 16 → a ≠ 17 → a ≠ 18 → G a = F a) → (∀ s, s < i → G 16 s = nI (rk N sg s)) → (∀ g, g ≤ N → G 18 g = nI (gcn N sg g i)) → GX p l e rm_Gr_placeStates s m args below meth c (MQ below (gxQ D vcl ca ks lay ad s.heap.size post) args s 0 0 (gxA ks ad s.heap.size)) 3 A D vcl ca ks lay ad 0 0 10 [(1, xI (nI i)), (0, xR 14)] [] G L5 := by
    intro d
    induction d with
    | zero =>
      intro i G hd h1 h2 h3
      have e12 : G 1 2 = nI N := by rw [h1 1 (by decide) (by decide) (by decide), hS.2.2.2, hNe]
      refine gx_iload_n X d_Gr_placeStates_10 rfl rfl ?_
      refine gx_aload_n X d_Gr_placeStates_11 rfl rfl ?_
      refine gx_getr X d_Gr_placeStates_12 (gci in_Gr) (HX _ rfl).1 (HX _ rfl).2 rfl 0 (by decide) (gcw X lk_Gr_22) (fun _ h => h) rfl ?_
      refine gx_geti X d_Gr_placeStates_15 (gci in_Sp) (HX _ rfl).1 (HX _ rfl).2 rfl 2 (by decide) (gcw X lk_Gr_26) (fun _ h => h) rfl ?_
      refine gx_top e12 ?_
      refine gx_icmp_ge X d_Gr_placeStates_18 (tgt := 59) (by decide) (fun h18 => ?_) (fun h18 => ?_)
      · refine gx_iconst X d_Gr_placeStates_59 (v := nI 1) (by decide) ?_
        refine gx_istore_n X d_Gr_placeStates_60 rfl (by decide) ?_
        refine gx_el (loop2 (cnt (prs N sg) (2 ^ np)) 1 G (by omega) (by omega) h1 (fun s hs => h2 s (by omega)) (fun g hg => ?_)) ⟨rfl, rfl, trivial⟩
        rw [h3 g hg, show i = N by omega]
        by_cases e : g < 1
        · rw [if_pos e, show g = 0 by omega]
          congr 1
          show _ = 0 + gcn N sg 0 N
          omega
        · rw [if_neg e]
      · exact absurd ((nI_leI (by omega) (by omega)).mpr (by omega)) h18
    | succ d ih =>
      intro i G hd h1 h2 h3
      have e12 : G 1 2 = nI N := by rw [h1 1 (by decide) (by decide) (by decide), hS.2.2.2, hNe]
      obtain ⟨q1, q2⟩ := hsg i (by omega)
      have hrk := rk_lt hsg2 (show i < N by omega)
      have e19 : G 19 (sg i) = nI (rk N sg i) := by
        rw [h1 19 (by decide) (by decide) (by decide), h19 _ q2, prs_iff.mpr ⟨i, by omega, rfl⟩]
        rfl
      refine gx_iload_n X d_Gr_placeStates_10 rfl rfl ?_
      refine gx_aload_n X d_Gr_placeStates_11 rfl rfl ?_
      refine gx_getr X d_Gr_placeStates_12 (gci in_Gr) (HX _ rfl).1 (HX _ rfl).2 rfl 0 (by decide) (gcw X lk_Gr_22) (fun _ h => h) rfl ?_
      refine gx_geti X d_Gr_placeStates_15 (gci in_Sp) (HX _ rfl).1 (HX _ rfl).2 rfl 2 (by decide) (gcw X lk_Gr_26) (fun _ h => h) rfl ?_
      refine gx_top e12 ?_
      refine gx_icmp_ge X d_Gr_placeStates_18 (tgt := 59) (by decide) (fun h18 => ?_) (fun h18 => ?_)
      · exact absurd ((nI_leI (by omega) (by omega)).mp h18) (by omega)
      · refine gx_aload_n X d_Gr_placeStates_21 rfl rfl ?_
        refine gx_getr X d_Gr_placeStates_22 (gci in_Gr) (HX _ rfl).1 (HX _ rfl).2 rfl 4 (by decide) (gcw X lk_Gr_34) (fun _ h => h) rfl ?_
        refine gx_iload_n X d_Gr_placeStates_25 rfl rfl ?_
        refine gx_aload_n X d_Gr_placeStates_26 rfl rfl ?_
        refine gx_getr X d_Gr_placeStates_27 (gci in_Gr) (HX _ rfl).1 (HX _ rfl).2 rfl 7 (by decide) (gcw X lk_Gr_18) (fun _ h => h) rfl ?_
        refine gx_aload_n X d_Gr_placeStates_30 rfl rfl ?_
        refine gx_getr X d_Gr_placeStates_31 (gci in_Gr) (HX _ rfl).1 (HX _ rfl).2 rfl 2 (by decide) (gcw X lk_Gr_31) (fun _ h => h) rfl ?_
        refine gx_iload_n X d_Gr_placeStates_34 rfl rfl ?_
        refine gx_iald X d_Gr_placeStates_35 (HX _ rfl).1 (HX _ rfl).2 rfl (by omega) (by omega) ?_
        refine gx_top (y := nI (sg i)) (by rw [h1 15 (by decide) (by decide) (by decide)]; exact q1) ?_
        refine gx_iald X d_Gr_placeStates_36 (HX _ rfl).1 (HX _ rfl).2 rfl (by omega) (by omega) ?_
        refine gx_top e19 ?_
        refine gx_iast X d_Gr_placeStates_37 (HX _ rfl).1 (HX _ rfl).2 rfl (by omega) (by omega) ?_
        refine gx_aload_n X d_Gr_placeStates_38 rfl rfl ?_
        refine gx_getr X d_Gr_placeStates_39 (gci in_Gr) (HX _ rfl).1 (HX _ rfl).2 rfl 6 (by decide) (gcw X lk_Gr_40) (fun _ h => h) rfl ?_
        refine gx_aload_n X d_Gr_placeStates_42 rfl rfl ?_
        refine gx_getr X d_Gr_placeStates_43 (gci in_Gr) (HX _ rfl).1 (HX _ rfl).2 rfl 4 (by decide) (gcw X lk_Gr_34) (fun _ h => h) rfl ?_
        refine gx_iload_n X d_Gr_placeStates_46 rfl rfl ?_
        refine gx_iald X d_Gr_placeStates_47 (HX _ rfl).1 (HX _ rfl).2 rfl (by omega) (by omega) ?_
        refine gx_top gxu_at ?_
        first | refine gx_dup2_11 X d_Gr_placeStates_48 rfl rfl ?_ | refine gx_dup2_2 X d_Gr_placeStates_48 rfl ?_
        refine gx_iald X d_Gr_placeStates_49 (HX _ rfl).1 (HX _ rfl).2 rfl (by omega) (by omega) ?_
        refine gx_top (y := nI (gcn N sg (rk N sg i) i)) (by rw [gxu_cell (by decide)]; exact h3 _ (by omega)) ?_
        refine gx_iconst X d_Gr_placeStates_50 (v := nI 1) (by decide) ?_
        refine gx_iadd X d_Gr_placeStates_51 ?_
        refine gx_top (nI_add _ 1) ?_
        refine gx_iast X d_Gr_placeStates_52 (HX _ rfl).1 (HX _ rfl).2 rfl (by omega) (by omega) ?_
        refine gx_iinc X d_Gr_placeStates_53 rfl (pu_inc _) ?_
        refine gx_goto X d_Gr_placeStates_56 (tgt := 10) (by decide) ?_
        refine gx_el (ih (i + 1) _ (by omega) (fun a b1 b2 b3 => by rw [gxu_cell b3, gxu_cell b1]; exact h1 a b1 b2 b3) (fun s hs => ?_) (fun g hg => ?_)) ⟨rfl, rfl, trivial⟩
        · rw [gxu_cell (by decide)]
          by_cases e : s = i
          · rw [e, gxu_at]
          · rw [gxu_ne (fun z => e z.2), h2 s (by omega)]
        · by_cases e : g = rk N sg i
          · rw [e, gxu_at, gcn_s]
          · rw [gxu_ne (fun z => e z.2), gxu_cell (by decide), h3 g hg, gcn_ne N sg (Ne.symm e)]
  refine gx_iconst X d_Gr_placeStates_8 (v := nI 0) (by decide) ?_
  refine gx_istore_n X d_Gr_placeStates_9 rfl (by decide) ?_
  refine gx_el (loop1 N 0 _ (by omega) (fun a b1 b2 b3 => flF_cell b3) (fun s hs => absurd hs (by omega)) (fun g hg => ?_)) ⟨rfl, rfl, trivial⟩
  rw [flF_in (by omega) (by omega)]
  rfl
end
end
section
section
variable {l : Launch} {D : va_G} {ca : Nat → ClassId} {ks : List Nat} {lay : Nat → gxE} {ad : Nat → Nat} {F : Nat → Nat → Int32} {L : Nat → Nat → Int64} {w np : Nat} {sg : Nat → Nat}
set_option maxRecDepth 100000 in
theorem or_bit : ∀ n, n < 12 → ∀ g, g < 2 ^ n → nI g ||| nI (2 ^ n) = nI (g + 2 ^ n) := by decide +kernel
theorem c_Gr_isFull (HX : gH ks lay (2 ^ (3 * w)) sG) (hnp : np ≤ 12) (hc : F 14 1 = nI np) : Con l y_Gr_isFull (Cond.code y_Gr_isFull b_Gr_isFull 1 (some .boolean) :: WT) rm_Gr_isFull D vcl ca ks lay ad [xR 14] F L (fun r F' L' => r = some (xI (cond (decide (12 ≤ np)) 1 0)) ∧ F' = F ∧ L' = L) := by
  refine Con.ofK (fun post K => ?_)
  refine Con.of (ls := [(0, xR 14)]) (by decide) rfl rfl (Nat.le_of_ble_eq_true rfl) ?_
  intro p e s m args below meth c A X hr hA
  refine gx_aload_n X d_Gr_isFull_0 rfl rfl ?_
  refine gx_geti X d_Gr_isFull_1 (gci in_Gr) (HX _ rfl).1 (HX _ rfl).2 rfl 1 (by decide) (gcw X lk_Gr_9) (fun _ h => h) rfl ?_
  refine gx_top hc ?_
  refine gx_bipush X d_Gr_isFull_4 (v := nI 12) (by decide) ?_
  refine gx_icmp_lt X d_Gr_isFull_6 (tgt := 13) (by decide) (fun h6 => ?_) (fun h6 => ?_)
  · have : np < 12 := (nI_ltI (by omega) (by decide)).mp h6
    refine gx_iconst X d_Gr_isFull_13 (v := nI 0) (by decide) ?_
    refine gx_zret X hr (by first | rfl | decide) hA d_Gr_isFull_14 (K _ _ _ ⟨by rw [decide_eq_false (by omega)]; rfl, rfl, rfl⟩)
  · have : ¬ np < 12 := fun z => h6 ((nI_ltI (by omega) (by decide)).mpr z)
    refine gx_iconst X d_Gr_isFull_9 (v := nI 1) (by decide) ?_
    refine gx_goto X d_Gr_isFull_10 (tgt := 14) (by decide) ?_
    refine gx_zret X hr (by first | rfl | decide) hA d_Gr_isFull_14 (K _ _ _ ⟨by rw [decide_eq_true (by omega)]; rfl, rfl, rfl⟩)
theorem c_Gr_include (HX : gH ks lay (2 ^ (3 * w)) sG) (hw : w < 4) (hnp : np < 12) (hc : F 14 1 = nI np) {q g : Nat} (hq : q < 2 ^ (3 * w)) (h15 : F 15 q = nI g) (hg : g < 2 ^ np) : Con l y_Gr_include (Cond.code y_Gr_include b_Gr_include 2 none :: WT) rm_Gr_include D vcl ca ks lay ad [xR 14, xI (nI q)] F L (fun r F' L' => r = none ∧ F' = gxu F 15 q (nI (g + 2 ^ np)) ∧ L' = L) := by
  have hN := pu_N w hw
  refine Con.ofK (fun post K => ?_)
  refine Con.of (ls := [(0, xR 14), (1, xI (nI q))]) (by decide) rfl rfl (Nat.le_of_ble_eq_true rfl) ?_
  intro p e s m args below meth c A X hr hA
  refine gx_aload_n X d_Gr_include_0 rfl rfl ?_
  refine gx_getr X d_Gr_include_1 (gci in_Gr) (HX _ rfl).1 (HX _ rfl).2 rfl 2 (by decide) (gcw X lk_Gr_31) (fun _ h => h) rfl ?_
  refine gx_iload_n X d_Gr_include_4 rfl rfl ?_
  first | refine gx_dup2_11 X d_Gr_include_5 rfl rfl ?_ | refine gx_dup2_2 X d_Gr_include_5 rfl ?_
  refine gx_iald X d_Gr_include_6 (HX _ rfl).1 (HX _ rfl).2 rfl (by omega) (by omega) ?_
  refine gx_top h15 ?_
  refine gx_iconst X d_Gr_include_7 (v := nI 1) (by decide) ?_
  refine gx_aload_n X d_Gr_include_8 rfl rfl ?_
  refine gx_geti X d_Gr_include_9 (gci in_Gr) (HX _ rfl).1 (HX _ rfl).2 rfl 1 (by decide) (gcw X lk_Gr_9) (fun _ h => h) rfl ?_
  refine gx_top hc ?_
  refine gx_ishl X d_Gr_include_12 ?_
  refine gx_top (sh1 np (by omega)) ?_
  refine gx_ior X d_Gr_include_13 ?_
  refine gx_top (or_bit np hnp g hg) ?_
  refine gx_iast X d_Gr_include_14 (HX _ rfl).1 (HX _ rfl).2 rfl (by omega) (by omega) ?_
  refine gx_vret X hr hA d_Gr_include_15 (K _ _ _ ⟨rfl, rfl, rfl⟩)
/-- endPredicate(): the states' new signatures stand already -/
theorem c_Gr_endPredicate (HX : gH ks lay (2 ^ (3 * w)) sG) (hS : SpOK F w) (hnp : np < 12) (hc : F 14 1 = nI np) (h15 : ∀ s, s < 2 ^ (3 * w) → F 15 s = nI (sg s) ∧ sg s < 2 ^ (np + 1)) : Con l y_Gr_endPredicate (Cond.code y_Gr_endPredicate b_Gr_endPredicate 1 none :: WT) rm_Gr_endPredicate D vcl ca ks lay ad [xR 14] F L (fun r F' L' => r = none ∧ L' = L ∧ (∀ a, ¬ (14 ≤ a ∧ a ≤ 19) → F' a = F a) ∧ F' 15 = F 15 ∧ GrOK F' (2 ^ (3 * w)) (np + 1) sg) := by
  refine Con.ofK (fun post K => ?_)
  refine Con.of (ls := [(0, xR 14)]) (by decide) rfl rfl (Nat.le_of_ble_eq_true rfl) ?_
  intro p e s m args below meth c A X hr hA
  refine gx_aload_n X d_Gr_endPredicate_0 rfl rfl ?_
  refine gx_dup X d_Gr_endPredicate_1 rfl ?_
  refine gx_geti X d_Gr_endPredicate_2 (gci in_Gr) (HX _ rfl).1 (HX _ rfl).2 rfl 1 (by decide) (gcw X lk_Gr_9) (fun _ h => h) rfl ?_
  refine gx_top hc ?_
  refine gx_iconst X d_Gr_endPredicate_5 (v := nI 1) (by decide) ?_
  refine gx_iadd X d_Gr_endPredicate_6 ?_
  refine gx_top (nI_add np 1) ?_
  refine gx_puti X d_Gr_endPredicate_7 (gci in_Gr) (HX _ rfl).1 (HX _ rfl).2 rfl 1 (by decide) (gcw X lk_Gr_9) (fun _ h => h) t_Gr ty_Gr nm_Gr rfl (ty_Gr 1 (by decide)) rfl rfl rfl ?_
  refine gx_aload_n X d_Gr_endPredicate_10 rfl rfl ?_
  have hS1 : SpOK (gxu F 14 1 (nI (np + 1))) w := hS.of (gxu_cell (by decide))
  have hG1 : SgOK (gxu F 14 1 (nI (np + 1))) (2 ^ (3 * w)) (np + 1) sg := ⟨by omega, gxu_at, fun s hs => by rw [gxu_cell (by decide)]; exact h15 s hs⟩
  refine gx_callV X d_Gr_endPredicate_11 mf_Gr_numberGroups lk_Gr_43 (c_Gr_numberGroups HX hS1 hG1) (HX _ rfl).1 (HX _ rfl).2 rfl rfl rfl (Nat.le_of_ble_eq_true rfl) ⟨by decide, by decide⟩ ⟨rfl, rfl⟩ ⟨Nat.zero_le _, Nat.zero_le _⟩ (fun r11 F11 L11 hp11 => ?_)
  obtain ⟨rfl, rfl, g1, g2, g3, g4⟩ := hp11
  refine gx_aload_n X d_Gr_endPredicate_14 rfl rfl ?_
  refine gx_callV X d_Gr_endPredicate_15 mf_Gr_placeStates lk_Gr_46 (c_Gr_placeStates HX (hS1.of (g1 1 (by decide) (by decide))) (hG1.of g2 (g1 15 (by decide) (by decide))) g3 g4) (HX _ rfl).1 (HX _ rfl).2 rfl rfl rfl (Nat.le_of_ble_eq_true rfl) ⟨by decide, by decide⟩ ⟨rfl, rfl⟩ ⟨Nat.zero_le _, Nat.zero_le _⟩ (fun r15 F15 L15 hp15 => ?_)
  obtain ⟨rfl, rfl, f1, f2⟩ := hp15
  refine gx_vret X hr hA d_Gr_endPredicate_18 (K _ _ _ ⟨rfl, rfl, fun a ha => by rw [f1 a (by omega) (by omega) (by omega), g1 a (by omega) (by omega), gxu_cell (by omega)], by rw [f1 15 (by decide) (by decide) (by decide), g1 15 (by decide) (by decide), gxu_cell (by decide)], f2⟩)
theorem c_Gr_dropPredicates (HX : gH ks lay (2 ^ (3 * w)) sG) (hS : SpOK F w) : Con l y_Gr_dropPredicates (Cond.code y_Gr_dropPredicates b_Gr_dropPredicates 1 none :: WT) rm_Gr_dropPredicates D vcl ca ks lay ad [xR 14] F L (fun r F' L' => r = none ∧ L' = L ∧ (∀ a, ¬ (14 ≤ a ∧ a ≤ 19) → F' a = F a) ∧ GrOK F' (2 ^ (3 * w)) 0 (fun _ => 0)) := by
  have hN := pu_N w (by have := hS.1; omega)
  refine Con.ofK (fun post K => ?_)
  refine Con.of (ls := [(0, xR 14)]) (by decide) rfl rfl (Nat.le_of_ble_eq_true rfl) ?_
  intro p e s m args below meth c A X hr hA
  refine gx_aload_n X d_Gr_dropPredicates_0 rfl rfl ?_
  refine gx_iconst X d_Gr_dropPredicates_1 (v := nI 0) (by decide) ?_
  refine gx_puti X d_Gr_dropPredicates_2 (gci in_Gr) (HX _ rfl).1 (HX _ rfl).2 rfl 1 (by decide) (gcw X lk_Gr_9) (fun _ h => h) t_Gr ty_Gr nm_Gr rfl (ty_Gr 1 (by decide)) rfl rfl rfl ?_
  refine gx_aload_n X d_Gr_dropPredicates_5 rfl rfl ?_
  refine gx_getr X d_Gr_dropPredicates_6 (gci in_Gr) (HX _ rfl).1 (HX _ rfl).2 rfl 2 (by decide) (gcw X lk_Gr_31) (fun _ h => h) rfl ?_
  refine gx_iconst X d_Gr_dropPredicates_9 (v := nI 0) (by decide) ?_
  refine gx_callS X d_Gr_dropPredicates_10 mf_Ar_fill_aII lk_Gr_49 (c_fill_I (HX 15 rfl).1 (n := 2 ^ (3 * w)) (HX 15 rfl).2 (by omega) (nI 0)) rfl rfl (Nat.le_of_ble_eq_true rfl) ⟨by decide, by decide⟩ ⟨rfl, rfl⟩ ⟨Nat.zero_le _, Nat.zero_le _⟩ (fun r10 F10 L10 hp10 => ?_)
  obtain ⟨rfl, rfl, rfl⟩ := hp10
  refine gx_aload_n X d_Gr_dropPredicates_13 rfl rfl ?_
  have hS1 : SpOK (flF (gxu F 14 1 (nI 0)) 15 0 (2 ^ (3 * w)) (nI 0)) w := hS.of (by rw [flF_cell (by decide), gxu_cell (by decide)])
  have hG1 : SgOK (flF (gxu F 14 1 (nI 0)) 15 0 (2 ^ (3 * w)) (nI 0)) (2 ^ (3 * w)) 0 (fun _ => 0) := ⟨by omega, by rw [flF_cell (by decide)]; exact gxu_at, fun s hs => ⟨flF_in (by omega) hs, Nat.one_pos⟩⟩
  refine gx_callV X d_Gr_dropPredicates_14 mf_Gr_numberGroups lk_Gr_43 (c_Gr_numberGroups HX hS1 hG1) (HX _ rfl).1 (HX _ rfl).2 rfl rfl rfl (Nat.le_of_ble_eq_true rfl) ⟨by decide, by decide⟩ ⟨rfl, rfl⟩ ⟨Nat.zero_le _, Nat.zero_le _⟩ (fun r14 F14 L14 hp14 => ?_)
  obtain ⟨rfl, rfl, g1, g2, g3, g4⟩ := hp14
  refine gx_aload_n X d_Gr_dropPredicates_17 rfl rfl ?_
  refine gx_callV X d_Gr_dropPredicates_18 mf_Gr_placeStates lk_Gr_46 (c_Gr_placeStates HX (hS1.of (g1 1 (by decide) (by decide))) (hG1.of g2 (g1 15 (by decide) (by decide))) g3 g4) (HX _ rfl).1 (HX _ rfl).2 rfl rfl rfl (Nat.le_of_ble_eq_true rfl) ⟨by decide, by decide⟩ ⟨rfl, rfl⟩ ⟨Nat.zero_le _, Nat.zero_le _⟩ (fun r18 F18 L18 hp18 => ?_)
  obtain ⟨rfl, rfl, f1, f2⟩ := hp18
  refine gx_vret X hr hA d_Gr_dropPredicates_21 (K _ _ _ ⟨rfl, rfl, fun a ha => by rw [f1 a (by omega) (by omega) (by omega), g1 a (by omega) (by omega), flF_cell (by omega), gxu_cell (by omega)], f2⟩)
/-- the first place of a group is a state of it -/
theorem rep_at {N : Nat} (hsg : ∀ s, s < N → sg s < 2 ^ np) {s : Nat} (hs : s < N) : ∃ t, t < N ∧ rk N sg t = rk N sg s ∧ gps N sg t = sm (fun g => gcn N sg g N) (rk N sg s) := by
  have h := gps_in (np := np) (sg := sg) hs
  exact gps_at (Nat.le_refl _) (by omega)
theorem c_Gr_signatureOf (HX : gH ks lay (2 ^ (3 * w)) sG) (hw : w < 4) (hG : GrOK F (2 ^ (3 * w)) np sg) {q : Nat} (hq : q < 2 ^ (3 * w)) : Con l y_Gr_signatureOf (Cond.code y_Gr_signatureOf b_Gr_signatureOf 2 (some .int) :: WT) rm_Gr_signatureOf D vcl ca ks lay ad [xR 14, xI (nI (rk (2 ^ (3 * w)) sg q))] F L (fun r F' L' => r = some (xI (nI (sg q))) ∧ F' = F ∧ L' = L) := by
  have hN := pu_N w hw
  obtain ⟨⟨h1, h2, h3⟩, h4, h5, h6, h7⟩ := hG
  generalize 2 ^ (3 * w) = N at *
  have hsg2 : ∀ s, s < N → sg s < 2 ^ np := fun s hs => (h3 s hs).2
  have hrk := rk_lt hsg2 hq
  have hgN : cnt (prs N sg) (2 ^ np) ≤ N := cnt_prs_le sg _ N
  obtain ⟨t, t1, t2, t3⟩ := rep_at hsg2 hq
  have t4 := gps_lt hsg2 t1
  have e17 := h7 t t1
  rw [t3] at e17 t4
  refine Con.ofK (fun post K => ?_)
  refine Con.of (ls := [(0, xR 14), (1, xI (nI (rk N sg q)))]) (by decide) rfl rfl (Nat.le_of_ble_eq_true rfl) ?_
  intro p e s m args below meth c A X hr hA
  refine gx_aload_n X d_Gr_signatureOf_0 rfl rfl ?_
  refine gx_getr X d_Gr_signatureOf_1 (gci in_Gr) (HX _ rfl).1 (HX _ rfl).2 rfl 2 (by decide) (gcw X lk_Gr_31) (fun _ h => h) rfl ?_
  refine gx_aload_n X d_Gr_signatureOf_4 rfl rfl ?_
  refine gx_getr X d_Gr_signatureOf_5 (gci in_Gr) (HX _ rfl).1 (HX _ rfl).2 rfl 5 (by decide) (gcw X lk_Gr_37) (fun _ h => h) rfl ?_
  refine gx_aload_n X d_Gr_signatureOf_8 rfl rfl ?_
  refine gx_getr X d_Gr_signatureOf_9 (gci in_Gr) (HX _ rfl).1 (HX _ rfl).2 rfl 6 (by decide) (gcw X lk_Gr_40) (fun _ h => h) rfl ?_
  refine gx_iload_n X d_Gr_signatureOf_12 rfl rfl ?_
  refine gx_iald X d_Gr_signatureOf_13 (HX _ rfl).1 (HX _ rfl).2 rfl (by omega) (by omega) ?_
  refine gx_top (h6 _ (by omega)) ?_
  refine gx_iald X d_Gr_signatureOf_14 (HX _ rfl).1 (HX _ rfl).2 rfl (by omega) (by omega) ?_
  refine gx_top e17 ?_
  refine gx_iald X d_Gr_signatureOf_15 (HX _ rfl).1 (HX _ rfl).2 rfl (by omega) (by omega) ?_
  refine gx_top (y := nI (sg q)) (by rw [(h3 t t1).1, (rk_inj t1 hq).mp t2]) ?_
  refine gx_iret X hr hA d_Gr_signatureOf_16 (K _ _ _ ⟨rfl, rfl, rfl⟩)
/-- a set of states (bit b of the row's elements) splits a group -/
def spl (N : Nat) (sg : Nat → Nat) (S : Nat → Bool) : Prop := ∃ s t, s < N ∧ t < N ∧ sg s = sg t ∧ S s ≠ S t
set_option maxHeartbeats 4000000 in
theorem c_Gr_splitting (HX : gH ks lay (2 ^ (3 * w)) sG) (hS : SpOK F w) (hG : GrOK F (2 ^ (3 * w)) np sg) {k : Nat} (hk : k ∈ ks) (hlay : lay k = Sum.inr (Sum.inr (Sum.inl (2 ^ (3 * w))))) : Con l y_Gr_splitting (Cond.code y_Gr_splitting b_Gr_splitting 5 (some .long) :: WT) rm_Gr_splitting D vcl ca ks lay ad [xR 14, xR k] F L (fun r F' L' => ∃ v : Int64, r = some (xL v) ∧ F' = F ∧ L' = L ∧ ∀ b, b < 64 → (tb v b = true ↔ spl (2 ^ (3 * w)) sg (fun s => tb (L k s) b))) := by
  have hN := pu_N w (by have := hS.1; omega)
  obtain ⟨⟨h1, h2, h3⟩, h4, h5, h6, h7⟩ := hG
  have hS2 := hS.2.2.2
  generalize 2 ^ (3 * w) = N at *
  have hsg2 : ∀ s, s < N → sg s < 2 ^ np := fun s hs => (h3 s hs).2
  have hgN : cnt (prs N sg) (2 ^ np) ≤ N := cnt_prs_le sg _ N
  have hrep0 : ∀ s, ∃ t, s < N → (t < N ∧ rk N sg t = rk N sg s ∧ gps N sg t = sm (fun g => gcn N sg g N) (rk N sg s)) := fun s => by
    by_cases hs : s < N
    · obtain ⟨t, ht⟩ := rep_at hsg2 hs
      exact ⟨t, fun _ => ht⟩
    · exact ⟨0, fun z => absurd z hs⟩
  obtain ⟨rep, hrep⟩ := Classical.axiomOfChoice hrep0
  refine Con.ofK (fun post K => ?_)
  refine Con.of (ls := [(0, xR 14), (1, xR k)]) (by decide) rfl rfl (Nat.le_of_ble_eq_true rfl) ?_
  intro p e s m args below meth c A X hr hA
  refine gx_lconst X d_Gr_splitting_0 (v := 0) (by decide) ?_
  refine gx_lstore_n X d_Gr_splitting_1 rfl (by decide) ?_
  refine gx_iconst X d_Gr_splitting_2 (v := nI 0) (by decide) ?_
  refine gx_istore X d_Gr_splitting_3 (by decide) ?_
  have loop : ∀ (d i : Nat) (v : Int64), i + d = N → (∀ b, b < 64 → (tb v b = true ↔ ∃ s, s < i ∧ tb (L k s) b ≠ tb (L k (rep s)) b)) → GX p l e rm_Gr_splitting s m args below meth c (MQ below (gxQ D vcl ca ks lay ad s.heap.size post) args s 0 0 (gxA ks ad s.heap.size)) 5 A D vcl ca ks lay ad 0 0 5 [(4, xI (nI i)), (2, xL v), (0, xR 14), (1, xR k)] [] F L := by
    intro d
    induction d with
    | zero =>
      intro i v hd hv
      refine gx_iload X d_Gr_splitting_5 rfl ?_
      refine gx_aload_n X d_Gr_splitting_7 rfl rfl ?_
      refine gx_getr X d_Gr_splitting_8 (gci in_Gr) (HX _ rfl).1 (HX _ rfl).2 rfl 0 (by decide) (gcw X lk_Gr_22) (fun _ h => h) rfl ?_
      refine gx_geti X d_Gr_splitting_11 (gci in_Sp) (HX _ rfl).1 (HX _ rfl).2 rfl 2 (by decide) (gcw X lk_Gr_26) (fun _ h => h) rfl ?_
      refine gx_top hS2 ?_
      refine gx_icmp_ge X d_Gr_splitting_14 (tgt := 50) (by decide) (fun h14 => ?_) (fun h14 => ?_)
      · refine gx_lload_n X d_Gr_splitting_50 rfl rfl ?_
        refine gx_lret X hr hA d_Gr_splitting_51 (K _ _ _ ⟨v, rfl, rfl, rfl, fun b hb => ?_⟩)
        rw [hv b hb]
        constructor
        · rintro ⟨s, hs, hne⟩
          obtain ⟨a1, a2, -⟩ := hrep s (by omega)
          exact ⟨s, rep s, by omega, a1, ((rk_inj a1 (by omega)).mp a2).symm, hne⟩
        · rintro ⟨s, t, hs, ht, he, hne⟩
          obtain ⟨a1, a2, a3⟩ := hrep s hs
          obtain ⟨b1, b2, b3⟩ := hrep t ht
          have er : rk N sg s = rk N sg t := (rk_inj hs ht).mpr he
          have ee : rep s = rep t := by
            rw [er] at a3
            rcases Nat.lt_trichotomy (rep s) (rep t) with h | h | h
            · exact absurd (a3.trans b3.symm) (gps_inj (np := np) a1 b1 h)
            · exact h
            · exact absurd (b3.trans a3.symm) (gps_inj (np := np) b1 a1 h)
          by_cases h : tb (L k s) b = tb (L k (rep s)) b
          · refine ⟨t, by omega, fun z => hne ?_⟩
            show tb (L k s) b = tb (L k t) b
            rw [h, z, ee]
          · exact ⟨s, by omega, h⟩
      · exact absurd ((nI_leI (by omega) (by omega)).mpr (by omega)) h14
    | succ d ih =>
      intro i v hd hv
      obtain ⟨a1, a2, a3⟩ := hrep i (by omega)
      have hrk := rk_lt hsg2 (show i < N by omega)
      have hps := gps_lt hsg2 a1
      have e17 := h7 _ a1
      rw [a3] at e17 hps
      refine gx_iload X d_Gr_splitting_5 rfl ?_
      refine gx_aload_n X d_Gr_splitting_7 rfl rfl ?_
      refine gx_getr X d_Gr_splitting_8 (gci in_Gr) (HX _ rfl).1 (HX _ rfl).2 rfl 0 (by decide) (gcw X lk_Gr_22) (fun _ h => h) rfl ?_
      refine gx_geti X d_Gr_splitting_11 (gci in_Sp) (HX _ rfl).1 (HX _ rfl).2 rfl 2 (by decide) (gcw X lk_Gr_26) (fun _ h => h) rfl ?_
      refine gx_top hS2 ?_
      refine gx_icmp_ge X d_Gr_splitting_14 (tgt := 50) (by decide) (fun h14 => ?_) (fun h14 => ?_)
      · exact absurd ((nI_leI (by omega) (by omega)).mp h14) (by omega)
      · refine gx_lload_n X d_Gr_splitting_17 rfl rfl ?_
        refine gx_aload_n X d_Gr_splitting_18 rfl rfl ?_
        refine gx_iload X d_Gr_splitting_19 rfl ?_
        refine gx_lald X d_Gr_splitting_21 hk hlay rfl (by omega) (by omega) ?_
        refine gx_aload_n X d_Gr_splitting_22 rfl rfl ?_
        refine gx_aload_n X d_Gr_splitting_23 rfl rfl ?_
        refine gx_getr X d_Gr_splitting_24 (gci in_Gr) (HX _ rfl).1 (HX _ rfl).2 rfl 5 (by decide) (gcw X lk_Gr_37) (fun _ h => h) rfl ?_
        refine gx_aload_n X d_Gr_splitting_27 rfl rfl ?_
        refine gx_getr X d_Gr_splitting_28 (gci in_Gr) (HX _ rfl).1 (HX _ rfl).2 rfl 6 (by decide) (gcw X lk_Gr_40) (fun _ h => h) rfl ?_
        refine gx_aload_n X d_Gr_splitting_31 rfl rfl ?_
        refine gx_getr X d_Gr_splitting_32 (gci in_Gr) (HX _ rfl).1 (HX _ rfl).2 rfl 4 (by decide) (gcw X lk_Gr_34) (fun _ h => h) rfl ?_
        refine gx_iload X d_Gr_splitting_35 rfl ?_
        refine gx_iald X d_Gr_splitting_37 (HX _ rfl).1 (HX _ rfl).2 rfl (by omega) (by omega) ?_
        refine gx_top (h5 i (by omega)) ?_
        refine gx_iald X d_Gr_splitting_38 (HX _ rfl).1 (HX _ rfl).2 rfl (by omega) (by omega) ?_
        refine gx_top (h6 _ (by omega)) ?_
        refine gx_iald X d_Gr_splitting_39 (HX _ rfl).1 (HX _ rfl).2 rfl (by omega) (by omega) ?_
        refine gx_top e17 ?_
        refine gx_lald X d_Gr_splitting_40 hk hlay rfl (by omega) (by omega) ?_
        refine gx_lxor X d_Gr_splitting_41 ?_
        refine gx_lor X d_Gr_splitting_42 ?_
        refine gx_lstore_n X d_Gr_splitting_43 rfl (by decide) ?_
        refine gx_iinc X d_Gr_splitting_44 rfl (pu_inc _) ?_
        refine gx_goto X d_Gr_splitting_47 (tgt := 5) (by decide) ?_
        refine gx_el (ih (i + 1) (v ||| (L k i ^^^ L k (rep i))) (by omega) (fun b hb => ?_)) ⟨rfl, rfl, rfl, rfl, trivial⟩
        rw [tb_or, tb_xor, Bool.or_eq_true, hv b hb]
        constructor
        · rintro (⟨s, hs, hne⟩ | hx)
          · exact ⟨s, by omega, hne⟩
          · exact ⟨i, by omega, fun z => by rw [z] at hx; simp at hx⟩
        · rintro ⟨s, hs, hne⟩
          by_cases e : s = i
          · right
            rw [e] at hne
            cases x1 : tb (L k i) b <;> cases x2 : tb (L k (rep i)) b <;> simp [x1, x2] at hne ⊢
          · exact Or.inl ⟨s, by omega, hne⟩
  exact gx_el (loop N 0 0 (by omega) (fun b hb => by rw [tb_0]; exact ⟨fun z => (by cases z), fun ⟨s, hs, _⟩ => absurd hs (by omega)⟩)) ⟨rfl, rfl, rfl, rfl, trivial⟩
end
end
