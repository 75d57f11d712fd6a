section
-- ===== PART A: goes FIRST, ahead of the names: the tables' words, and 'selects' of the private methods out of them =====
/-- a private method of a class that the tables say can be made, by its rows of tables_1 -/
def lw_okq (q : MethodName × Nat) : Prop := (q.1.cls ≠ "java/lang/invoke/MethodHandle" ∧ q.1.cls ≠ "java/lang/invoke/VarHandle") ∧ Cond.instantiable q.1.cls q.2 ∈ tables_1 ∧ Cond.privateMethod q.1 ∈ tables_1 ∧ Cond.instanceMethod q.1 ∈ tables_1
theorem lw_p0 : lw_okq (⟨"PredicateProver$Groups", "numberGroups", "()V"⟩, 8) := ⟨⟨by decide +kernel, by decide +kernel⟩, List.mem_of_getElem? (i := 135) (by decide +kernel), List.mem_of_getElem? (i := 141) (by decide +kernel), List.mem_of_getElem? (i := 142) (by decide +kernel)⟩
theorem lw_p1 : lw_okq (⟨"java/lang/Throwable", "fillInStackTrace", "(I)Ljava/lang/Throwable;"⟩, 6) := ⟨⟨by decide +kernel, by decide +kernel⟩, List.mem_of_getElem? (i := 190) (by decide +kernel), List.mem_of_getElem? (i := 188) (by decide +kernel), List.mem_of_getElem? (i := 189) (by decide +kernel)⟩
theorem lw_p2 : lw_okq (⟨"PredicateProver$Groups", "placeStates", "()V"⟩, 8) := ⟨⟨by decide +kernel, by decide +kernel⟩, List.mem_of_getElem? (i := 135) (by decide +kernel), List.mem_of_getElem? (i := 481) (by decide +kernel), List.mem_of_getElem? (i := 482) (by decide +kernel)⟩
theorem lw_p3 : lw_okq (⟨"PredicateProver", "forgetSearch", "()V"⟩, 10) := ⟨⟨by decide +kernel, by decide +kernel⟩, List.mem_of_getElem? (i := 31) (by decide +kernel), List.mem_of_getElem? (i := 714) (by decide +kernel), List.mem_of_getElem? (i := 715) (by decide +kernel)⟩
theorem lw_p4 : lw_okq (⟨"PredicateProver$Parser", "readTerm", "(I)Z"⟩, 3) := ⟨⟨by decide +kernel, by decide +kernel⟩, List.mem_of_getElem? (i := 584) (by decide +kernel), List.mem_of_getElem? (i := 772) (by decide +kernel), List.mem_of_getElem? (i := 773) (by decide +kernel)⟩
theorem lw_p5 : lw_okq (⟨"PredicateProver$Parser", "passTerm", "(I)Z"⟩, 3) := ⟨⟨by decide +kernel, by decide +kernel⟩, List.mem_of_getElem? (i := 584) (by decide +kernel), List.mem_of_getElem? (i := 780) (by decide +kernel), List.mem_of_getElem? (i := 781) (by decide +kernel)⟩
theorem lw_p6 : lw_okq (⟨"PredicateProver$Parser", "passPart", "(I)Z"⟩, 3) := ⟨⟨by decide +kernel, by decide +kernel⟩, List.mem_of_getElem? (i := 584) (by decide +kernel), List.mem_of_getElem? (i := 784) (by decide +kernel), List.mem_of_getElem? (i := 785) (by decide +kernel)⟩
theorem lw_p7 : lw_okq (⟨"PredicateProver$Program", "targetOf", "(IILPredicateProver$Formula;)I"⟩, 7) := ⟨⟨by decide +kernel, by decide +kernel⟩, List.mem_of_getElem? (i := 98) (by decide +kernel), List.mem_of_getElem? (i := 833) (by decide +kernel), List.mem_of_getElem? (i := 834) (by decide +kernel)⟩
theorem lw_p8 : lw_okq (⟨"PredicateProver", "makeRound", "()I"⟩, 10) := ⟨⟨by decide +kernel, by decide +kernel⟩, List.mem_of_getElem? (i := 31) (by decide +kernel), List.mem_of_getElem? (i := 885) (by decide +kernel), List.mem_of_getElem? (i := 886) (by decide +kernel)⟩
theorem lw_p9 : lw_okq (⟨"PredicateProver$Search", "addNode", "(IIII)V"⟩, 15) := ⟨⟨by decide +kernel, by decide +kernel⟩, List.mem_of_getElem? (i := 520) (by decide +kernel), List.mem_of_getElem? (i := 897) (by decide +kernel), List.mem_of_getElem? (i := 898) (by decide +kernel)⟩
theorem lw_p10 : lw_okq (⟨"PredicateProver$Search", "take", "(II)Z"⟩, 15) := ⟨⟨by decide +kernel, by decide +kernel⟩, List.mem_of_getElem? (i := 520) (by decide +kernel), List.mem_of_getElem? (i := 905) (by decide +kernel), List.mem_of_getElem? (i := 906) (by decide +kernel)⟩
theorem lw_p11 : lw_okq (⟨"PredicateProver$Search", "markReached", "(II)V"⟩, 15) := ⟨⟨by decide +kernel, by decide +kernel⟩, List.mem_of_getElem? (i := 520) (by decide +kernel), List.mem_of_getElem? (i := 909) (by decide +kernel), List.mem_of_getElem? (i := 910) (by decide +kernel)⟩
theorem lw_p12 : lw_okq (⟨"PredicateProver$Search", "tracePath", "(I)V"⟩, 15) := ⟨⟨by decide +kernel, by decide +kernel⟩, List.mem_of_getElem? (i := 520) (by decide +kernel), List.mem_of_getElem? (i := 924) (by decide +kernel), List.mem_of_getElem? (i := 925) (by decide +kernel)⟩
theorem lw_p13 : lw_okq (⟨"PredicateProver$Replay", "openBefore", "(I)V"⟩, 6) := ⟨⟨by decide +kernel, by decide +kernel⟩, List.mem_of_getElem? (i := 600) (by decide +kernel), List.mem_of_getElem? (i := 936) (by decide +kernel), List.mem_of_getElem? (i := 937) (by decide +kernel)⟩
theorem lw_p14 : lw_okq (⟨"PredicateProver$Replay", "leastInput", "(II)I"⟩, 6) := ⟨⟨by decide +kernel, by decide +kernel⟩, List.mem_of_getElem? (i := 600) (by decide +kernel), List.mem_of_getElem? (i := 940) (by decide +kernel), List.mem_of_getElem? (i := 941) (by decide +kernel)⟩
theorem lw_p15 : lw_okq (⟨"PredicateProver$Replay", "isOpen", "(II)Z"⟩, 6) := ⟨⟨by decide +kernel, by decide +kernel⟩, List.mem_of_getElem? (i := 600) (by decide +kernel), List.mem_of_getElem? (i := 946) (by decide +kernel), List.mem_of_getElem? (i := 947) (by decide +kernel)⟩
def lw_privs_1 : List (MethodName × Nat) := [(⟨"PredicateProver$Groups", "numberGroups", "()V"⟩, 8), (⟨"java/lang/Throwable", "fillInStackTrace", "(I)Ljava/lang/Throwable;"⟩, 6), (⟨"PredicateProver$Groups", "placeStates", "()V"⟩, 8), (⟨"PredicateProver", "forgetSearch", "()V"⟩, 10), (⟨"PredicateProver$Parser", "readTerm", "(I)Z"⟩, 3), (⟨"PredicateProver$Parser", "passTerm", "(I)Z"⟩, 3), (⟨"PredicateProver$Parser", "passPart", "(I)Z"⟩, 3), (⟨"PredicateProver$Program", "targetOf", "(IILPredicateProver$Formula;)I"⟩, 7), (⟨"PredicateProver", "makeRound", "()I"⟩, 10), (⟨"PredicateProver$Search", "addNode", "(IIII)V"⟩, 15), (⟨"PredicateProver$Search", "take", "(II)Z"⟩, 15), (⟨"PredicateProver$Search", "markReached", "(II)V"⟩, 15), (⟨"PredicateProver$Search", "tracePath", "(I)V"⟩, 15), (⟨"PredicateProver$Replay", "openBefore", "(I)V"⟩, 6), (⟨"PredicateProver$Replay", "leastInput", "(II)I"⟩, 6), (⟨"PredicateProver$Replay", "isOpen", "(II)Z"⟩, 6)]
theorem lw_r1 : ∀ q ∈ lw_privs_1, lw_okq q := List.forall_mem_cons.mpr ⟨lw_p0, List.forall_mem_cons.mpr ⟨lw_p1, List.forall_mem_cons.mpr ⟨lw_p2, List.forall_mem_cons.mpr ⟨lw_p3, List.forall_mem_cons.mpr ⟨lw_p4, List.forall_mem_cons.mpr ⟨lw_p5, List.forall_mem_cons.mpr ⟨lw_p6, List.forall_mem_cons.mpr ⟨lw_p7, List.forall_mem_cons.mpr ⟨lw_p8, List.forall_mem_cons.mpr ⟨lw_p9, List.forall_mem_cons.mpr ⟨lw_p10, List.forall_mem_cons.mpr ⟨lw_p11, List.forall_mem_cons.mpr ⟨lw_p12, List.forall_mem_cons.mpr ⟨lw_p13, List.forall_mem_cons.mpr ⟨lw_p14, List.forall_mem_cons.mpr ⟨lw_p15, fun _ h => absurd h List.not_mem_nil⟩⟩⟩⟩⟩⟩⟩⟩⟩⟩⟩⟩⟩⟩⟩⟩
theorem lw_p16 : lw_okq (⟨"PredicateProver$Replay", "collectInputs", "()V"⟩, 6) := ⟨⟨by decide +kernel, by decide +kernel⟩, List.mem_of_getElem? (i := 600) (by decide +kernel), List.mem_of_getElem? (i := 950) (by decide +kernel), List.mem_of_getElem? (i := 951) (by decide +kernel)⟩
theorem lw_p17 : lw_okq (⟨"PredicateProver$Refiner", "passEdge", "(I)V"⟩, 7) := ⟨⟨by decide +kernel, by decide +kernel⟩, List.mem_of_getElem? (i := 630) (by decide +kernel), List.mem_of_getElem? (i := 958) (by decide +kernel), List.mem_of_getElem? (i := 959) (by decide +kernel)⟩
theorem lw_p18 : lw_okq (⟨"PredicateProver$Refiner", "takeAlong", "([I)V"⟩, 7) := ⟨⟨by decide +kernel, by decide +kernel⟩, List.mem_of_getElem? (i := 630) (by decide +kernel), List.mem_of_getElem? (i := 962) (by decide +kernel), List.mem_of_getElem? (i := 963) (by decide +kernel)⟩
theorem lw_p19 : lw_okq (⟨"PredicateProver$Refiner", "rowsInUse", "()I"⟩, 7) := ⟨⟨by decide +kernel, by decide +kernel⟩, List.mem_of_getElem? (i := 630) (by decide +kernel), List.mem_of_getElem? (i := 967) (by decide +kernel), List.mem_of_getElem? (i := 968) (by decide +kernel)⟩
theorem lw_p20 : lw_okq (⟨"PredicateProver$Refiner", "pullBack", "([J[I)V"⟩, 7) := ⟨⟨by decide +kernel, by decide +kernel⟩, List.mem_of_getElem? (i := 630) (by decide +kernel), List.mem_of_getElem? (i := 971) (by decide +kernel), List.mem_of_getElem? (i := 972) (by decide +kernel)⟩
theorem lw_p21 : lw_okq (⟨"PredicateProver$Refiner", "leaveBehind", "([J[I)V"⟩, 7) := ⟨⟨by decide +kernel, by decide +kernel⟩, List.mem_of_getElem? (i := 630) (by decide +kernel), List.mem_of_getElem? (i := 976) (by decide +kernel), List.mem_of_getElem? (i := 977) (by decide +kernel)⟩
theorem lw_p22 : lw_okq (⟨"PredicateProver$Refiner", "adoptTaken", "()Z"⟩, 7) := ⟨⟨by decide +kernel, by decide +kernel⟩, List.mem_of_getElem? (i := 630) (by decide +kernel), List.mem_of_getElem? (i := 981) (by decide +kernel), List.mem_of_getElem? (i := 982) (by decide +kernel)⟩
theorem lw_p23 : lw_okq (⟨"PredicateProver$Refiner", "adopt", "([JI)V"⟩, 7) := ⟨⟨by decide +kernel, by decide +kernel⟩, List.mem_of_getElem? (i := 630) (by decide +kernel), List.mem_of_getElem? (i := 990) (by decide +kernel), List.mem_of_getElem? (i := 991) (by decide +kernel)⟩
theorem lw_p24 : lw_okq (⟨"PredicateProver$Refiner", "adoptVariableBit", "()Z"⟩, 7) := ⟨⟨by decide +kernel, by decide +kernel⟩, List.mem_of_getElem? (i := 630) (by decide +kernel), List.mem_of_getElem? (i := 996) (by decide +kernel), List.mem_of_getElem? (i := 997) (by decide +kernel)⟩
theorem lw_p25 : lw_okq (⟨"PredicateProverModel", "at", "(I)I"⟩, 31) := ⟨⟨by decide +kernel, by decide +kernel⟩, List.mem_of_getElem? (i := 1067) (by decide +kernel), List.mem_of_getElem? (i := 1184) (by decide +kernel), List.mem_of_getElem? (i := 1185) (by decide +kernel)⟩
theorem lw_p26 : lw_okq (⟨"PredicateProverModel", "fail", "(I)I"⟩, 31) := ⟨⟨by decide +kernel, by decide +kernel⟩, List.mem_of_getElem? (i := 1067) (by decide +kernel), List.mem_of_getElem? (i := 1191) (by decide +kernel), List.mem_of_getElem? (i := 1192) (by decide +kernel)⟩
theorem lw_p27 : lw_okq (⟨"PredicateProverModel", "relationAt", "(I)I"⟩, 31) := ⟨⟨by decide +kernel, by decide +kernel⟩, List.mem_of_getElem? (i := 1067) (by decide +kernel), List.mem_of_getElem? (i := 1198) (by decide +kernel), List.mem_of_getElem? (i := 1199) (by decide +kernel)⟩
theorem lw_p28 : lw_okq (⟨"PredicateProverModel", "termEnd", "(I)I"⟩, 31) := ⟨⟨by decide +kernel, by decide +kernel⟩, List.mem_of_getElem? (i := 1067) (by decide +kernel), List.mem_of_getElem? (i := 1202) (by decide +kernel), List.mem_of_getElem? (i := 1203) (by decide +kernel)⟩
theorem lw_p29 : lw_okq (⟨"PredicateProverModel", "worked", "(III)I"⟩, 31) := ⟨⟨by decide +kernel, by decide +kernel⟩, List.mem_of_getElem? (i := 1067) (by decide +kernel), List.mem_of_getElem? (i := 1212) (by decide +kernel), List.mem_of_getElem? (i := 1213) (by decide +kernel)⟩
theorem lw_p30 : lw_okq (⟨"PredicateProverModel", "join", "(II)V"⟩, 31) := ⟨⟨by decide +kernel, by decide +kernel⟩, List.mem_of_getElem? (i := 1067) (by decide +kernel), List.mem_of_getElem? (i := 1216) (by decide +kernel), List.mem_of_getElem? (i := 1217) (by decide +kernel)⟩
theorem lw_p31 : lw_okq (⟨"PredicateProverModel", "part", "(II)I"⟩, 31) := ⟨⟨by decide +kernel, by decide +kernel⟩, List.mem_of_getElem? (i := 1067) (by decide +kernel), List.mem_of_getElem? (i := 1220) (by decide +kernel), List.mem_of_getElem? (i := 1221) (by decide +kernel)⟩
def lw_privs_2 : List (MethodName × Nat) := [(⟨"PredicateProver$Replay", "collectInputs", "()V"⟩, 6), (⟨"PredicateProver$Refiner", "passEdge", "(I)V"⟩, 7), (⟨"PredicateProver$Refiner", "takeAlong", "([I)V"⟩, 7), (⟨"PredicateProver$Refiner", "rowsInUse", "()I"⟩, 7), (⟨"PredicateProver$Refiner", "pullBack", "([J[I)V"⟩, 7), (⟨"PredicateProver$Refiner", "leaveBehind", "([J[I)V"⟩, 7), (⟨"PredicateProver$Refiner", "adoptTaken", "()Z"⟩, 7), (⟨"PredicateProver$Refiner", "adopt", "([JI)V"⟩, 7), (⟨"PredicateProver$Refiner", "adoptVariableBit", "()Z"⟩, 7), (⟨"PredicateProverModel", "at", "(I)I"⟩, 31), (⟨"PredicateProverModel", "fail", "(I)I"⟩, 31), (⟨"PredicateProverModel", "relationAt", "(I)I"⟩, 31), (⟨"PredicateProverModel", "termEnd", "(I)I"⟩, 31), (⟨"PredicateProverModel", "worked", "(III)I"⟩, 31), (⟨"PredicateProverModel", "join", "(II)V"⟩, 31), (⟨"PredicateProverModel", "part", "(II)I"⟩, 31)]
theorem lw_r2 : ∀ q ∈ lw_privs_2, lw_okq q := List.forall_mem_cons.mpr ⟨lw_p16, List.forall_mem_cons.mpr ⟨lw_p17, List.forall_mem_cons.mpr ⟨lw_p18, List.forall_mem_cons.mpr ⟨lw_p19, List.forall_mem_cons.mpr ⟨lw_p20, List.forall_mem_cons.mpr ⟨lw_p21, List.forall_mem_cons.mpr ⟨lw_p22, List.forall_mem_cons.mpr ⟨lw_p23, List.forall_mem_cons.mpr ⟨lw_p24, List.forall_mem_cons.mpr ⟨lw_p25, List.forall_mem_cons.mpr ⟨lw_p26, List.forall_mem_cons.mpr ⟨lw_p27, List.forall_mem_cons.mpr ⟨lw_p28, List.forall_mem_cons.mpr ⟨lw_p29, List.forall_mem_cons.mpr ⟨lw_p30, List.forall_mem_cons.mpr ⟨lw_p31, fun _ h => absurd h List.not_mem_nil⟩⟩⟩⟩⟩⟩⟩⟩⟩⟩⟩⟩⟩⟩⟩⟩
theorem lw_p32 : lw_okq (⟨"PredicateProverModel", "valueOf", "(II)I"⟩, 31) := ⟨⟨by decide +kernel, by decide +kernel⟩, List.mem_of_getElem? (i := 1067) (by decide +kernel), List.mem_of_getElem? (i := 1224) (by decide +kernel), List.mem_of_getElem? (i := 1225) (by decide +kernel)⟩
theorem lw_p33 : lw_okq (⟨"PredicateProverModel", "atom", "(III)Z"⟩, 31) := ⟨⟨by decide +kernel, by decide +kernel⟩, List.mem_of_getElem? (i := 1067) (by decide +kernel), List.mem_of_getElem? (i := 1228) (by decide +kernel), List.mem_of_getElem? (i := 1229) (by decide +kernel)⟩
theorem lw_p34 : lw_okq (⟨"PredicateProverModel", "forget", "()V"⟩, 31) := ⟨⟨by decide +kernel, by decide +kernel⟩, List.mem_of_getElem? (i := 1067) (by decide +kernel), List.mem_of_getElem? (i := 1232) (by decide +kernel), List.mem_of_getElem? (i := 1233) (by decide +kernel)⟩
theorem lw_p35 : lw_okq (⟨"PredicateProverModel", "addWork", "()V"⟩, 31) := ⟨⟨by decide +kernel, by decide +kernel⟩, List.mem_of_getElem? (i := 1067) (by decide +kernel), List.mem_of_getElem? (i := 1240) (by decide +kernel), List.mem_of_getElem? (i := 1241) (by decide +kernel)⟩
theorem lw_p36 : lw_okq (⟨"PredicateProverModel", "search", "()V"⟩, 31) := ⟨⟨by decide +kernel, by decide +kernel⟩, List.mem_of_getElem? (i := 1067) (by decide +kernel), List.mem_of_getElem? (i := 1252) (by decide +kernel), List.mem_of_getElem? (i := 1253) (by decide +kernel)⟩
theorem lw_p37 : lw_okq (⟨"PredicateProverModel", "spread", "(II)Z"⟩, 31) := ⟨⟨by decide +kernel, by decide +kernel⟩, List.mem_of_getElem? (i := 1067) (by decide +kernel), List.mem_of_getElem? (i := 1256) (by decide +kernel), List.mem_of_getElem? (i := 1257) (by decide +kernel)⟩
theorem lw_p38 : lw_okq (⟨"PredicateProverModel", "mark", "(II)V"⟩, 31) := ⟨⟨by decide +kernel, by decide +kernel⟩, List.mem_of_getElem? (i := 1067) (by decide +kernel), List.mem_of_getElem? (i := 1260) (by decide +kernel), List.mem_of_getElem? (i := 1261) (by decide +kernel)⟩
theorem lw_p39 : lw_okq (⟨"PredicateProverModel", "led", "(II)I"⟩, 31) := ⟨⟨by decide +kernel, by decide +kernel⟩, List.mem_of_getElem? (i := 1067) (by decide +kernel), List.mem_of_getElem? (i := 1264) (by decide +kernel), List.mem_of_getElem? (i := 1265) (by decide +kernel)⟩
theorem lw_p40 : lw_okq (⟨"PredicateProverModel", "with", "(III)I"⟩, 31) := ⟨⟨by decide +kernel, by decide +kernel⟩, List.mem_of_getElem? (i := 1067) (by decide +kernel), List.mem_of_getElem? (i := 1271) (by decide +kernel), List.mem_of_getElem? (i := 1272) (by decide +kernel)⟩
theorem lw_p41 : lw_okq (⟨"PredicateProverModel", "isOn", "(II)Z"⟩, 31) := ⟨⟨by decide +kernel, by decide +kernel⟩, List.mem_of_getElem? (i := 1067) (by decide +kernel), List.mem_of_getElem? (i := 1275) (by decide +kernel), List.mem_of_getElem? (i := 1276) (by decide +kernel)⟩
theorem lw_p42 : lw_okq (⟨"PredicateProverModel", "known", "(II)Z"⟩, 31) := ⟨⟨by decide +kernel, by decide +kernel⟩, List.mem_of_getElem? (i := 1067) (by decide +kernel), List.mem_of_getElem? (i := 1279) (by decide +kernel), List.mem_of_getElem? (i := 1280) (by decide +kernel)⟩
theorem lw_p43 : lw_okq (⟨"PredicateProverModel", "isTrue", "()Z"⟩, 31) := ⟨⟨by decide +kernel, by decide +kernel⟩, List.mem_of_getElem? (i := 1067) (by decide +kernel), List.mem_of_getElem? (i := 1283) (by decide +kernel), List.mem_of_getElem? (i := 1284) (by decide +kernel)⟩
theorem lw_p44 : lw_okq (⟨"PredicateProverModel", "store", "(I)V"⟩, 31) := ⟨⟨by decide +kernel, by decide +kernel⟩, List.mem_of_getElem? (i := 1067) (by decide +kernel), List.mem_of_getElem? (i := 1287) (by decide +kernel), List.mem_of_getElem? (i := 1288) (by decide +kernel)⟩
theorem lw_p45 : lw_okq (⟨"PredicateProverModel", "before", "(I)V"⟩, 31) := ⟨⟨by decide +kernel, by decide +kernel⟩, List.mem_of_getElem? (i := 1067) (by decide +kernel), List.mem_of_getElem? (i := 1291) (by decide +kernel), List.mem_of_getElem? (i := 1292) (by decide +kernel)⟩
theorem lw_p46 : lw_okq (⟨"PredicateProverModel", "leadsIn", "(II)Z"⟩, 31) := ⟨⟨by decide +kernel, by decide +kernel⟩, List.mem_of_getElem? (i := 1067) (by decide +kernel), List.mem_of_getElem? (i := 1295) (by decide +kernel), List.mem_of_getElem? (i := 1296) (by decide +kernel)⟩
theorem lw_p47 : lw_okq (⟨"PredicateProverModel", "isIn", "(II)Z"⟩, 31) := ⟨⟨by decide +kernel, by decide +kernel⟩, List.mem_of_getElem? (i := 1067) (by decide +kernel), List.mem_of_getElem? (i := 1299) (by decide +kernel), List.mem_of_getElem? (i := 1300) (by decide +kernel)⟩
def lw_privs_3 : List (MethodName × Nat) := [(⟨"PredicateProverModel", "valueOf", "(II)I"⟩, 31), (⟨"PredicateProverModel", "atom", "(III)Z"⟩, 31), (⟨"PredicateProverModel", "forget", "()V"⟩, 31), (⟨"PredicateProverModel", "addWork", "()V"⟩, 31), (⟨"PredicateProverModel", "search", "()V"⟩, 31), (⟨"PredicateProverModel", "spread", "(II)Z"⟩, 31), (⟨"PredicateProverModel", "mark", "(II)V"⟩, 31), (⟨"PredicateProverModel", "led", "(II)I"⟩, 31), (⟨"PredicateProverModel", "with", "(III)I"⟩, 31), (⟨"PredicateProverModel", "isOn", "(II)Z"⟩, 31), (⟨"PredicateProverModel", "known", "(II)Z"⟩, 31), (⟨"PredicateProverModel", "isTrue", "()Z"⟩, 31), (⟨"PredicateProverModel", "store", "(I)V"⟩, 31), (⟨"PredicateProverModel", "before", "(I)V"⟩, 31), (⟨"PredicateProverModel", "leadsIn", "(II)Z"⟩, 31), (⟨"PredicateProverModel", "isIn", "(II)Z"⟩, 31)]
theorem lw_r3 : ∀ q ∈ lw_privs_3, lw_okq q := List.forall_mem_cons.mpr ⟨lw_p32, List.forall_mem_cons.mpr ⟨lw_p33, List.forall_mem_cons.mpr ⟨lw_p34, List.forall_mem_cons.mpr ⟨lw_p35, List.forall_mem_cons.mpr ⟨lw_p36, List.forall_mem_cons.mpr ⟨lw_p37, List.forall_mem_cons.mpr ⟨lw_p38, List.forall_mem_cons.mpr ⟨lw_p39, List.forall_mem_cons.mpr ⟨lw_p40, List.forall_mem_cons.mpr ⟨lw_p41, List.forall_mem_cons.mpr ⟨lw_p42, List.forall_mem_cons.mpr ⟨lw_p43, List.forall_mem_cons.mpr ⟨lw_p44, List.forall_mem_cons.mpr ⟨lw_p45, List.forall_mem_cons.mpr ⟨lw_p46, List.forall_mem_cons.mpr ⟨lw_p47, fun _ h => absurd h List.not_mem_nil⟩⟩⟩⟩⟩⟩⟩⟩⟩⟩⟩⟩⟩⟩⟩⟩
theorem lw_p48 : lw_okq (⟨"PredicateProverModel", "refine", "()I"⟩, 31) := ⟨⟨by decide +kernel, by decide +kernel⟩, List.mem_of_getElem? (i := 1067) (by decide +kernel), List.mem_of_getElem? (i := 1303) (by decide +kernel), List.mem_of_getElem? (i := 1304) (by decide +kernel)⟩
theorem lw_p49 : lw_okq (⟨"PredicateProverModel", "along", "(I)V"⟩, 31) := ⟨⟨by decide +kernel, by decide +kernel⟩, List.mem_of_getElem? (i := 1067) (by decide +kernel), List.mem_of_getElem? (i := 1307) (by decide +kernel), List.mem_of_getElem? (i := 1308) (by decide +kernel)⟩
theorem lw_p50 : lw_okq (⟨"PredicateProverModel", "fetch", "(I)V"⟩, 31) := ⟨⟨by decide +kernel, by decide +kernel⟩, List.mem_of_getElem? (i := 1067) (by decide +kernel), List.mem_of_getElem? (i := 1311) (by decide +kernel), List.mem_of_getElem? (i := 1312) (by decide +kernel)⟩
theorem lw_p51 : lw_okq (⟨"PredicateProverModel", "hangsOn", "(I)Z"⟩, 31) := ⟨⟨by decide +kernel, by decide +kernel⟩, List.mem_of_getElem? (i := 1067) (by decide +kernel), List.mem_of_getElem? (i := 1315) (by decide +kernel), List.mem_of_getElem? (i := 1316) (by decide +kernel)⟩
theorem lw_p52 : lw_okq (⟨"PredicateProverModel", "offer", "()I"⟩, 31) := ⟨⟨by decide +kernel, by decide +kernel⟩, List.mem_of_getElem? (i := 1067) (by decide +kernel), List.mem_of_getElem? (i := 1319) (by decide +kernel), List.mem_of_getElem? (i := 1320) (by decide +kernel)⟩
theorem lw_p53 : lw_okq (⟨"PredicateProverModel", "splits", "()Z"⟩, 31) := ⟨⟨by decide +kernel, by decide +kernel⟩, List.mem_of_getElem? (i := 1067) (by decide +kernel), List.mem_of_getElem? (i := 1323) (by decide +kernel), List.mem_of_getElem? (i := 1324) (by decide +kernel)⟩
theorem lw_p54 : lw_okq (⟨"PredicateProverModel", "isState", "(I)Z"⟩, 31) := ⟨⟨by decide +kernel, by decide +kernel⟩, List.mem_of_getElem? (i := 1067) (by decide +kernel), List.mem_of_getElem? (i := 1343) (by decide +kernel), List.mem_of_getElem? (i := 1344) (by decide +kernel)⟩
def lw_privs_4 : List (MethodName × Nat) := [(⟨"PredicateProverModel", "refine", "()I"⟩, 31), (⟨"PredicateProverModel", "along", "(I)V"⟩, 31), (⟨"PredicateProverModel", "fetch", "(I)V"⟩, 31), (⟨"PredicateProverModel", "hangsOn", "(I)Z"⟩, 31), (⟨"PredicateProverModel", "offer", "()I"⟩, 31), (⟨"PredicateProverModel", "splits", "()Z"⟩, 31), (⟨"PredicateProverModel", "isState", "(I)Z"⟩, 31)]
theorem lw_r4 : ∀ q ∈ lw_privs_4, lw_okq q := List.forall_mem_cons.mpr ⟨lw_p48, List.forall_mem_cons.mpr ⟨lw_p49, List.forall_mem_cons.mpr ⟨lw_p50, List.forall_mem_cons.mpr ⟨lw_p51, List.forall_mem_cons.mpr ⟨lw_p52, List.forall_mem_cons.mpr ⟨lw_p53, List.forall_mem_cons.mpr ⟨lw_p54, fun _ h => absurd h List.not_mem_nil⟩⟩⟩⟩⟩⟩⟩
def lw_privs : List (MethodName × Nat) := lw_privs_1 ++ (lw_privs_2 ++ (lw_privs_3 ++ (lw_privs_4)))
def lw_tbl : List Cond := k2_sels lw_privs ++ tables_1
theorem lw_privs_ok : ∀ q ∈ lw_privs, lw_okq q := by
  show ∀ q ∈ lw_privs_1 ++ (lw_privs_2 ++ (lw_privs_3 ++ (lw_privs_4))), lw_okq q
  exact List.forall_mem_append.mpr ⟨lw_r1, List.forall_mem_append.mpr ⟨lw_r2, List.forall_mem_append.mpr ⟨lw_r3, lw_r4⟩⟩⟩
end
section
/-! names of the class, the reference and the law (printed by wip/whole/gen_names.py out of the claim's own texts) -/
def WT : List Cond := lw_tbl.filter goodWord
theorem WT_good : ∀ w ∈ WT, (w.onTables && w.keeps) = true ∨ ∃ ty, w = .arrayClass ty := fun w h => good_of_word (List.mem_filter.mp h).2
theorem WT_lw {w : Cond} (h : w ∈ lw_tbl) (g : goodWord w = true) : w ∈ WT := List.mem_filter.mpr ⟨h, g⟩
theorem WT_in {w : Cond} {k : Nat} (h : tables_1[k]? = some w) (g : goodWord w = true) : w ∈ WT := WT_lw (List.mem_append_right _ (List.mem_of_getElem? h)) g
theorem WT_se {w : Cond} {k : Nat} (h : (k2_sels lw_privs)[k]? = some w) (g : goodWord w = true) : w ∈ WT := WT_lw (List.mem_append_left _ (List.mem_of_getElem? h)) g
def R_PP : String := "PredicateProver"
def T_PP : u_T := fun k => match k with
  | 0 => ("PredicateProver", "space", "LPredicateProver$Space;", true)
  | 1 => ("PredicateProver", "line", "LPredicateProver$Line;", true)
  | 2 => ("PredicateProver", "formula", "LPredicateProver$Formula;", true)
  | 3 => ("PredicateProver", "parser", "LPredicateProver$Parser;", true)
  | 4 => ("PredicateProver", "program", "LPredicateProver$Program;", true)
  | 5 => ("PredicateProver", "groups", "LPredicateProver$Groups;", true)
  | 6 => ("PredicateProver", "search", "LPredicateProver$Search;", true)
  | 7 => ("PredicateProver", "replay", "LPredicateProver$Replay;", true)
  | 8 => ("PredicateProver", "refiner", "LPredicateProver$Refiner;", true)
  | _ => ("PredicateProver", "lastOutcome", "I", false)
def t_PP : Nat → FieldType := fun k => match k with
  | 0 => .object "PredicateProver$Space"
  | 1 => .object "PredicateProver$Line"
  | 2 => .object "PredicateProver$Formula"
  | 3 => .object "PredicateProver$Parser"
  | 4 => .object "PredicateProver$Program"
  | 5 => .object "PredicateProver$Groups"
  | 6 => .object "PredicateProver$Search"
  | 7 => .object "PredicateProver$Replay"
  | 8 => .object "PredicateProver$Refiner"
  | _ => .int
theorem nm_PP : ∀ a, a < 10 → ∀ b, b < 10 → a ≠ b → (T_PP a).2.1 ≠ (T_PP b).2.1 := by decide +kernel
theorem ty_PP : ∀ k, k < 10 → parseFieldDescriptor (T_PP k).2.2.1 = some (t_PP k) := by decide +kernel
theorem inl_PP : ∀ w ∈ u_ws R_PP T_PP 10, w ∈ lw_tbl := by decide +kernel
theorem ing_PP : ∀ w ∈ u_ws R_PP T_PP 10, goodWord w = true := by decide +kernel
theorem in_PP : ∀ w ∈ u_ws R_PP T_PP 10, w ∈ WT := fun w h => WT_lw (inl_PP w h) (ing_PP w h)
def R_Sp : String := "PredicateProver$Space"
def T_Sp : u_T := fun k => match k with
  | 0 => ("PredicateProver$Space", "width", "I", true)
  | 1 => ("PredicateProver$Space", "mask", "I", true)
  | _ => ("PredicateProver$Space", "states", "I", true)
def t_Sp : Nat → FieldType := fun k => match k with
  | 0 => .int
  | 1 => .int
  | _ => .int
theorem nm_Sp : ∀ a, a < 3 → ∀ b, b < 3 → a ≠ b → (T_Sp a).2.1 ≠ (T_Sp b).2.1 := by decide +kernel
theorem ty_Sp : ∀ k, k < 3 → parseFieldDescriptor (T_Sp k).2.2.1 = some (t_Sp k) := by decide +kernel
theorem inl_Sp : ∀ w ∈ u_ws R_Sp T_Sp 3, w ∈ lw_tbl := by decide +kernel
theorem ing_Sp : ∀ w ∈ u_ws R_Sp T_Sp 3, goodWord w = true := by decide +kernel
theorem in_Sp : ∀ w ∈ u_ws R_Sp T_Sp 3, w ∈ WT := fun w h => WT_lw (inl_Sp w h) (ing_Sp w h)
def R_Li : String := "PredicateProver$Line"
def T_Li : u_T := fun k => match k with
  | 0 => ("PredicateProver$Line", "characters", "[C", true)
  | _ => ("PredicateProver$Line", "size", "I", false)
def t_Li : Nat → FieldType := fun k => match k with
  | 0 => .array .char
  | _ => .int
theorem nm_Li : ∀ a, a < 2 → ∀ b, b < 2 → a ≠ b → (T_Li a).2.1 ≠ (T_Li b).2.1 := by decide +kernel
theorem ty_Li : ∀ k, k < 2 → parseFieldDescriptor (T_Li k).2.2.1 = some (t_Li k) := by decide +kernel
theorem inl_Li : ∀ w ∈ u_ws R_Li T_Li 2, w ∈ lw_tbl := by decide +kernel
theorem ing_Li : ∀ w ∈ u_ws R_Li T_Li 2, goodWord w = true := by decide +kernel
theorem in_Li : ∀ w ∈ u_ws R_Li T_Li 2, w ∈ WT := fun w h => WT_lw (inl_Li w h) (ing_Li w h)
def R_Fo : String := "PredicateProver$Formula"
def T_Fo : u_T := fun k => match k with
  | 0 => ("PredicateProver$Formula", "space", "LPredicateProver$Space;", true)
  | 1 => ("PredicateProver$Formula", "code", "[C", true)
  | 2 => ("PredicateProver$Formula", "stack", "[I", true)
  | _ => ("PredicateProver$Formula", "size", "I", false)
def t_Fo : Nat → FieldType := fun k => match k with
  | 0 => .object "PredicateProver$Space"
  | 1 => .array .char
  | 2 => .array .int
  | _ => .int
theorem nm_Fo : ∀ a, a < 4 → ∀ b, b < 4 → a ≠ b → (T_Fo a).2.1 ≠ (T_Fo b).2.1 := by decide +kernel
theorem ty_Fo : ∀ k, k < 4 → parseFieldDescriptor (T_Fo k).2.2.1 = some (t_Fo k) := by decide +kernel
theorem inl_Fo : ∀ w ∈ u_ws R_Fo T_Fo 4, w ∈ lw_tbl := by decide +kernel
theorem ing_Fo : ∀ w ∈ u_ws R_Fo T_Fo 4, goodWord w = true := by decide +kernel
theorem in_Fo : ∀ w ∈ u_ws R_Fo T_Fo 4, w ∈ WT := fun w h => WT_lw (inl_Fo w h) (ing_Fo w h)
def R_Pa : String := "PredicateProver$Parser"
def T_Pa : u_T := fun k => match k with
  | 0 => ("PredicateProver$Parser", "line", "LPredicateProver$Line;", true)
  | 1 => ("PredicateProver$Parser", "formula", "LPredicateProver$Formula;", true)
  | _ => ("PredicateProver$Parser", "place", "I", false)
def t_Pa : Nat → FieldType := fun k => match k with
  | 0 => .object "PredicateProver$Line"
  | 1 => .object "PredicateProver$Formula"
  | _ => .int
theorem nm_Pa : ∀ a, a < 3 → ∀ b, b < 3 → a ≠ b → (T_Pa a).2.1 ≠ (T_Pa b).2.1 := by decide +kernel
theorem ty_Pa : ∀ k, k < 3 → parseFieldDescriptor (T_Pa k).2.2.1 = some (t_Pa k) := by decide +kernel
theorem inl_Pa : ∀ w ∈ u_ws R_Pa T_Pa 3, w ∈ lw_tbl := by decide +kernel
theorem ing_Pa : ∀ w ∈ u_ws R_Pa T_Pa 3, goodWord w = true := by decide +kernel
theorem in_Pa : ∀ w ∈ u_ws R_Pa T_Pa 3, w ∈ WT := fun w h => WT_lw (inl_Pa w h) (ing_Pa w h)
def R_Pr : String := "PredicateProver$Program"
def T_Pr : u_T := fun k => match k with
  | 0 => ("PredicateProver$Program", "space", "LPredicateProver$Space;", true)
  | 1 => ("PredicateProver$Program", "from", "[I", true)
  | 2 => ("PredicateProver$Program", "to", "[I", true)
  | 3 => ("PredicateProver$Program", "kind", "[I", true)
  | 4 => ("PredicateProver$Program", "variable", "[I", true)
  | 5 => ("PredicateProver$Program", "target", "[[I", true)
  | _ => ("PredicateProver$Program", "count", "I", false)
def t_Pr : Nat → FieldType := fun k => match k with
  | 0 => .object "PredicateProver$Space"
  | 1 => .array .int
  | 2 => .array .int
  | 3 => .array .int
  | 4 => .array .int
  | 5 => .array (.array .int)
  | _ => .int
theorem nm_Pr : ∀ a, a < 7 → ∀ b, b < 7 → a ≠ b → (T_Pr a).2.1 ≠ (T_Pr b).2.1 := by decide +kernel
theorem ty_Pr : ∀ k, k < 7 → parseFieldDescriptor (T_Pr k).2.2.1 = some (t_Pr k) := by decide +kernel
theorem inl_Pr : ∀ w ∈ u_ws R_Pr T_Pr 7, w ∈ lw_tbl := by decide +kernel
theorem ing_Pr : ∀ w ∈ u_ws R_Pr T_Pr 7, goodWord w = true := by decide +kernel
theorem in_Pr : ∀ w ∈ u_ws R_Pr T_Pr 7, w ∈ WT := fun w h => WT_lw (inl_Pr w h) (ing_Pr w h)
def R_Gr : String := "PredicateProver$Groups"
def T_Gr : u_T := fun k => match k with
  | 0 => ("PredicateProver$Groups", "space", "LPredicateProver$Space;", true)
  | 1 => ("PredicateProver$Groups", "count", "I", false)
  | 2 => ("PredicateProver$Groups", "signature", "[I", true)
  | 3 => ("PredicateProver$Groups", "groupCount", "I", false)
  | 4 => ("PredicateProver$Groups", "groupOf", "[I", true)
  | 5 => ("PredicateProver$Groups", "member", "[I", true)
  | 6 => ("PredicateProver$Groups", "start", "[I", true)
  | _ => ("PredicateProver$Groups", "groupOfSignature", "[I", true)
def t_Gr : Nat → FieldType := fun k => match k with
  | 0 => .object "PredicateProver$Space"
  | 1 => .int
  | 2 => .array .int
  | 3 => .int
  | 4 => .array .int
  | 5 => .array .int
  | 6 => .array .int
  | _ => .array .int
theorem nm_Gr : ∀ a, a < 8 → ∀ b, b < 8 → a ≠ b → (T_Gr a).2.1 ≠ (T_Gr b).2.1 := by decide +kernel
theorem ty_Gr : ∀ k, k < 8 → parseFieldDescriptor (T_Gr k).2.2.1 = some (t_Gr k) := by decide +kernel
theorem inl_Gr : ∀ w ∈ u_ws R_Gr T_Gr 8, w ∈ lw_tbl := by decide +kernel
theorem ing_Gr : ∀ w ∈ u_ws R_Gr T_Gr 8, goodWord w = true := by decide +kernel
theorem in_Gr : ∀ w ∈ u_ws R_Gr T_Gr 8, w ∈ WT := fun w h => WT_lw (inl_Gr w h) (ing_Gr w h)
def R_Se : String := "PredicateProver$Search"
def T_Se : u_T := fun k => match k with
  | 0 => ("PredicateProver$Search", "space", "LPredicateProver$Space;", true)
  | 1 => ("PredicateProver$Search", "program", "LPredicateProver$Program;", true)
  | 2 => ("PredicateProver$Search", "groups", "LPredicateProver$Groups;", true)
  | 3 => ("PredicateProver$Search", "count", "I", false)
  | 4 => ("PredicateProver$Search", "location", "[I", true)
  | 5 => ("PredicateProver$Search", "signature", "[I", true)
  | 6 => ("PredicateProver$Search", "parent", "[I", true)
  | 7 => ("PredicateProver$Search", "byEdge", "[I", true)
  | 8 => ("PredicateProver$Search", "group", "[I", true)
  | 9 => ("PredicateProver$Search", "depth", "[I", true)
  | 10 => ("PredicateProver$Search", "known", "[B", true)
  | 11 => ("PredicateProver$Search", "reached", "[B", true)
  | 12 => ("PredicateProver$Search", "outOfRoom", "Z", false)
  | 13 => ("PredicateProver$Search", "pathLength", "I", false)
  | _ => ("PredicateProver$Search", "pathEdge", "[I", true)
def t_Se : Nat → FieldType := fun k => match k with
  | 0 => .object "PredicateProver$Space"
  | 1 => .object "PredicateProver$Program"
  | 2 => .object "PredicateProver$Groups"
  | 3 => .int
  | 4 => .array .int
  | 5 => .array .int
  | 6 => .array .int
  | 7 => .array .int
  | 8 => .array .int
  | 9 => .array .int
  | 10 => .array .byte
  | 11 => .array .byte
  | 12 => .boolean
  | 13 => .int
  | _ => .array .int
theorem nm_Se : ∀ a, a < 15 → ∀ b, b < 15 → a ≠ b → (T_Se a).2.1 ≠ (T_Se b).2.1 := by decide +kernel
theorem ty_Se : ∀ k, k < 15 → parseFieldDescriptor (T_Se k).2.2.1 = some (t_Se k) := by decide +kernel
theorem inl_Se : ∀ w ∈ u_ws R_Se T_Se 15, w ∈ lw_tbl := by decide +kernel
theorem ing_Se : ∀ w ∈ u_ws R_Se T_Se 15, goodWord w = true := by decide +kernel
theorem in_Se : ∀ w ∈ u_ws R_Se T_Se 15, w ∈ WT := fun w h => WT_lw (inl_Se w h) (ing_Se w h)
def R_Re : String := "PredicateProver$Replay"
def T_Re : u_T := fun k => match k with
  | 0 => ("PredicateProver$Replay", "space", "LPredicateProver$Space;", true)
  | 1 => ("PredicateProver$Replay", "program", "LPredicateProver$Program;", true)
  | 2 => ("PredicateProver$Replay", "search", "LPredicateProver$Search;", true)
  | 3 => ("PredicateProver$Replay", "open", "[[J", true)
  | 4 => ("PredicateProver$Replay", "inputs", "[I", true)
  | _ => ("PredicateProver$Replay", "inputCount", "I", false)
def t_Re : Nat → FieldType := fun k => match k with
  | 0 => .object "PredicateProver$Space"
  | 1 => .object "PredicateProver$Program"
  | 2 => .object "PredicateProver$Search"
  | 3 => .array (.array .long)
  | 4 => .array .int
  | _ => .int
theorem nm_Re : ∀ a, a < 6 → ∀ b, b < 6 → a ≠ b → (T_Re a).2.1 ≠ (T_Re b).2.1 := by decide +kernel
theorem ty_Re : ∀ k, k < 6 → parseFieldDescriptor (T_Re k).2.2.1 = some (t_Re k) := by decide +kernel
theorem inl_Re : ∀ w ∈ u_ws R_Re T_Re 6, w ∈ lw_tbl := by decide +kernel
theorem ing_Re : ∀ w ∈ u_ws R_Re T_Re 6, goodWord w = true := by decide +kernel
theorem in_Re : ∀ w ∈ u_ws R_Re T_Re 6, w ∈ WT := fun w h => WT_lw (inl_Re w h) (ing_Re w h)
def R_Rf : String := "PredicateProver$Refiner"
def T_Rf : u_T := fun k => match k with
  | 0 => ("PredicateProver$Refiner", "space", "LPredicateProver$Space;", true)
  | 1 => ("PredicateProver$Refiner", "program", "LPredicateProver$Program;", true)
  | 2 => ("PredicateProver$Refiner", "groups", "LPredicateProver$Groups;", true)
  | 3 => ("PredicateProver$Refiner", "search", "LPredicateProver$Search;", true)
  | 4 => ("PredicateProver$Refiner", "taken", "[[J", true)
  | 5 => ("PredicateProver$Refiner", "spare", "[J", true)
  | _ => ("PredicateProver$Refiner", "takenCount", "I", false)
def t_Rf : Nat → FieldType := fun k => match k with
  | 0 => .object "PredicateProver$Space"
  | 1 => .object "PredicateProver$Program"
  | 2 => .object "PredicateProver$Groups"
  | 3 => .object "PredicateProver$Search"
  | 4 => .array (.array .long)
  | 5 => .array .long
  | _ => .int
theorem nm_Rf : ∀ a, a < 7 → ∀ b, b < 7 → a ≠ b → (T_Rf a).2.1 ≠ (T_Rf b).2.1 := by decide +kernel
theorem ty_Rf : ∀ k, k < 7 → parseFieldDescriptor (T_Rf k).2.2.1 = some (t_Rf k) := by decide +kernel
theorem inl_Rf : ∀ w ∈ u_ws R_Rf T_Rf 7, w ∈ lw_tbl := by decide +kernel
theorem ing_Rf : ∀ w ∈ u_ws R_Rf T_Rf 7, goodWord w = true := by decide +kernel
theorem in_Rf : ∀ w ∈ u_ws R_Rf T_Rf 7, w ∈ WT := fun w h => WT_lw (inl_Rf w h) (ing_Rf w h)
def R_Mo : String := "PredicateProverModel"
def T_Mo : u_T := fun k => match k with
  | 0 => ("PredicateProverModel", "width", "I", true)
  | 1 => ("PredicateProverModel", "limit", "I", true)
  | 2 => ("PredicateProverModel", "states", "I", true)
  | 3 => ("PredicateProverModel", "code", "I", false)
  | 4 => ("PredicateProverModel", "line", "[I", true)
  | 5 => ("PredicateProverModel", "typed", "I", false)
  | 6 => ("PredicateProverModel", "edges", "I", false)
  | 7 => ("PredicateProverModel", "from", "[I", true)
  | 8 => ("PredicateProverModel", "to", "[I", true)
  | 9 => ("PredicateProverModel", "kind", "[I", true)
  | 10 => ("PredicateProverModel", "variable", "[I", true)
  | 11 => ("PredicateProverModel", "effect", "[J", true)
  | 12 => ("PredicateProverModel", "predicates", "I", false)
  | 13 => ("PredicateProverModel", "member", "[J", true)
  | 14 => ("PredicateProverModel", "signature", "[I", true)
  | 15 => ("PredicateProverModel", "outcome", "I", false)
  | 16 => ("PredicateProverModel", "nodes", "I", false)
  | 17 => ("PredicateProverModel", "place", "[I", true)
  | 18 => ("PredicateProverModel", "sign", "[I", true)
  | 19 => ("PredicateProverModel", "source", "[I", true)
  | 20 => ("PredicateProverModel", "by", "[I", true)
  | 21 => ("PredicateProverModel", "length", "I", false)
  | 22 => ("PredicateProverModel", "path", "[I", true)
  | 23 => ("PredicateProverModel", "inputs", "I", false)
  | 24 => ("PredicateProverModel", "input", "[I", true)
  | 25 => ("PredicateProverModel", "seen", "[I", true)
  | 26 => ("PredicateProverModel", "taken", "I", false)
  | 27 => ("PredicateProverModel", "set", "[J", true)
  | 28 => ("PredicateProverModel", "work", "[Z", true)
  | 29 => ("PredicateProverModel", "value", "[I", true)
  | _ => ("PredicateProverModel", "open", "[I", true)
def t_Mo : Nat → FieldType := fun k => match k with
  | 0 => .int
  | 1 => .int
  | 2 => .int
  | 3 => .int
  | 4 => .array .int
  | 5 => .int
  | 6 => .int
  | 7 => .array .int
  | 8 => .array .int
  | 9 => .array .int
  | 10 => .array .int
  | 11 => .array .long
  | 12 => .int
  | 13 => .array .long
  | 14 => .array .int
  | 15 => .int
  | 16 => .int
  | 17 => .array .int
  | 18 => .array .int
  | 19 => .array .int
  | 20 => .array .int
  | 21 => .int
  | 22 => .array .int
  | 23 => .int
  | 24 => .array .int
  | 25 => .array .int
  | 26 => .int
  | 27 => .array .long
  | 28 => .array .boolean
  | 29 => .array .int
  | _ => .array .int
theorem nm_Mo : ∀ a, a < 31 → ∀ b, b < 31 → a ≠ b → (T_Mo a).2.1 ≠ (T_Mo b).2.1 := by decide +kernel
theorem ty_Mo : ∀ k, k < 31 → parseFieldDescriptor (T_Mo k).2.2.1 = some (t_Mo k) := by decide +kernel
theorem inl_Mo : ∀ w ∈ u_ws R_Mo T_Mo 31, w ∈ lw_tbl := by decide +kernel
theorem ing_Mo : ∀ w ∈ u_ws R_Mo T_Mo 31, goodWord w = true := by decide +kernel
theorem in_Mo : ∀ w ∈ u_ws R_Mo T_Mo 31, w ∈ WT := fun w h => WT_lw (inl_Mo w h) (ing_Mo w h)
def R_Lw : String := "PredicateProverLaw"
def R_Ar : String := "java/util/Arrays"
abbrev vcl : List vw_C := [(R_PP, T_PP, 10), (R_Sp, T_Sp, 3), (R_Li, T_Li, 2), (R_Fo, T_Fo, 4), (R_Pa, T_Pa, 3), (R_Pr, T_Pr, 7), (R_Gr, T_Gr, 8), (R_Se, T_Se, 15), (R_Re, T_Re, 6), (R_Rf, T_Rf, 7), (R_Mo, T_Mo, 31)]
abbrev b_PP_init : ByteArray := prog_1_method_1_code
def y_PP_init : MethodName := ⟨R_PP, "<init>", "(I)V"⟩
abbrev b_Sp_init : ByteArray := prog_10_method_1_code
def y_Sp_init : MethodName := ⟨R_Sp, "<init>", "(I)V"⟩
abbrev b_Li_init : ByteArray := prog_4_method_1_code
def y_Li_init : MethodName := ⟨R_Li, "<init>", "()V"⟩
abbrev b_Fo_init : ByteArray := prog_2_method_1_code
def y_Fo_init : MethodName := ⟨R_Fo, "<init>", "(LPredicateProver$Space;)V"⟩
abbrev b_Pr_init : ByteArray := prog_6_method_1_code
def y_Pr_init : MethodName := ⟨R_Pr, "<init>", "(LPredicateProver$Space;)V"⟩
abbrev b_Gr_init : ByteArray := prog_3_method_1_code
def y_Gr_init : MethodName := ⟨R_Gr, "<init>", "(LPredicateProver$Space;)V"⟩
abbrev b_Gr_numberGroups : ByteArray := prog_3_method_8_code
def y_Gr_numberGroups : MethodName := ⟨R_Gr, "numberGroups", "()V"⟩
abbrev b_Ar_fill_aIIII : ByteArray := prog_29_method_104_code
def y_Ar_fill_aIIII : MethodName := ⟨R_Ar, "fill", "([IIII)V"⟩
abbrev b_Ar_rangeCheck : ByteArray := prog_29_method_30_code
def y_Ar_rangeCheck : MethodName := ⟨R_Ar, "rangeCheck", "(III)V"⟩
abbrev b_Gr_placeStates : ByteArray := prog_3_method_9_code
def y_Gr_placeStates : MethodName := ⟨R_Gr, "placeStates", "()V"⟩
abbrev b_Ar_fill_aII : ByteArray := prog_29_method_103_code
def y_Ar_fill_aII : MethodName := ⟨R_Ar, "fill", "([II)V"⟩
abbrev b_Se_init : ByteArray := prog_9_method_1_code
def y_Se_init : MethodName := ⟨R_Se, "<init>", "(LPredicateProver$Space;LPredicateProver$Program;LPredicateProver$Groups;)V"⟩
abbrev b_Pa_init : ByteArray := prog_5_method_1_code
def y_Pa_init : MethodName := ⟨R_Pa, "<init>", "(LPredicateProver$Line;LPredicateProver$Formula;)V"⟩
abbrev b_Re_init : ByteArray := prog_8_method_1_code
def y_Re_init : MethodName := ⟨R_Re, "<init>", "(LPredicateProver$Space;LPredicateProver$Program;LPredicateProver$Search;)V"⟩
abbrev b_Rf_init : ByteArray := prog_7_method_1_code
def y_Rf_init : MethodName := ⟨R_Rf, "<init>", "(LPredicateProver$Space;LPredicateProver$Program;LPredicateProver$Groups;LPredicateProver$Search;)V"⟩
abbrev b_PP_type : ByteArray := prog_1_method_2_code
def y_PP_type : MethodName := ⟨R_PP, "type", "(C)I"⟩
abbrev b_Li_append : ByteArray := prog_4_method_2_code
def y_Li_append : MethodName := ⟨R_Li, "append", "(C)I"⟩
abbrev b_PP_wipe : ByteArray := prog_1_method_3_code
def y_PP_wipe : MethodName := ⟨R_PP, "wipe", "()V"⟩
abbrev b_Li_makeEmpty : ByteArray := prog_4_method_4_code
def y_Li_makeEmpty : MethodName := ⟨R_Li, "makeEmpty", "()V"⟩
abbrev b_PP_clear : ByteArray := prog_1_method_6_code
def y_PP_clear : MethodName := ⟨R_PP, "clear", "()V"⟩
abbrev b_Gr_dropPredicates : ByteArray := prog_3_method_3_code
def y_Gr_dropPredicates : MethodName := ⟨R_Gr, "dropPredicates", "()V"⟩
abbrev b_PP_forgetSearch : ByteArray := prog_1_method_19_code
def y_PP_forgetSearch : MethodName := ⟨R_PP, "forgetSearch", "()V"⟩
abbrev b_Se_forget : ByteArray := prog_9_method_2_code
def y_Se_forget : MethodName := ⟨R_Se, "forget", "()V"⟩
abbrev b_Re_forget : ByteArray := prog_8_method_2_code
def y_Re_forget : MethodName := ⟨R_Re, "forget", "()V"⟩
abbrev b_PP_outcome : ByteArray := prog_1_method_8_code
def y_PP_outcome : MethodName := ⟨R_PP, "outcome", "()I"⟩
abbrev b_PP_edges : ByteArray := prog_1_method_9_code
def y_PP_edges : MethodName := ⟨R_PP, "edges", "()I"⟩
abbrev b_PP_predicates : ByteArray := prog_1_method_10_code
def y_PP_predicates : MethodName := ⟨R_PP, "predicates", "()I"⟩
abbrev b_PP_nodes : ByteArray := prog_1_method_14_code
def y_PP_nodes : MethodName := ⟨R_PP, "nodes", "()I"⟩
abbrev b_PP_length : ByteArray := prog_1_method_16_code
def y_PP_length : MethodName := ⟨R_PP, "length", "()I"⟩
abbrev b_Lw_cell : ByteArray := method_2_code
def y_Lw_cell : MethodName := ⟨R_Lw, "cell", "([II)I"⟩
abbrev b_Lw_edge : ByteArray := method_3_code
def y_Lw_edge : MethodName := ⟨R_Lw, "edge", "(LPredicateProver;[J)I"⟩
abbrev b_PP_edge : ByteArray := prog_1_method_4_code
def y_PP_edge : MethodName := ⟨R_PP, "edge", "()I"⟩
abbrev b_Pa_readEdge : ByteArray := prog_5_method_2_code
def y_Pa_readEdge : MethodName := ⟨R_Pa, "readEdge", "()I"⟩
abbrev b_Li_at : ByteArray := prog_4_method_3_code
def y_Li_at : MethodName := ⟨R_Li, "at", "(I)C"⟩
abbrev b_Pa_isLocation : ByteArray := prog_5_method_7_code
def y_Pa_isLocation : MethodName := ⟨R_Pa, "isLocation", "(C)Z"⟩
abbrev b_Fo_isVariable : ByteArray := prog_2_method_2_code
def y_Fo_isVariable : MethodName := ⟨R_Fo, "isVariable", "(C)Z"⟩
abbrev b_Pa_readTerm : ByteArray := prog_5_method_4_code
def y_Pa_readTerm : MethodName := ⟨R_Pa, "readTerm", "(I)Z"⟩
abbrev b_Fo_begin : ByteArray := prog_2_method_4_code
def y_Fo_begin : MethodName := ⟨R_Fo, "begin", "()V"⟩
abbrev b_Pa_passTerm : ByteArray := prog_5_method_5_code
def y_Pa_passTerm : MethodName := ⟨R_Pa, "passTerm", "(I)Z"⟩
abbrev b_Pa_passPart : ByteArray := prog_5_method_6_code
def y_Pa_passPart : MethodName := ⟨R_Pa, "passPart", "(I)Z"⟩
abbrev b_Fo_isDigit : ByteArray := prog_2_method_3_code
def y_Fo_isDigit : MethodName := ⟨R_Fo, "isDigit", "(C)Z"⟩
abbrev b_Fo_add : ByteArray := prog_2_method_5_code
def y_Fo_add : MethodName := ⟨R_Fo, "add", "(C)V"⟩
abbrev b_Pa_isOperator : ByteArray := prog_5_method_8_code
def y_Pa_isOperator : MethodName := ⟨R_Pa, "isOperator", "(C)Z"⟩
abbrev b_Pa_readAtom : ByteArray := prog_5_method_3_code
def y_Pa_readAtom : MethodName := ⟨R_Pa, "readAtom", "(I)Z"⟩
abbrev b_Pa_isComparison : ByteArray := prog_5_method_9_code
def y_Pa_isComparison : MethodName := ⟨R_Pa, "isComparison", "(C)Z"⟩
abbrev b_Pr_isFull : ByteArray := prog_6_method_2_code
def y_Pr_isFull : MethodName := ⟨R_Pr, "isFull", "()Z"⟩
abbrev b_Pr_add : ByteArray := prog_6_method_3_code
def y_Pr_add : MethodName := ⟨R_Pr, "add", "(ILPredicateProver$Line;LPredicateProver$Formula;)I"⟩
abbrev b_Pr_targetOf : ByteArray := prog_6_method_4_code
def y_Pr_targetOf : MethodName := ⟨R_Pr, "targetOf", "(IILPredicateProver$Formula;)I"⟩
abbrev b_Sp_write : ByteArray := prog_10_method_4_code
def y_Sp_write : MethodName := ⟨R_Sp, "write", "(III)I"⟩
abbrev b_Fo_valueIn : ByteArray := prog_2_method_6_code
def y_Fo_valueIn : MethodName := ⟨R_Fo, "valueIn", "(I)I"⟩
abbrev b_Sp_read : ByteArray := prog_10_method_3_code
def y_Sp_read : MethodName := ⟨R_Sp, "read", "(II)I"⟩
abbrev b_Fo_combine : ByteArray := prog_2_method_7_code
def y_Fo_combine : MethodName := ⟨R_Fo, "combine", "(CII)I"⟩
abbrev b_Lw_predicate : ByteArray := method_4_code
def y_Lw_predicate : MethodName := ⟨R_Lw, "predicate", "(LPredicateProver;[J)I"⟩
abbrev b_PP_predicate : ByteArray := prog_1_method_5_code
def y_PP_predicate : MethodName := ⟨R_PP, "predicate", "()I"⟩
abbrev b_Gr_isFull : ByteArray := prog_3_method_2_code
def y_Gr_isFull : MethodName := ⟨R_Gr, "isFull", "()Z"⟩
abbrev b_Gr_include : ByteArray := prog_3_method_4_code
def y_Gr_include : MethodName := ⟨R_Gr, "include", "(I)V"⟩
abbrev b_Gr_endPredicate : ByteArray := prog_3_method_5_code
def y_Gr_endPredicate : MethodName := ⟨R_Gr, "endPredicate", "()V"⟩
abbrev b_Lw_prove : ByteArray := method_5_code
def y_Lw_prove : MethodName := ⟨R_Lw, "prove", "(LPredicateProver;I[J)I"⟩
abbrev b_PP_prove : ByteArray := prog_1_method_7_code
def y_PP_prove : MethodName := ⟨R_PP, "prove", "(I)I"⟩
abbrev b_PP_makeRound : ByteArray := prog_1_method_20_code
def y_PP_makeRound : MethodName := ⟨R_PP, "makeRound", "()I"⟩
abbrev b_Se_run : ByteArray := prog_9_method_3_code
def y_Se_run : MethodName := ⟨R_Se, "run", "()V"⟩
abbrev b_Ar_fill_aBB : ByteArray := prog_29_method_109_code
def y_Ar_fill_aBB : MethodName := ⟨R_Ar, "fill", "([BB)V"⟩
abbrev b_Se_addNode : ByteArray := prog_9_method_6_code
def y_Se_addNode : MethodName := ⟨R_Se, "addNode", "(IIII)V"⟩
abbrev b_Gr_signatureOf : ByteArray := prog_3_method_6_code
def y_Gr_signatureOf : MethodName := ⟨R_Gr, "signatureOf", "(I)I"⟩
abbrev b_Se_take : ByteArray := prog_9_method_4_code
def y_Se_take : MethodName := ⟨R_Se, "take", "(II)Z"⟩
abbrev b_Se_markReached : ByteArray := prog_9_method_5_code
def y_Se_markReached : MethodName := ⟨R_Se, "markReached", "(II)V"⟩
abbrev b_Ar_fill_aBIIB : ByteArray := prog_29_method_110_code
def y_Ar_fill_aBIIB : MethodName := ⟨R_Ar, "fill", "([BIIB)V"⟩
abbrev b_Pr_choices : ByteArray := prog_6_method_6_code
def y_Pr_choices : MethodName := ⟨R_Pr, "choices", "(I)I"⟩
abbrev b_Pr_step : ByteArray := prog_6_method_5_code
def y_Pr_step : MethodName := ⟨R_Pr, "step", "(III)I"⟩
abbrev b_Se_tracePath : ByteArray := prog_9_method_7_code
def y_Se_tracePath : MethodName := ⟨R_Se, "tracePath", "(I)V"⟩
abbrev b_Re_succeeds : ByteArray := prog_8_method_3_code
def y_Re_succeeds : MethodName := ⟨R_Re, "succeeds", "()Z"⟩
abbrev b_Ar_fill_aJJ : ByteArray := prog_29_method_101_code
def y_Ar_fill_aJJ : MethodName := ⟨R_Ar, "fill", "([JJ)V"⟩
abbrev b_Re_openBefore : ByteArray := prog_8_method_5_code
def y_Re_openBefore : MethodName := ⟨R_Re, "openBefore", "(I)V"⟩
abbrev b_Re_leastInput : ByteArray := prog_8_method_6_code
def y_Re_leastInput : MethodName := ⟨R_Re, "leastInput", "(II)I"⟩
abbrev b_Re_isOpen : ByteArray := prog_8_method_4_code
def y_Re_isOpen : MethodName := ⟨R_Re, "isOpen", "(II)Z"⟩
abbrev b_Re_collectInputs : ByteArray := prog_8_method_7_code
def y_Re_collectInputs : MethodName := ⟨R_Re, "collectInputs", "()V"⟩
abbrev b_Rf_refine : ByteArray := prog_7_method_2_code
def y_Rf_refine : MethodName := ⟨R_Rf, "refine", "()Z"⟩
abbrev b_Rf_passEdge : ByteArray := prog_7_method_4_code
def y_Rf_passEdge : MethodName := ⟨R_Rf, "passEdge", "(I)V"⟩
abbrev b_Rf_takeAlong : ByteArray := prog_7_method_5_code
def y_Rf_takeAlong : MethodName := ⟨R_Rf, "takeAlong", "([I)V"⟩
abbrev b_Rf_rowsInUse : ByteArray := prog_7_method_3_code
def y_Rf_rowsInUse : MethodName := ⟨R_Rf, "rowsInUse", "()I"⟩
abbrev b_Rf_pullBack : ByteArray := prog_7_method_6_code
def y_Rf_pullBack : MethodName := ⟨R_Rf, "pullBack", "([J[I)V"⟩
abbrev b_Rf_leaveBehind : ByteArray := prog_7_method_7_code
def y_Rf_leaveBehind : MethodName := ⟨R_Rf, "leaveBehind", "([J[I)V"⟩
abbrev b_Rf_adoptTaken : ByteArray := prog_7_method_8_code
def y_Rf_adoptTaken : MethodName := ⟨R_Rf, "adoptTaken", "()Z"⟩
abbrev b_Gr_splitting : ByteArray := prog_3_method_7_code
def y_Gr_splitting : MethodName := ⟨R_Gr, "splitting", "([J)J"⟩
abbrev b_Rf_adopt : ByteArray := prog_7_method_9_code
def y_Rf_adopt : MethodName := ⟨R_Rf, "adopt", "([JI)V"⟩
abbrev b_Rf_adoptVariableBit : ByteArray := prog_7_method_10_code
def y_Rf_adoptVariableBit : MethodName := ⟨R_Rf, "adoptVariableBit", "()Z"⟩
abbrev b_Lw_holds : ByteArray := method_6_code
def y_Lw_holds : MethodName := ⟨R_Lw, "holds", "(LPredicateProver;II[J)I"⟩
abbrev b_PP_holds : ByteArray := prog_1_method_11_code
def y_PP_holds : MethodName := ⟨R_PP, "holds", "(II)Z"⟩
abbrev b_Sp_contains : ByteArray := prog_10_method_2_code
def y_Sp_contains : MethodName := ⟨R_Sp, "contains", "(I)Z"⟩
abbrev b_Lw_signature : ByteArray := method_7_code
def y_Lw_signature : MethodName := ⟨R_Lw, "signature", "(LPredicateProver;I[J)I"⟩
abbrev b_PP_signature : ByteArray := prog_1_method_12_code
def y_PP_signature : MethodName := ⟨R_PP, "signature", "(I)S"⟩
abbrev b_Lw_follow : ByteArray := method_8_code
def y_Lw_follow : MethodName := ⟨R_Lw, "follow", "(LPredicateProver;III[J)I"⟩
abbrev b_PP_follow : ByteArray := prog_1_method_13_code
def y_PP_follow : MethodName := ⟨R_PP, "follow", "(III)I"⟩
abbrev b_Lw_node : ByteArray := method_9_code
def y_Lw_node : MethodName := ⟨R_Lw, "node", "(LPredicateProver;II[J)I"⟩
abbrev b_PP_node : ByteArray := prog_1_method_15_code
def y_PP_node : MethodName := ⟨R_PP, "node", "(II)I"⟩
abbrev b_Lw_path : ByteArray := method_10_code
def y_Lw_path : MethodName := ⟨R_Lw, "path", "(LPredicateProver;I[J)I"⟩
abbrev b_PP_path : ByteArray := prog_1_method_17_code
def y_PP_path : MethodName := ⟨R_PP, "path", "(I)I"⟩
abbrev b_Lw_input : ByteArray := method_11_code
def y_Lw_input : MethodName := ⟨R_Lw, "input", "(LPredicateProver;I[J)I"⟩
abbrev b_PP_input : ByteArray := prog_1_method_18_code
def y_PP_input : MethodName := ⟨R_PP, "input", "(I)I"⟩
abbrev b_Mo_init : ByteArray := prog_12_method_1_code
def y_Mo_init : MethodName := ⟨R_Mo, "<init>", "(I)V"⟩
abbrev b_Mo_thrown : ByteArray := prog_12_method_2_code
def y_Mo_thrown : MethodName := ⟨R_Mo, "thrown", "()I"⟩
abbrev b_Mo_type : ByteArray := prog_12_method_4_code
def y_Mo_type : MethodName := ⟨R_Mo, "type", "(C)I"⟩
abbrev b_Mo_wipe : ByteArray := prog_12_method_5_code
def y_Mo_wipe : MethodName := ⟨R_Mo, "wipe", "()V"⟩
abbrev b_Mo_edge : ByteArray := prog_12_method_20_code
def y_Mo_edge : MethodName := ⟨R_Mo, "edge", "()I"⟩
abbrev b_Mo_at : ByteArray := prog_12_method_6_code
def y_Mo_at : MethodName := ⟨R_Mo, "at", "(I)I"⟩
abbrev b_Mo_isLocation : ByteArray := prog_12_method_12_code
def y_Mo_isLocation : MethodName := ⟨R_Mo, "isLocation", "(I)Z"⟩
abbrev b_Mo_fail : ByteArray := prog_12_method_3_code
def y_Mo_fail : MethodName := ⟨R_Mo, "fail", "(I)I"⟩
abbrev b_Mo_isVariable : ByteArray := prog_12_method_7_code
def y_Mo_isVariable : MethodName := ⟨R_Mo, "isVariable", "(I)Z"⟩
abbrev b_Mo_relationAt : ByteArray := prog_12_method_11_code
def y_Mo_relationAt : MethodName := ⟨R_Mo, "relationAt", "(I)I"⟩
abbrev b_Mo_termEnd : ByteArray := prog_12_method_10_code
def y_Mo_termEnd : MethodName := ⟨R_Mo, "termEnd", "(I)I"⟩
abbrev b_Mo_isSign : ByteArray := prog_12_method_8_code
def y_Mo_isSign : MethodName := ⟨R_Mo, "isSign", "(I)Z"⟩
abbrev b_Mo_isRelation : ByteArray := prog_12_method_9_code
def y_Mo_isRelation : MethodName := ⟨R_Mo, "isRelation", "(I)Z"⟩
abbrev b_Mo_worked : ByteArray := prog_12_method_17_code
def y_Mo_worked : MethodName := ⟨R_Mo, "worked", "(III)I"⟩
abbrev b_Mo_join : ByteArray := prog_12_method_16_code
def y_Mo_join : MethodName := ⟨R_Mo, "join", "(II)V"⟩
abbrev b_Mo_part : ByteArray := prog_12_method_13_code
def y_Mo_part : MethodName := ⟨R_Mo, "part", "(II)I"⟩
abbrev b_Mo_valueOf : ByteArray := prog_12_method_14_code
def y_Mo_valueOf : MethodName := ⟨R_Mo, "valueOf", "(II)I"⟩
abbrev b_Mo_atom : ByteArray := prog_12_method_18_code
def y_Mo_atom : MethodName := ⟨R_Mo, "atom", "(III)Z"⟩
abbrev b_Mo_forget : ByteArray := prog_12_method_19_code
def y_Mo_forget : MethodName := ⟨R_Mo, "forget", "()V"⟩
abbrev b_Mo_predicate : ByteArray := prog_12_method_24_code
def y_Mo_predicate : MethodName := ⟨R_Mo, "predicate", "()I"⟩
abbrev b_Mo_addWork : ByteArray := prog_12_method_25_code
def y_Mo_addWork : MethodName := ⟨R_Mo, "addWork", "()V"⟩
abbrev b_Mo_clear : ByteArray := prog_12_method_26_code
def y_Mo_clear : MethodName := ⟨R_Mo, "clear", "()V"⟩
abbrev b_Mo_prove : ByteArray := prog_12_method_42_code
def y_Mo_prove : MethodName := ⟨R_Mo, "prove", "(I)I"⟩
abbrev b_Mo_search : ByteArray := prog_12_method_30_code
def y_Mo_search : MethodName := ⟨R_Mo, "search", "()V"⟩
abbrev b_Mo_spread : ByteArray := prog_12_method_29_code
def y_Mo_spread : MethodName := ⟨R_Mo, "spread", "(II)Z"⟩
abbrev b_Mo_mark : ByteArray := prog_12_method_27_code
def y_Mo_mark : MethodName := ⟨R_Mo, "mark", "(II)V"⟩
abbrev b_Mo_led : ByteArray := prog_12_method_23_code
def y_Mo_led : MethodName := ⟨R_Mo, "led", "(II)I"⟩
abbrev b_Mo_bit : ByteArray := prog_12_method_21_code
def y_Mo_bit : MethodName := ⟨R_Mo, "bit", "([JII)I"⟩
abbrev b_Mo_with : ByteArray := prog_12_method_15_code
def y_Mo_with : MethodName := ⟨R_Mo, "with", "(III)I"⟩
abbrev b_Mo_isOn : ByteArray := prog_12_method_22_code
def y_Mo_isOn : MethodName := ⟨R_Mo, "isOn", "(II)Z"⟩
abbrev b_Mo_known : ByteArray := prog_12_method_28_code
def y_Mo_known : MethodName := ⟨R_Mo, "known", "(II)Z"⟩
abbrev b_Mo_isTrue : ByteArray := prog_12_method_36_code
def y_Mo_isTrue : MethodName := ⟨R_Mo, "isTrue", "()Z"⟩
abbrev b_Mo_store : ByteArray := prog_12_method_35_code
def y_Mo_store : MethodName := ⟨R_Mo, "store", "(I)V"⟩
abbrev b_Mo_before : ByteArray := prog_12_method_31_code
def y_Mo_before : MethodName := ⟨R_Mo, "before", "(I)V"⟩
abbrev b_Mo_leadsIn : ByteArray := prog_12_method_32_code
def y_Mo_leadsIn : MethodName := ⟨R_Mo, "leadsIn", "(II)Z"⟩
abbrev b_Mo_isIn : ByteArray := prog_12_method_33_code
def y_Mo_isIn : MethodName := ⟨R_Mo, "isIn", "(II)Z"⟩
abbrev b_Mo_refine : ByteArray := prog_12_method_41_code
def y_Mo_refine : MethodName := ⟨R_Mo, "refine", "()I"⟩
abbrev b_Mo_along : ByteArray := prog_12_method_39_code
def y_Mo_along : MethodName := ⟨R_Mo, "along", "(I)V"⟩
abbrev b_Mo_fetch : ByteArray := prog_12_method_34_code
def y_Mo_fetch : MethodName := ⟨R_Mo, "fetch", "(I)V"⟩
abbrev b_Mo_hangsOn : ByteArray := prog_12_method_38_code
def y_Mo_hangsOn : MethodName := ⟨R_Mo, "hangsOn", "(I)Z"⟩
abbrev b_Mo_offer : ByteArray := prog_12_method_40_code
def y_Mo_offer : MethodName := ⟨R_Mo, "offer", "()I"⟩
abbrev b_Mo_splits : ByteArray := prog_12_method_37_code
def y_Mo_splits : MethodName := ⟨R_Mo, "splits", "()Z"⟩
abbrev b_Mo_outcome : ByteArray := prog_12_method_43_code
def y_Mo_outcome : MethodName := ⟨R_Mo, "outcome", "()I"⟩
abbrev b_Mo_edges : ByteArray := prog_12_method_44_code
def y_Mo_edges : MethodName := ⟨R_Mo, "edges", "()I"⟩
abbrev b_Mo_predicates : ByteArray := prog_12_method_45_code
def y_Mo_predicates : MethodName := ⟨R_Mo, "predicates", "()I"⟩
abbrev b_Mo_holds : ByteArray := prog_12_method_47_code
def y_Mo_holds : MethodName := ⟨R_Mo, "holds", "(II)Z"⟩
abbrev b_Mo_isState : ByteArray := prog_12_method_46_code
def y_Mo_isState : MethodName := ⟨R_Mo, "isState", "(I)Z"⟩
abbrev b_Mo_signature : ByteArray := prog_12_method_48_code
def y_Mo_signature : MethodName := ⟨R_Mo, "signature", "(I)S"⟩
abbrev b_Mo_follow : ByteArray := prog_12_method_49_code
def y_Mo_follow : MethodName := ⟨R_Mo, "follow", "(III)I"⟩
abbrev b_Mo_nodes : ByteArray := prog_12_method_50_code
def y_Mo_nodes : MethodName := ⟨R_Mo, "nodes", "()I"⟩
abbrev b_Mo_node : ByteArray := prog_12_method_51_code
def y_Mo_node : MethodName := ⟨R_Mo, "node", "(II)I"⟩
abbrev b_Mo_length : ByteArray := prog_12_method_52_code
def y_Mo_length : MethodName := ⟨R_Mo, "length", "()I"⟩
abbrev b_Mo_path : ByteArray := prog_12_method_53_code
def y_Mo_path : MethodName := ⟨R_Mo, "path", "(I)I"⟩
abbrev b_Mo_input : ByteArray := prog_12_method_54_code
def y_Mo_input : MethodName := ⟨R_Mo, "input", "(I)I"⟩
abbrev b_Lw_law : ByteArray := code
def y_Lw_law : MethodName := ⟨R_Lw, "law", "([I)Z"⟩
theorem wi_Sp : Cond.initialized R_Sp ∈ WT := WT_in (k := 2) (by decide +kernel) (by decide +kernel)
theorem wi_Li : Cond.initialized R_Li ∈ WT := WT_in (k := 3) (by decide +kernel) (by decide +kernel)
theorem wi_Fo : Cond.initialized R_Fo ∈ WT := WT_in (k := 4) (by decide +kernel) (by decide +kernel)
theorem wi_Pa : Cond.initialized R_Pa ∈ WT := WT_in (k := 25) (by decide +kernel) (by decide +kernel)
theorem wi_Pr : Cond.initialized R_Pr ∈ WT := WT_in (k := 5) (by decide +kernel) (by decide +kernel)
theorem wi_Gr : Cond.initialized R_Gr ∈ WT := WT_in (k := 6) (by decide +kernel) (by decide +kernel)
theorem wi_Se : Cond.initialized R_Se ∈ WT := WT_in (k := 24) (by decide +kernel) (by decide +kernel)
theorem wi_Re : Cond.initialized R_Re ∈ WT := WT_in (k := 26) (by decide +kernel) (by decide +kernel)
theorem wi_Rf : Cond.initialized R_Rf ∈ WT := WT_in (k := 27) (by decide +kernel) (by decide +kernel)
theorem wi_PP : Cond.initialized R_PP ∈ WT := WT_in (k := 1) (by decide +kernel) (by decide +kernel)
theorem wi_Mo : Cond.initialized R_Mo ∈ WT := WT_in (k := 28) (by decide +kernel) (by decide +kernel)
theorem wi_Lw : Cond.initialized R_Lw ∈ WT := WT_in (k := 0) (by decide +kernel) (by decide +kernel)
theorem wi_Ar : Cond.initialized R_Ar ∈ WT := WT_in (k := 7) (by decide +kernel) (by decide +kernel)
theorem wc_PP_init : Cond.code y_PP_init b_PP_init 8 none ∈ WT := WT_in (k := 34) (by decide +kernel) (by decide +kernel)
theorem wm_PP_init : Cond.instanceMethod y_PP_init ∈ WT := WT_in (k := 33) (by decide +kernel) (by decide +kernel)
theorem wc_Sp_init : Cond.code y_Sp_init b_Sp_init 3 none ∈ WT := WT_in (k := 42) (by decide +kernel) (by decide +kernel)
theorem wm_Sp_init : Cond.instanceMethod y_Sp_init ∈ WT := WT_in (k := 41) (by decide +kernel) (by decide +kernel)
theorem wc_Li_init : Cond.code y_Li_init b_Li_init 1 none ∈ WT := WT_in (k := 67) (by decide +kernel) (by decide +kernel)
theorem wm_Li_init : Cond.instanceMethod y_Li_init ∈ WT := WT_in (k := 66) (by decide +kernel) (by decide +kernel)
theorem wc_Fo_init : Cond.code y_Fo_init b_Fo_init 2 none ∈ WT := WT_in (k := 81) (by decide +kernel) (by decide +kernel)
theorem wm_Fo_init : Cond.instanceMethod y_Fo_init ∈ WT := WT_in (k := 80) (by decide +kernel) (by decide +kernel)
theorem wc_Pr_init : Cond.code y_Pr_init b_Pr_init 2 none ∈ WT := WT_in (k := 101) (by decide +kernel) (by decide +kernel)
theorem wm_Pr_init : Cond.instanceMethod y_Pr_init ∈ WT := WT_in (k := 100) (by decide +kernel) (by decide +kernel)
theorem wc_Gr_init : Cond.code y_Gr_init b_Gr_init 2 none ∈ WT := WT_in (k := 138) (by decide +kernel) (by decide +kernel)
theorem wm_Gr_init : Cond.instanceMethod y_Gr_init ∈ WT := WT_in (k := 137) (by decide +kernel) (by decide +kernel)
theorem wc_Gr_numberGroups : Cond.code y_Gr_numberGroups b_Gr_numberGroups 3 none ∈ WT := WT_in (k := 143) (by decide +kernel) (by decide +kernel)
theorem wm_Gr_numberGroups : Cond.instanceMethod y_Gr_numberGroups ∈ WT := WT_in (k := 142) (by decide +kernel) (by decide +kernel)
theorem ws_Gr_numberGroups : Cond.selects R_Gr y_Gr_numberGroups y_Gr_numberGroups ∈ WT := WT_se (k := 0) (by decide +kernel) (by decide +kernel)
theorem wc_Ar_fill_aIIII : Cond.code y_Ar_fill_aIIII b_Ar_fill_aIIII 5 none ∈ WT := WT_in (k := 146) (by decide +kernel) (by decide +kernel)
theorem wt_Ar_fill_aIIII : Cond.static y_Ar_fill_aIIII ∈ WT := WT_in (k := 145) (by decide +kernel) (by decide +kernel)
theorem wc_Ar_rangeCheck : Cond.code y_Ar_rangeCheck b_Ar_rangeCheck 3 none ∈ WT := WT_in (k := 149) (by decide +kernel) (by decide +kernel)
theorem wt_Ar_rangeCheck : Cond.static y_Ar_rangeCheck ∈ WT := WT_in (k := 148) (by decide +kernel) (by decide +kernel)
theorem wc_Gr_placeStates : Cond.code y_Gr_placeStates b_Gr_placeStates 3 none ∈ WT := WT_in (k := 483) (by decide +kernel) (by decide +kernel)
theorem wm_Gr_placeStates : Cond.instanceMethod y_Gr_placeStates ∈ WT := WT_in (k := 482) (by decide +kernel) (by decide +kernel)
theorem ws_Gr_placeStates : Cond.selects R_Gr y_Gr_placeStates y_Gr_placeStates ∈ WT := WT_se (k := 2) (by decide +kernel) (by decide +kernel)
theorem wc_Ar_fill_aII : Cond.code y_Ar_fill_aII b_Ar_fill_aII 4 none ∈ WT := WT_in (k := 486) (by decide +kernel) (by decide +kernel)
theorem wt_Ar_fill_aII : Cond.static y_Ar_fill_aII ∈ WT := WT_in (k := 485) (by decide +kernel) (by decide +kernel)
theorem wc_Se_init : Cond.code y_Se_init b_Se_init 4 none ∈ WT := WT_in (k := 523) (by decide +kernel) (by decide +kernel)
theorem wm_Se_init : Cond.instanceMethod y_Se_init ∈ WT := WT_in (k := 522) (by decide +kernel) (by decide +kernel)
theorem wc_Pa_init : Cond.code y_Pa_init b_Pa_init 3 none ∈ WT := WT_in (k := 587) (by decide +kernel) (by decide +kernel)
theorem wm_Pa_init : Cond.instanceMethod y_Pa_init ∈ WT := WT_in (k := 586) (by decide +kernel) (by decide +kernel)
theorem wc_Re_init : Cond.code y_Re_init b_Re_init 4 none ∈ WT := WT_in (k := 603) (by decide +kernel) (by decide +kernel)
theorem wm_Re_init : Cond.instanceMethod y_Re_init ∈ WT := WT_in (k := 602) (by decide +kernel) (by decide +kernel)
theorem wc_Rf_init : Cond.code y_Rf_init b_Rf_init 5 none ∈ WT := WT_in (k := 633) (by decide +kernel) (by decide +kernel)
theorem wm_Rf_init : Cond.instanceMethod y_Rf_init ∈ WT := WT_in (k := 632) (by decide +kernel) (by decide +kernel)
theorem wc_PP_type : Cond.code y_PP_type b_PP_type 2 (some .int) ∈ WT := WT_in (k := 692) (by decide +kernel) (by decide +kernel)
theorem wm_PP_type : Cond.instanceMethod y_PP_type ∈ WT := WT_in (k := 690) (by decide +kernel) (by decide +kernel)
theorem ws_PP_type : Cond.selects R_PP y_PP_type y_PP_type ∈ WT := WT_in (k := 691) (by decide +kernel) (by decide +kernel)
theorem wc_Li_append : Cond.code y_Li_append b_Li_append 2 (some .int) ∈ WT := WT_in (k := 696) (by decide +kernel) (by decide +kernel)
theorem wm_Li_append : Cond.instanceMethod y_Li_append ∈ WT := WT_in (k := 694) (by decide +kernel) (by decide +kernel)
theorem ws_Li_append : Cond.selects R_Li y_Li_append y_Li_append ∈ WT := WT_in (k := 695) (by decide +kernel) (by decide +kernel)
theorem wc_PP_wipe : Cond.code y_PP_wipe b_PP_wipe 1 none ∈ WT := WT_in (k := 700) (by decide +kernel) (by decide +kernel)
theorem wm_PP_wipe : Cond.instanceMethod y_PP_wipe ∈ WT := WT_in (k := 698) (by decide +kernel) (by decide +kernel)
theorem ws_PP_wipe : Cond.selects R_PP y_PP_wipe y_PP_wipe ∈ WT := WT_in (k := 699) (by decide +kernel) (by decide +kernel)
theorem wc_Li_makeEmpty : Cond.code y_Li_makeEmpty b_Li_makeEmpty 1 none ∈ WT := WT_in (k := 704) (by decide +kernel) (by decide +kernel)
theorem wm_Li_makeEmpty : Cond.instanceMethod y_Li_makeEmpty ∈ WT := WT_in (k := 702) (by decide +kernel) (by decide +kernel)
theorem ws_Li_makeEmpty : Cond.selects R_Li y_Li_makeEmpty y_Li_makeEmpty ∈ WT := WT_in (k := 703) (by decide +kernel) (by decide +kernel)
theorem wc_PP_clear : Cond.code y_PP_clear b_PP_clear 1 none ∈ WT := WT_in (k := 708) (by decide +kernel) (by decide +kernel)
theorem wm_PP_clear : Cond.instanceMethod y_PP_clear ∈ WT := WT_in (k := 706) (by decide +kernel) (by decide +kernel)
theorem ws_PP_clear : Cond.selects R_PP y_PP_clear y_PP_clear ∈ WT := WT_in (k := 707) (by decide +kernel) (by decide +kernel)
theorem wc_Gr_dropPredicates : Cond.code y_Gr_dropPredicates b_Gr_dropPredicates 1 none ∈ WT := WT_in (k := 712) (by decide +kernel) (by decide +kernel)
theorem wm_Gr_dropPredicates : Cond.instanceMethod y_Gr_dropPredicates ∈ WT := WT_in (k := 710) (by decide +kernel) (by decide +kernel)
theorem ws_Gr_dropPredicates : Cond.selects R_Gr y_Gr_dropPredicates y_Gr_dropPredicates ∈ WT := WT_in (k := 711) (by decide +kernel) (by decide +kernel)
theorem wc_PP_forgetSearch : Cond.code y_PP_forgetSearch b_PP_forgetSearch 1 none ∈ WT := WT_in (k := 716) (by decide +kernel) (by decide +kernel)
theorem wm_PP_forgetSearch : Cond.instanceMethod y_PP_forgetSearch ∈ WT := WT_in (k := 715) (by decide +kernel) (by decide +kernel)
theorem ws_PP_forgetSearch : Cond.selects R_PP y_PP_forgetSearch y_PP_forgetSearch ∈ WT := WT_se (k := 3) (by decide +kernel) (by decide +kernel)
theorem wc_Se_forget : Cond.code y_Se_forget b_Se_forget 1 none ∈ WT := WT_in (k := 720) (by decide +kernel) (by decide +kernel)
theorem wm_Se_forget : Cond.instanceMethod y_Se_forget ∈ WT := WT_in (k := 718) (by decide +kernel) (by decide +kernel)
theorem ws_Se_forget : Cond.selects R_Se y_Se_forget y_Se_forget ∈ WT := WT_in (k := 719) (by decide +kernel) (by decide +kernel)
theorem wc_Re_forget : Cond.code y_Re_forget b_Re_forget 1 none ∈ WT := WT_in (k := 724) (by decide +kernel) (by decide +kernel)
theorem wm_Re_forget : Cond.instanceMethod y_Re_forget ∈ WT := WT_in (k := 722) (by decide +kernel) (by decide +kernel)
theorem ws_Re_forget : Cond.selects R_Re y_Re_forget y_Re_forget ∈ WT := WT_in (k := 723) (by decide +kernel) (by decide +kernel)
theorem wc_PP_outcome : Cond.code y_PP_outcome b_PP_outcome 1 (some .int) ∈ WT := WT_in (k := 728) (by decide +kernel) (by decide +kernel)
theorem wm_PP_outcome : Cond.instanceMethod y_PP_outcome ∈ WT := WT_in (k := 726) (by decide +kernel) (by decide +kernel)
theorem ws_PP_outcome : Cond.selects R_PP y_PP_outcome y_PP_outcome ∈ WT := WT_in (k := 727) (by decide +kernel) (by decide +kernel)
theorem wc_PP_edges : Cond.code y_PP_edges b_PP_edges 1 (some .int) ∈ WT := WT_in (k := 732) (by decide +kernel) (by decide +kernel)
theorem wm_PP_edges : Cond.instanceMethod y_PP_edges ∈ WT := WT_in (k := 730) (by decide +kernel) (by decide +kernel)
theorem ws_PP_edges : Cond.selects R_PP y_PP_edges y_PP_edges ∈ WT := WT_in (k := 731) (by decide +kernel) (by decide +kernel)
theorem wc_PP_predicates : Cond.code y_PP_predicates b_PP_predicates 1 (some .int) ∈ WT := WT_in (k := 736) (by decide +kernel) (by decide +kernel)
theorem wm_PP_predicates : Cond.instanceMethod y_PP_predicates ∈ WT := WT_in (k := 734) (by decide +kernel) (by decide +kernel)
theorem ws_PP_predicates : Cond.selects R_PP y_PP_predicates y_PP_predicates ∈ WT := WT_in (k := 735) (by decide +kernel) (by decide +kernel)
theorem wc_PP_nodes : Cond.code y_PP_nodes b_PP_nodes 1 (some .int) ∈ WT := WT_in (k := 740) (by decide +kernel) (by decide +kernel)
theorem wm_PP_nodes : Cond.instanceMethod y_PP_nodes ∈ WT := WT_in (k := 738) (by decide +kernel) (by decide +kernel)
theorem ws_PP_nodes : Cond.selects R_PP y_PP_nodes y_PP_nodes ∈ WT := WT_in (k := 739) (by decide +kernel) (by decide +kernel)
theorem wc_PP_length : Cond.code y_PP_length b_PP_length 1 (some .int) ∈ WT := WT_in (k := 744) (by decide +kernel) (by decide +kernel)
theorem wm_PP_length : Cond.instanceMethod y_PP_length ∈ WT := WT_in (k := 742) (by decide +kernel) (by decide +kernel)
theorem ws_PP_length : Cond.selects R_PP y_PP_length y_PP_length ∈ WT := WT_in (k := 743) (by decide +kernel) (by decide +kernel)
theorem wc_Lw_cell : Cond.code y_Lw_cell b_Lw_cell 2 (some .int) ∈ WT := WT_in (k := 747) (by decide +kernel) (by decide +kernel)
theorem wt_Lw_cell : Cond.static y_Lw_cell ∈ WT := WT_in (k := 746) (by decide +kernel) (by decide +kernel)
theorem wc_PP_edge : Cond.code y_PP_edge b_PP_edge 3 (some .int) ∈ WT := WT_in (k := 756) (by decide +kernel) (by decide +kernel)
theorem wm_PP_edge : Cond.instanceMethod y_PP_edge ∈ WT := WT_in (k := 754) (by decide +kernel) (by decide +kernel)
theorem ws_PP_edge : Cond.selects R_PP y_PP_edge y_PP_edge ∈ WT := WT_in (k := 755) (by decide +kernel) (by decide +kernel)
theorem wc_Pa_readEdge : Cond.code y_Pa_readEdge b_Pa_readEdge 1 (some .int) ∈ WT := WT_in (k := 760) (by decide +kernel) (by decide +kernel)
theorem wm_Pa_readEdge : Cond.instanceMethod y_Pa_readEdge ∈ WT := WT_in (k := 758) (by decide +kernel) (by decide +kernel)
theorem ws_Pa_readEdge : Cond.selects R_Pa y_Pa_readEdge y_Pa_readEdge ∈ WT := WT_in (k := 759) (by decide +kernel) (by decide +kernel)
theorem wc_Li_at : Cond.code y_Li_at b_Li_at 2 (some .char) ∈ WT := WT_in (k := 764) (by decide +kernel) (by decide +kernel)
theorem wm_Li_at : Cond.instanceMethod y_Li_at ∈ WT := WT_in (k := 762) (by decide +kernel) (by decide +kernel)
theorem ws_Li_at : Cond.selects R_Li y_Li_at y_Li_at ∈ WT := WT_in (k := 763) (by decide +kernel) (by decide +kernel)
theorem wc_Pa_isLocation : Cond.code y_Pa_isLocation b_Pa_isLocation 1 (some .boolean) ∈ WT := WT_in (k := 767) (by decide +kernel) (by decide +kernel)
theorem wt_Pa_isLocation : Cond.static y_Pa_isLocation ∈ WT := WT_in (k := 766) (by decide +kernel) (by decide +kernel)
theorem wc_Fo_isVariable : Cond.code y_Fo_isVariable b_Fo_isVariable 1 (some .boolean) ∈ WT := WT_in (k := 770) (by decide +kernel) (by decide +kernel)
theorem wt_Fo_isVariable : Cond.static y_Fo_isVariable ∈ WT := WT_in (k := 769) (by decide +kernel) (by decide +kernel)
theorem wc_Pa_readTerm : Cond.code y_Pa_readTerm b_Pa_readTerm 2 (some .boolean) ∈ WT := WT_in (k := 774) (by decide +kernel) (by decide +kernel)
theorem wm_Pa_readTerm : Cond.instanceMethod y_Pa_readTerm ∈ WT := WT_in (k := 773) (by decide +kernel) (by decide +kernel)
theorem ws_Pa_readTerm : Cond.selects R_Pa y_Pa_readTerm y_Pa_readTerm ∈ WT := WT_se (k := 4) (by decide +kernel) (by decide +kernel)
theorem wc_Fo_begin : Cond.code y_Fo_begin b_Fo_begin 1 none ∈ WT := WT_in (k := 778) (by decide +kernel) (by decide +kernel)
theorem wm_Fo_begin : Cond.instanceMethod y_Fo_begin ∈ WT := WT_in (k := 776) (by decide +kernel) (by decide +kernel)
theorem ws_Fo_begin : Cond.selects R_Fo y_Fo_begin y_Fo_begin ∈ WT := WT_in (k := 777) (by decide +kernel) (by decide +kernel)
theorem wc_Pa_passTerm : Cond.code y_Pa_passTerm b_Pa_passTerm 4 (some .boolean) ∈ WT := WT_in (k := 782) (by decide +kernel) (by decide +kernel)
theorem wm_Pa_passTerm : Cond.instanceMethod y_Pa_passTerm ∈ WT := WT_in (k := 781) (by decide +kernel) (by decide +kernel)
theorem ws_Pa_passTerm : Cond.selects R_Pa y_Pa_passTerm y_Pa_passTerm ∈ WT := WT_se (k := 5) (by decide +kernel) (by decide +kernel)
theorem wc_Pa_passPart : Cond.code y_Pa_passPart b_Pa_passPart 3 (some .boolean) ∈ WT := WT_in (k := 786) (by decide +kernel) (by decide +kernel)
theorem wm_Pa_passPart : Cond.instanceMethod y_Pa_passPart ∈ WT := WT_in (k := 785) (by decide +kernel) (by decide +kernel)
theorem ws_Pa_passPart : Cond.selects R_Pa y_Pa_passPart y_Pa_passPart ∈ WT := WT_se (k := 6) (by decide +kernel) (by decide +kernel)
theorem wc_Fo_isDigit : Cond.code y_Fo_isDigit b_Fo_isDigit 1 (some .boolean) ∈ WT := WT_in (k := 789) (by decide +kernel) (by decide +kernel)
theorem wt_Fo_isDigit : Cond.static y_Fo_isDigit ∈ WT := WT_in (k := 788) (by decide +kernel) (by decide +kernel)
theorem wc_Fo_add : Cond.code y_Fo_add b_Fo_add 2 none ∈ WT := WT_in (k := 793) (by decide +kernel) (by decide +kernel)
theorem wm_Fo_add : Cond.instanceMethod y_Fo_add ∈ WT := WT_in (k := 791) (by decide +kernel) (by decide +kernel)
theorem ws_Fo_add : Cond.selects R_Fo y_Fo_add y_Fo_add ∈ WT := WT_in (k := 792) (by decide +kernel) (by decide +kernel)
theorem wc_Pa_isOperator : Cond.code y_Pa_isOperator b_Pa_isOperator 1 (some .boolean) ∈ WT := WT_in (k := 796) (by decide +kernel) (by decide +kernel)
theorem wt_Pa_isOperator : Cond.static y_Pa_isOperator ∈ WT := WT_in (k := 795) (by decide +kernel) (by decide +kernel)
theorem wc_Pa_readAtom : Cond.code y_Pa_readAtom b_Pa_readAtom 3 (some .boolean) ∈ WT := WT_in (k := 800) (by decide +kernel) (by decide +kernel)
theorem wm_Pa_readAtom : Cond.instanceMethod y_Pa_readAtom ∈ WT := WT_in (k := 798) (by decide +kernel) (by decide +kernel)
theorem ws_Pa_readAtom : Cond.selects R_Pa y_Pa_readAtom y_Pa_readAtom ∈ WT := WT_in (k := 799) (by decide +kernel) (by decide +kernel)
theorem wc_Pa_isComparison : Cond.code y_Pa_isComparison b_Pa_isComparison 1 (some .boolean) ∈ WT := WT_in (k := 803) (by decide +kernel) (by decide +kernel)
theorem wt_Pa_isComparison : Cond.static y_Pa_isComparison ∈ WT := WT_in (k := 802) (by decide +kernel) (by decide +kernel)
theorem wc_Pr_isFull : Cond.code y_Pr_isFull b_Pr_isFull 1 (some .boolean) ∈ WT := WT_in (k := 810) (by decide +kernel) (by decide +kernel)
theorem wm_Pr_isFull : Cond.instanceMethod y_Pr_isFull ∈ WT := WT_in (k := 808) (by decide +kernel) (by decide +kernel)
theorem ws_Pr_isFull : Cond.selects R_Pr y_Pr_isFull y_Pr_isFull ∈ WT := WT_in (k := 809) (by decide +kernel) (by decide +kernel)
theorem wc_Pr_add : Cond.code y_Pr_add b_Pr_add 6 (some .int) ∈ WT := WT_in (k := 830) (by decide +kernel) (by decide +kernel)
theorem wm_Pr_add : Cond.instanceMethod y_Pr_add ∈ WT := WT_in (k := 828) (by decide +kernel) (by decide +kernel)
theorem ws_Pr_add : Cond.selects R_Pr y_Pr_add y_Pr_add ∈ WT := WT_in (k := 829) (by decide +kernel) (by decide +kernel)
theorem wc_Pr_targetOf : Cond.code y_Pr_targetOf b_Pr_targetOf 5 (some .int) ∈ WT := WT_in (k := 835) (by decide +kernel) (by decide +kernel)
theorem wm_Pr_targetOf : Cond.instanceMethod y_Pr_targetOf ∈ WT := WT_in (k := 834) (by decide +kernel) (by decide +kernel)
theorem ws_Pr_targetOf : Cond.selects R_Pr y_Pr_targetOf y_Pr_targetOf ∈ WT := WT_se (k := 7) (by decide +kernel) (by decide +kernel)
theorem wc_Sp_write : Cond.code y_Sp_write b_Sp_write 5 (some .int) ∈ WT := WT_in (k := 839) (by decide +kernel) (by decide +kernel)
theorem wm_Sp_write : Cond.instanceMethod y_Sp_write ∈ WT := WT_in (k := 837) (by decide +kernel) (by decide +kernel)
theorem ws_Sp_write : Cond.selects R_Sp y_Sp_write y_Sp_write ∈ WT := WT_in (k := 838) (by decide +kernel) (by decide +kernel)
theorem wc_Fo_valueIn : Cond.code y_Fo_valueIn b_Fo_valueIn 5 (some .int) ∈ WT := WT_in (k := 843) (by decide +kernel) (by decide +kernel)
theorem wm_Fo_valueIn : Cond.instanceMethod y_Fo_valueIn ∈ WT := WT_in (k := 841) (by decide +kernel) (by decide +kernel)
theorem ws_Fo_valueIn : Cond.selects R_Fo y_Fo_valueIn y_Fo_valueIn ∈ WT := WT_in (k := 842) (by decide +kernel) (by decide +kernel)
theorem wc_Sp_read : Cond.code y_Sp_read b_Sp_read 3 (some .int) ∈ WT := WT_in (k := 848) (by decide +kernel) (by decide +kernel)
theorem wm_Sp_read : Cond.instanceMethod y_Sp_read ∈ WT := WT_in (k := 846) (by decide +kernel) (by decide +kernel)
theorem ws_Sp_read : Cond.selects R_Sp y_Sp_read y_Sp_read ∈ WT := WT_in (k := 847) (by decide +kernel) (by decide +kernel)
theorem wc_Fo_combine : Cond.code y_Fo_combine b_Fo_combine 3 (some .int) ∈ WT := WT_in (k := 852) (by decide +kernel) (by decide +kernel)
theorem wt_Fo_combine : Cond.static y_Fo_combine ∈ WT := WT_in (k := 851) (by decide +kernel) (by decide +kernel)
theorem wc_PP_predicate : Cond.code y_PP_predicate b_PP_predicate 3 (some .int) ∈ WT := WT_in (k := 859) (by decide +kernel) (by decide +kernel)
theorem wm_PP_predicate : Cond.instanceMethod y_PP_predicate ∈ WT := WT_in (k := 857) (by decide +kernel) (by decide +kernel)
theorem ws_PP_predicate : Cond.selects R_PP y_PP_predicate y_PP_predicate ∈ WT := WT_in (k := 858) (by decide +kernel) (by decide +kernel)
theorem wc_Gr_isFull : Cond.code y_Gr_isFull b_Gr_isFull 1 (some .boolean) ∈ WT := WT_in (k := 865) (by decide +kernel) (by decide +kernel)
theorem wm_Gr_isFull : Cond.instanceMethod y_Gr_isFull ∈ WT := WT_in (k := 863) (by decide +kernel) (by decide +kernel)
theorem ws_Gr_isFull : Cond.selects R_Gr y_Gr_isFull y_Gr_isFull ∈ WT := WT_in (k := 864) (by decide +kernel) (by decide +kernel)
theorem wc_Gr_include : Cond.code y_Gr_include b_Gr_include 2 none ∈ WT := WT_in (k := 871) (by decide +kernel) (by decide +kernel)
theorem wm_Gr_include : Cond.instanceMethod y_Gr_include ∈ WT := WT_in (k := 869) (by decide +kernel) (by decide +kernel)
theorem ws_Gr_include : Cond.selects R_Gr y_Gr_include y_Gr_include ∈ WT := WT_in (k := 870) (by decide +kernel) (by decide +kernel)
theorem wc_Gr_endPredicate : Cond.code y_Gr_endPredicate b_Gr_endPredicate 1 none ∈ WT := WT_in (k := 875) (by decide +kernel) (by decide +kernel)
theorem wm_Gr_endPredicate : Cond.instanceMethod y_Gr_endPredicate ∈ WT := WT_in (k := 873) (by decide +kernel) (by decide +kernel)
theorem ws_Gr_endPredicate : Cond.selects R_Gr y_Gr_endPredicate y_Gr_endPredicate ∈ WT := WT_in (k := 874) (by decide +kernel) (by decide +kernel)
theorem wc_PP_prove : Cond.code y_PP_prove b_PP_prove 3 (some .int) ∈ WT := WT_in (k := 882) (by decide +kernel) (by decide +kernel)
theorem wm_PP_prove : Cond.instanceMethod y_PP_prove ∈ WT := WT_in (k := 880) (by decide +kernel) (by decide +kernel)
theorem ws_PP_prove : Cond.selects R_PP y_PP_prove y_PP_prove ∈ WT := WT_in (k := 881) (by decide +kernel) (by decide +kernel)
theorem wc_PP_makeRound : Cond.code y_PP_makeRound b_PP_makeRound 1 (some .int) ∈ WT := WT_in (k := 887) (by decide +kernel) (by decide +kernel)
theorem wm_PP_makeRound : Cond.instanceMethod y_PP_makeRound ∈ WT := WT_in (k := 886) (by decide +kernel) (by decide +kernel)
theorem ws_PP_makeRound : Cond.selects R_PP y_PP_makeRound y_PP_makeRound ∈ WT := WT_se (k := 8) (by decide +kernel) (by decide +kernel)
theorem wc_Se_run : Cond.code y_Se_run b_Se_run 4 none ∈ WT := WT_in (k := 891) (by decide +kernel) (by decide +kernel)
theorem wm_Se_run : Cond.instanceMethod y_Se_run ∈ WT := WT_in (k := 889) (by decide +kernel) (by decide +kernel)
theorem ws_Se_run : Cond.selects R_Se y_Se_run y_Se_run ∈ WT := WT_in (k := 890) (by decide +kernel) (by decide +kernel)
theorem wc_Ar_fill_aBB : Cond.code y_Ar_fill_aBB b_Ar_fill_aBB 4 none ∈ WT := WT_in (k := 895) (by decide +kernel) (by decide +kernel)
theorem wt_Ar_fill_aBB : Cond.static y_Ar_fill_aBB ∈ WT := WT_in (k := 894) (by decide +kernel) (by decide +kernel)
theorem wc_Se_addNode : Cond.code y_Se_addNode b_Se_addNode 5 none ∈ WT := WT_in (k := 899) (by decide +kernel) (by decide +kernel)
theorem wm_Se_addNode : Cond.instanceMethod y_Se_addNode ∈ WT := WT_in (k := 898) (by decide +kernel) (by decide +kernel)
theorem ws_Se_addNode : Cond.selects R_Se y_Se_addNode y_Se_addNode ∈ WT := WT_se (k := 9) (by decide +kernel) (by decide +kernel)
theorem wc_Gr_signatureOf : Cond.code y_Gr_signatureOf b_Gr_signatureOf 2 (some .int) ∈ WT := WT_in (k := 903) (by decide +kernel) (by decide +kernel)
theorem wm_Gr_signatureOf : Cond.instanceMethod y_Gr_signatureOf ∈ WT := WT_in (k := 901) (by decide +kernel) (by decide +kernel)
theorem ws_Gr_signatureOf : Cond.selects R_Gr y_Gr_signatureOf y_Gr_signatureOf ∈ WT := WT_in (k := 902) (by decide +kernel) (by decide +kernel)
theorem wc_Se_take : Cond.code y_Se_take b_Se_take 5 (some .boolean) ∈ WT := WT_in (k := 907) (by decide +kernel) (by decide +kernel)
theorem wm_Se_take : Cond.instanceMethod y_Se_take ∈ WT := WT_in (k := 906) (by decide +kernel) (by decide +kernel)
theorem ws_Se_take : Cond.selects R_Se y_Se_take y_Se_take ∈ WT := WT_se (k := 10) (by decide +kernel) (by decide +kernel)
theorem wc_Se_markReached : Cond.code y_Se_markReached b_Se_markReached 7 none ∈ WT := WT_in (k := 911) (by decide +kernel) (by decide +kernel)
theorem wm_Se_markReached : Cond.instanceMethod y_Se_markReached ∈ WT := WT_in (k := 910) (by decide +kernel) (by decide +kernel)
theorem ws_Se_markReached : Cond.selects R_Se y_Se_markReached y_Se_markReached ∈ WT := WT_se (k := 11) (by decide +kernel) (by decide +kernel)
theorem wc_Ar_fill_aBIIB : Cond.code y_Ar_fill_aBIIB b_Ar_fill_aBIIB 5 none ∈ WT := WT_in (k := 914) (by decide +kernel) (by decide +kernel)
theorem wt_Ar_fill_aBIIB : Cond.static y_Ar_fill_aBIIB ∈ WT := WT_in (k := 913) (by decide +kernel) (by decide +kernel)
theorem wc_Pr_choices : Cond.code y_Pr_choices b_Pr_choices 2 (some .int) ∈ WT := WT_in (k := 918) (by decide +kernel) (by decide +kernel)
theorem wm_Pr_choices : Cond.instanceMethod y_Pr_choices ∈ WT := WT_in (k := 916) (by decide +kernel) (by decide +kernel)
theorem ws_Pr_choices : Cond.selects R_Pr y_Pr_choices y_Pr_choices ∈ WT := WT_in (k := 917) (by decide +kernel) (by decide +kernel)
theorem wc_Pr_step : Cond.code y_Pr_step b_Pr_step 5 (some .int) ∈ WT := WT_in (k := 922) (by decide +kernel) (by decide +kernel)
theorem wm_Pr_step : Cond.instanceMethod y_Pr_step ∈ WT := WT_in (k := 920) (by decide +kernel) (by decide +kernel)
theorem ws_Pr_step : Cond.selects R_Pr y_Pr_step y_Pr_step ∈ WT := WT_in (k := 921) (by decide +kernel) (by decide +kernel)
theorem wc_Se_tracePath : Cond.code y_Se_tracePath b_Se_tracePath 4 none ∈ WT := WT_in (k := 926) (by decide +kernel) (by decide +kernel)
theorem wm_Se_tracePath : Cond.instanceMethod y_Se_tracePath ∈ WT := WT_in (k := 925) (by decide +kernel) (by decide +kernel)
theorem ws_Se_tracePath : Cond.selects R_Se y_Se_tracePath y_Se_tracePath ∈ WT := WT_se (k := 12) (by decide +kernel) (by decide +kernel)
theorem wc_Re_succeeds : Cond.code y_Re_succeeds b_Re_succeeds 2 (some .boolean) ∈ WT := WT_in (k := 930) (by decide +kernel) (by decide +kernel)
theorem wm_Re_succeeds : Cond.instanceMethod y_Re_succeeds ∈ WT := WT_in (k := 928) (by decide +kernel) (by decide +kernel)
theorem ws_Re_succeeds : Cond.selects R_Re y_Re_succeeds y_Re_succeeds ∈ WT := WT_in (k := 929) (by decide +kernel) (by decide +kernel)
theorem wc_Ar_fill_aJJ : Cond.code y_Ar_fill_aJJ b_Ar_fill_aJJ 5 none ∈ WT := WT_in (k := 934) (by decide +kernel) (by decide +kernel)
theorem wt_Ar_fill_aJJ : Cond.static y_Ar_fill_aJJ ∈ WT := WT_in (k := 933) (by decide +kernel) (by decide +kernel)
theorem wc_Re_openBefore : Cond.code y_Re_openBefore b_Re_openBefore 3 none ∈ WT := WT_in (k := 938) (by decide +kernel) (by decide +kernel)
theorem wm_Re_openBefore : Cond.instanceMethod y_Re_openBefore ∈ WT := WT_in (k := 937) (by decide +kernel) (by decide +kernel)
theorem ws_Re_openBefore : Cond.selects R_Re y_Re_openBefore y_Re_openBefore ∈ WT := WT_se (k := 13) (by decide +kernel) (by decide +kernel)
theorem wc_Re_leastInput : Cond.code y_Re_leastInput b_Re_leastInput 7 (some .int) ∈ WT := WT_in (k := 942) (by decide +kernel) (by decide +kernel)
theorem wm_Re_leastInput : Cond.instanceMethod y_Re_leastInput ∈ WT := WT_in (k := 941) (by decide +kernel) (by decide +kernel)
theorem ws_Re_leastInput : Cond.selects R_Re y_Re_leastInput y_Re_leastInput ∈ WT := WT_se (k := 14) (by decide +kernel) (by decide +kernel)
theorem wc_Re_isOpen : Cond.code y_Re_isOpen b_Re_isOpen 3 (some .boolean) ∈ WT := WT_in (k := 948) (by decide +kernel) (by decide +kernel)
theorem wm_Re_isOpen : Cond.instanceMethod y_Re_isOpen ∈ WT := WT_in (k := 947) (by decide +kernel) (by decide +kernel)
theorem ws_Re_isOpen : Cond.selects R_Re y_Re_isOpen y_Re_isOpen ∈ WT := WT_se (k := 15) (by decide +kernel) (by decide +kernel)
theorem wc_Re_collectInputs : Cond.code y_Re_collectInputs b_Re_collectInputs 5 none ∈ WT := WT_in (k := 952) (by decide +kernel) (by decide +kernel)
theorem wm_Re_collectInputs : Cond.instanceMethod y_Re_collectInputs ∈ WT := WT_in (k := 951) (by decide +kernel) (by decide +kernel)
theorem ws_Re_collectInputs : Cond.selects R_Re y_Re_collectInputs y_Re_collectInputs ∈ WT := WT_se (k := 16) (by decide +kernel) (by decide +kernel)
theorem wc_Rf_refine : Cond.code y_Rf_refine b_Rf_refine 3 (some .boolean) ∈ WT := WT_in (k := 956) (by decide +kernel) (by decide +kernel)
theorem wm_Rf_refine : Cond.instanceMethod y_Rf_refine ∈ WT := WT_in (k := 954) (by decide +kernel) (by decide +kernel)
theorem ws_Rf_refine : Cond.selects R_Rf y_Rf_refine y_Rf_refine ∈ WT := WT_in (k := 955) (by decide +kernel) (by decide +kernel)
theorem wc_Rf_passEdge : Cond.code y_Rf_passEdge b_Rf_passEdge 4 none ∈ WT := WT_in (k := 960) (by decide +kernel) (by decide +kernel)
theorem wm_Rf_passEdge : Cond.instanceMethod y_Rf_passEdge ∈ WT := WT_in (k := 959) (by decide +kernel) (by decide +kernel)
theorem ws_Rf_passEdge : Cond.selects R_Rf y_Rf_passEdge y_Rf_passEdge ∈ WT := WT_se (k := 17) (by decide +kernel) (by decide +kernel)
theorem wc_Rf_takeAlong : Cond.code y_Rf_takeAlong b_Rf_takeAlong 5 none ∈ WT := WT_in (k := 964) (by decide +kernel) (by decide +kernel)
theorem wm_Rf_takeAlong : Cond.instanceMethod y_Rf_takeAlong ∈ WT := WT_in (k := 963) (by decide +kernel) (by decide +kernel)
theorem ws_Rf_takeAlong : Cond.selects R_Rf y_Rf_takeAlong y_Rf_takeAlong ∈ WT := WT_se (k := 18) (by decide +kernel) (by decide +kernel)
theorem wc_Rf_rowsInUse : Cond.code y_Rf_rowsInUse b_Rf_rowsInUse 1 (some .int) ∈ WT := WT_in (k := 969) (by decide +kernel) (by decide +kernel)
theorem wm_Rf_rowsInUse : Cond.instanceMethod y_Rf_rowsInUse ∈ WT := WT_in (k := 968) (by decide +kernel) (by decide +kernel)
theorem ws_Rf_rowsInUse : Cond.selects R_Rf y_Rf_rowsInUse y_Rf_rowsInUse ∈ WT := WT_se (k := 19) (by decide +kernel) (by decide +kernel)
theorem wc_Rf_pullBack : Cond.code y_Rf_pullBack b_Rf_pullBack 4 none ∈ WT := WT_in (k := 973) (by decide +kernel) (by decide +kernel)
theorem wm_Rf_pullBack : Cond.instanceMethod y_Rf_pullBack ∈ WT := WT_in (k := 972) (by decide +kernel) (by decide +kernel)
theorem ws_Rf_pullBack : Cond.selects R_Rf y_Rf_pullBack y_Rf_pullBack ∈ WT := WT_se (k := 20) (by decide +kernel) (by decide +kernel)
theorem wc_Rf_leaveBehind : Cond.code y_Rf_leaveBehind b_Rf_leaveBehind 6 none ∈ WT := WT_in (k := 978) (by decide +kernel) (by decide +kernel)
theorem wm_Rf_leaveBehind : Cond.instanceMethod y_Rf_leaveBehind ∈ WT := WT_in (k := 977) (by decide +kernel) (by decide +kernel)
theorem ws_Rf_leaveBehind : Cond.selects R_Rf y_Rf_leaveBehind y_Rf_leaveBehind ∈ WT := WT_se (k := 21) (by decide +kernel) (by decide +kernel)
theorem wc_Rf_adoptTaken : Cond.code y_Rf_adoptTaken b_Rf_adoptTaken 5 (some .boolean) ∈ WT := WT_in (k := 983) (by decide +kernel) (by decide +kernel)
theorem wm_Rf_adoptTaken : Cond.instanceMethod y_Rf_adoptTaken ∈ WT := WT_in (k := 982) (by decide +kernel) (by decide +kernel)
theorem ws_Rf_adoptTaken : Cond.selects R_Rf y_Rf_adoptTaken y_Rf_adoptTaken ∈ WT := WT_se (k := 22) (by decide +kernel) (by decide +kernel)
theorem wc_Gr_splitting : Cond.code y_Gr_splitting b_Gr_splitting 5 (some .long) ∈ WT := WT_in (k := 987) (by decide +kernel) (by decide +kernel)
theorem wm_Gr_splitting : Cond.instanceMethod y_Gr_splitting ∈ WT := WT_in (k := 985) (by decide +kernel) (by decide +kernel)
theorem ws_Gr_splitting : Cond.selects R_Gr y_Gr_splitting y_Gr_splitting ∈ WT := WT_in (k := 986) (by decide +kernel) (by decide +kernel)
theorem wc_Rf_adopt : Cond.code y_Rf_adopt b_Rf_adopt 4 none ∈ WT := WT_in (k := 992) (by decide +kernel) (by decide +kernel)
theorem wm_Rf_adopt : Cond.instanceMethod y_Rf_adopt ∈ WT := WT_in (k := 991) (by decide +kernel) (by decide +kernel)
theorem ws_Rf_adopt : Cond.selects R_Rf y_Rf_adopt y_Rf_adopt ∈ WT := WT_se (k := 23) (by decide +kernel) (by decide +kernel)
theorem wc_Rf_adoptVariableBit : Cond.code y_Rf_adoptVariableBit b_Rf_adoptVariableBit 4 (some .boolean) ∈ WT := WT_in (k := 998) (by decide +kernel) (by decide +kernel)
theorem wm_Rf_adoptVariableBit : Cond.instanceMethod y_Rf_adoptVariableBit ∈ WT := WT_in (k := 997) (by decide +kernel) (by decide +kernel)
theorem ws_Rf_adoptVariableBit : Cond.selects R_Rf y_Rf_adoptVariableBit y_Rf_adoptVariableBit ∈ WT := WT_se (k := 24) (by decide +kernel) (by decide +kernel)
theorem wc_PP_holds : Cond.code y_PP_holds b_PP_holds 3 (some .boolean) ∈ WT := WT_in (k := 1006) (by decide +kernel) (by decide +kernel)
theorem wm_PP_holds : Cond.instanceMethod y_PP_holds ∈ WT := WT_in (k := 1004) (by decide +kernel) (by decide +kernel)
theorem ws_PP_holds : Cond.selects R_PP y_PP_holds y_PP_holds ∈ WT := WT_in (k := 1005) (by decide +kernel) (by decide +kernel)
theorem wc_Sp_contains : Cond.code y_Sp_contains b_Sp_contains 2 (some .boolean) ∈ WT := WT_in (k := 1010) (by decide +kernel) (by decide +kernel)
theorem wm_Sp_contains : Cond.instanceMethod y_Sp_contains ∈ WT := WT_in (k := 1008) (by decide +kernel) (by decide +kernel)
theorem ws_Sp_contains : Cond.selects R_Sp y_Sp_contains y_Sp_contains ∈ WT := WT_in (k := 1009) (by decide +kernel) (by decide +kernel)
theorem wc_PP_signature : Cond.code y_PP_signature b_PP_signature 2 (some .short) ∈ WT := WT_in (k := 1030) (by decide +kernel) (by decide +kernel)
theorem wm_PP_signature : Cond.instanceMethod y_PP_signature ∈ WT := WT_in (k := 1028) (by decide +kernel) (by decide +kernel)
theorem ws_PP_signature : Cond.selects R_PP y_PP_signature y_PP_signature ∈ WT := WT_in (k := 1029) (by decide +kernel) (by decide +kernel)
theorem wc_PP_follow : Cond.code y_PP_follow b_PP_follow 4 (some .int) ∈ WT := WT_in (k := 1038) (by decide +kernel) (by decide +kernel)
theorem wm_PP_follow : Cond.instanceMethod y_PP_follow ∈ WT := WT_in (k := 1036) (by decide +kernel) (by decide +kernel)
theorem ws_PP_follow : Cond.selects R_PP y_PP_follow y_PP_follow ∈ WT := WT_in (k := 1037) (by decide +kernel) (by decide +kernel)
theorem wc_PP_node : Cond.code y_PP_node b_PP_node 3 (some .int) ∈ WT := WT_in (k := 1047) (by decide +kernel) (by decide +kernel)
theorem wm_PP_node : Cond.instanceMethod y_PP_node ∈ WT := WT_in (k := 1045) (by decide +kernel) (by decide +kernel)
theorem ws_PP_node : Cond.selects R_PP y_PP_node y_PP_node ∈ WT := WT_in (k := 1046) (by decide +kernel) (by decide +kernel)
theorem wc_PP_path : Cond.code y_PP_path b_PP_path 2 (some .int) ∈ WT := WT_in (k := 1056) (by decide +kernel) (by decide +kernel)
theorem wm_PP_path : Cond.instanceMethod y_PP_path ∈ WT := WT_in (k := 1054) (by decide +kernel) (by decide +kernel)
theorem ws_PP_path : Cond.selects R_PP y_PP_path y_PP_path ∈ WT := WT_in (k := 1055) (by decide +kernel) (by decide +kernel)
theorem wc_PP_input : Cond.code y_PP_input b_PP_input 2 (some .int) ∈ WT := WT_in (k := 1064) (by decide +kernel) (by decide +kernel)
theorem wm_PP_input : Cond.instanceMethod y_PP_input ∈ WT := WT_in (k := 1062) (by decide +kernel) (by decide +kernel)
theorem ws_PP_input : Cond.selects R_PP y_PP_input y_PP_input ∈ WT := WT_in (k := 1063) (by decide +kernel) (by decide +kernel)
theorem wc_Mo_init : Cond.code y_Mo_init b_Mo_init 2 none ∈ WT := WT_in (k := 1070) (by decide +kernel) (by decide +kernel)
theorem wm_Mo_init : Cond.instanceMethod y_Mo_init ∈ WT := WT_in (k := 1069) (by decide +kernel) (by decide +kernel)
theorem wc_Mo_thrown : Cond.code y_Mo_thrown b_Mo_thrown 1 (some .int) ∈ WT := WT_in (k := 1170) (by decide +kernel) (by decide +kernel)
theorem wm_Mo_thrown : Cond.instanceMethod y_Mo_thrown ∈ WT := WT_in (k := 1168) (by decide +kernel) (by decide +kernel)
theorem ws_Mo_thrown : Cond.selects R_Mo y_Mo_thrown y_Mo_thrown ∈ WT := WT_in (k := 1169) (by decide +kernel) (by decide +kernel)
theorem wc_Mo_type : Cond.code y_Mo_type b_Mo_type 2 (some .int) ∈ WT := WT_in (k := 1174) (by decide +kernel) (by decide +kernel)
theorem wm_Mo_type : Cond.instanceMethod y_Mo_type ∈ WT := WT_in (k := 1172) (by decide +kernel) (by decide +kernel)
theorem ws_Mo_type : Cond.selects R_Mo y_Mo_type y_Mo_type ∈ WT := WT_in (k := 1173) (by decide +kernel) (by decide +kernel)
theorem wc_Mo_wipe : Cond.code y_Mo_wipe b_Mo_wipe 1 none ∈ WT := WT_in (k := 1178) (by decide +kernel) (by decide +kernel)
theorem wm_Mo_wipe : Cond.instanceMethod y_Mo_wipe ∈ WT := WT_in (k := 1176) (by decide +kernel) (by decide +kernel)
theorem ws_Mo_wipe : Cond.selects R_Mo y_Mo_wipe y_Mo_wipe ∈ WT := WT_in (k := 1177) (by decide +kernel) (by decide +kernel)
theorem wc_Mo_edge : Cond.code y_Mo_edge b_Mo_edge 9 (some .int) ∈ WT := WT_in (k := 1182) (by decide +kernel) (by decide +kernel)
theorem wm_Mo_edge : Cond.instanceMethod y_Mo_edge ∈ WT := WT_in (k := 1180) (by decide +kernel) (by decide +kernel)
theorem ws_Mo_edge : Cond.selects R_Mo y_Mo_edge y_Mo_edge ∈ WT := WT_in (k := 1181) (by decide +kernel) (by decide +kernel)
theorem wc_Mo_at : Cond.code y_Mo_at b_Mo_at 2 (some .int) ∈ WT := WT_in (k := 1186) (by decide +kernel) (by decide +kernel)
theorem wm_Mo_at : Cond.instanceMethod y_Mo_at ∈ WT := WT_in (k := 1185) (by decide +kernel) (by decide +kernel)
theorem ws_Mo_at : Cond.selects R_Mo y_Mo_at y_Mo_at ∈ WT := WT_se (k := 25) (by decide +kernel) (by decide +kernel)
theorem wc_Mo_isLocation : Cond.code y_Mo_isLocation b_Mo_isLocation 1 (some .boolean) ∈ WT := WT_in (k := 1189) (by decide +kernel) (by decide +kernel)
theorem wt_Mo_isLocation : Cond.static y_Mo_isLocation ∈ WT := WT_in (k := 1188) (by decide +kernel) (by decide +kernel)
theorem wc_Mo_fail : Cond.code y_Mo_fail b_Mo_fail 2 (some .int) ∈ WT := WT_in (k := 1193) (by decide +kernel) (by decide +kernel)
theorem wm_Mo_fail : Cond.instanceMethod y_Mo_fail ∈ WT := WT_in (k := 1192) (by decide +kernel) (by decide +kernel)
theorem ws_Mo_fail : Cond.selects R_Mo y_Mo_fail y_Mo_fail ∈ WT := WT_se (k := 26) (by decide +kernel) (by decide +kernel)
theorem wc_Mo_isVariable : Cond.code y_Mo_isVariable b_Mo_isVariable 1 (some .boolean) ∈ WT := WT_in (k := 1196) (by decide +kernel) (by decide +kernel)
theorem wt_Mo_isVariable : Cond.static y_Mo_isVariable ∈ WT := WT_in (k := 1195) (by decide +kernel) (by decide +kernel)
theorem wc_Mo_relationAt : Cond.code y_Mo_relationAt b_Mo_relationAt 3 (some .int) ∈ WT := WT_in (k := 1200) (by decide +kernel) (by decide +kernel)
theorem wm_Mo_relationAt : Cond.instanceMethod y_Mo_relationAt ∈ WT := WT_in (k := 1199) (by decide +kernel) (by decide +kernel)
theorem ws_Mo_relationAt : Cond.selects R_Mo y_Mo_relationAt y_Mo_relationAt ∈ WT := WT_se (k := 27) (by decide +kernel) (by decide +kernel)
theorem wc_Mo_termEnd : Cond.code y_Mo_termEnd b_Mo_termEnd 7 (some .int) ∈ WT := WT_in (k := 1204) (by decide +kernel) (by decide +kernel)
theorem wm_Mo_termEnd : Cond.instanceMethod y_Mo_termEnd ∈ WT := WT_in (k := 1203) (by decide +kernel) (by decide +kernel)
theorem ws_Mo_termEnd : Cond.selects R_Mo y_Mo_termEnd y_Mo_termEnd ∈ WT := WT_se (k := 28) (by decide +kernel) (by decide +kernel)
theorem wc_Mo_isSign : Cond.code y_Mo_isSign b_Mo_isSign 1 (some .boolean) ∈ WT := WT_in (k := 1207) (by decide +kernel) (by decide +kernel)
theorem wt_Mo_isSign : Cond.static y_Mo_isSign ∈ WT := WT_in (k := 1206) (by decide +kernel) (by decide +kernel)
theorem wc_Mo_isRelation : Cond.code y_Mo_isRelation b_Mo_isRelation 1 (some .boolean) ∈ WT := WT_in (k := 1210) (by decide +kernel) (by decide +kernel)
theorem wt_Mo_isRelation : Cond.static y_Mo_isRelation ∈ WT := WT_in (k := 1209) (by decide +kernel) (by decide +kernel)
theorem wc_Mo_worked : Cond.code y_Mo_worked b_Mo_worked 8 (some .int) ∈ WT := WT_in (k := 1214) (by decide +kernel) (by decide +kernel)
theorem wm_Mo_worked : Cond.instanceMethod y_Mo_worked ∈ WT := WT_in (k := 1213) (by decide +kernel) (by decide +kernel)
theorem ws_Mo_worked : Cond.selects R_Mo y_Mo_worked y_Mo_worked ∈ WT := WT_se (k := 29) (by decide +kernel) (by decide +kernel)
theorem wc_Mo_join : Cond.code y_Mo_join b_Mo_join 5 none ∈ WT := WT_in (k := 1218) (by decide +kernel) (by decide +kernel)
theorem wm_Mo_join : Cond.instanceMethod y_Mo_join ∈ WT := WT_in (k := 1217) (by decide +kernel) (by decide +kernel)
theorem ws_Mo_join : Cond.selects R_Mo y_Mo_join y_Mo_join ∈ WT := WT_se (k := 30) (by decide +kernel) (by decide +kernel)
theorem wc_Mo_part : Cond.code y_Mo_part b_Mo_part 3 (some .int) ∈ WT := WT_in (k := 1222) (by decide +kernel) (by decide +kernel)
theorem wm_Mo_part : Cond.instanceMethod y_Mo_part ∈ WT := WT_in (k := 1221) (by decide +kernel) (by decide +kernel)
theorem ws_Mo_part : Cond.selects R_Mo y_Mo_part y_Mo_part ∈ WT := WT_se (k := 31) (by decide +kernel) (by decide +kernel)
theorem wc_Mo_valueOf : Cond.code y_Mo_valueOf b_Mo_valueOf 3 (some .int) ∈ WT := WT_in (k := 1226) (by decide +kernel) (by decide +kernel)
theorem wm_Mo_valueOf : Cond.instanceMethod y_Mo_valueOf ∈ WT := WT_in (k := 1225) (by decide +kernel) (by decide +kernel)
theorem ws_Mo_valueOf : Cond.selects R_Mo y_Mo_valueOf y_Mo_valueOf ∈ WT := WT_se (k := 32) (by decide +kernel) (by decide +kernel)
theorem wc_Mo_atom : Cond.code y_Mo_atom b_Mo_atom 6 (some .boolean) ∈ WT := WT_in (k := 1230) (by decide +kernel) (by decide +kernel)
theorem wm_Mo_atom : Cond.instanceMethod y_Mo_atom ∈ WT := WT_in (k := 1229) (by decide +kernel) (by decide +kernel)
theorem ws_Mo_atom : Cond.selects R_Mo y_Mo_atom y_Mo_atom ∈ WT := WT_se (k := 33) (by decide +kernel) (by decide +kernel)
theorem wc_Mo_forget : Cond.code y_Mo_forget b_Mo_forget 1 none ∈ WT := WT_in (k := 1234) (by decide +kernel) (by decide +kernel)
theorem wm_Mo_forget : Cond.instanceMethod y_Mo_forget ∈ WT := WT_in (k := 1233) (by decide +kernel) (by decide +kernel)
theorem ws_Mo_forget : Cond.selects R_Mo y_Mo_forget y_Mo_forget ∈ WT := WT_se (k := 34) (by decide +kernel) (by decide +kernel)
theorem wc_Mo_predicate : Cond.code y_Mo_predicate b_Mo_predicate 3 (some .int) ∈ WT := WT_in (k := 1238) (by decide +kernel) (by decide +kernel)
theorem wm_Mo_predicate : Cond.instanceMethod y_Mo_predicate ∈ WT := WT_in (k := 1236) (by decide +kernel) (by decide +kernel)
theorem ws_Mo_predicate : Cond.selects R_Mo y_Mo_predicate y_Mo_predicate ∈ WT := WT_in (k := 1237) (by decide +kernel) (by decide +kernel)
theorem wc_Mo_addWork : Cond.code y_Mo_addWork b_Mo_addWork 2 none ∈ WT := WT_in (k := 1242) (by decide +kernel) (by decide +kernel)
theorem wm_Mo_addWork : Cond.instanceMethod y_Mo_addWork ∈ WT := WT_in (k := 1241) (by decide +kernel) (by decide +kernel)
theorem ws_Mo_addWork : Cond.selects R_Mo y_Mo_addWork y_Mo_addWork ∈ WT := WT_se (k := 35) (by decide +kernel) (by decide +kernel)
theorem wc_Mo_clear : Cond.code y_Mo_clear b_Mo_clear 2 none ∈ WT := WT_in (k := 1246) (by decide +kernel) (by decide +kernel)
theorem wm_Mo_clear : Cond.instanceMethod y_Mo_clear ∈ WT := WT_in (k := 1244) (by decide +kernel) (by decide +kernel)
theorem ws_Mo_clear : Cond.selects R_Mo y_Mo_clear y_Mo_clear ∈ WT := WT_in (k := 1245) (by decide +kernel) (by decide +kernel)
theorem wc_Mo_prove : Cond.code y_Mo_prove b_Mo_prove 5 (some .int) ∈ WT := WT_in (k := 1250) (by decide +kernel) (by decide +kernel)
theorem wm_Mo_prove : Cond.instanceMethod y_Mo_prove ∈ WT := WT_in (k := 1248) (by decide +kernel) (by decide +kernel)
theorem ws_Mo_prove : Cond.selects R_Mo y_Mo_prove y_Mo_prove ∈ WT := WT_in (k := 1249) (by decide +kernel) (by decide +kernel)
theorem wc_Mo_search : Cond.code y_Mo_search b_Mo_search 4 none ∈ WT := WT_in (k := 1254) (by decide +kernel) (by decide +kernel)
theorem wm_Mo_search : Cond.instanceMethod y_Mo_search ∈ WT := WT_in (k := 1253) (by decide +kernel) (by decide +kernel)
theorem ws_Mo_search : Cond.selects R_Mo y_Mo_search y_Mo_search ∈ WT := WT_se (k := 36) (by decide +kernel) (by decide +kernel)
theorem wc_Mo_spread : Cond.code y_Mo_spread b_Mo_spread 4 (some .boolean) ∈ WT := WT_in (k := 1258) (by decide +kernel) (by decide +kernel)
theorem wm_Mo_spread : Cond.instanceMethod y_Mo_spread ∈ WT := WT_in (k := 1257) (by decide +kernel) (by decide +kernel)
theorem ws_Mo_spread : Cond.selects R_Mo y_Mo_spread y_Mo_spread ∈ WT := WT_se (k := 37) (by decide +kernel) (by decide +kernel)
theorem wc_Mo_mark : Cond.code y_Mo_mark b_Mo_mark 4 none ∈ WT := WT_in (k := 1262) (by decide +kernel) (by decide +kernel)
theorem wm_Mo_mark : Cond.instanceMethod y_Mo_mark ∈ WT := WT_in (k := 1261) (by decide +kernel) (by decide +kernel)
theorem ws_Mo_mark : Cond.selects R_Mo y_Mo_mark y_Mo_mark ∈ WT := WT_se (k := 38) (by decide +kernel) (by decide +kernel)
theorem wc_Mo_led : Cond.code y_Mo_led b_Mo_led 3 (some .int) ∈ WT := WT_in (k := 1266) (by decide +kernel) (by decide +kernel)
theorem wm_Mo_led : Cond.instanceMethod y_Mo_led ∈ WT := WT_in (k := 1265) (by decide +kernel) (by decide +kernel)
theorem ws_Mo_led : Cond.selects R_Mo y_Mo_led y_Mo_led ∈ WT := WT_se (k := 39) (by decide +kernel) (by decide +kernel)
theorem wc_Mo_bit : Cond.code y_Mo_bit b_Mo_bit 3 (some .int) ∈ WT := WT_in (k := 1269) (by decide +kernel) (by decide +kernel)
theorem wt_Mo_bit : Cond.static y_Mo_bit ∈ WT := WT_in (k := 1268) (by decide +kernel) (by decide +kernel)
theorem wc_Mo_with : Cond.code y_Mo_with b_Mo_with 4 (some .int) ∈ WT := WT_in (k := 1273) (by decide +kernel) (by decide +kernel)
theorem wm_Mo_with : Cond.instanceMethod y_Mo_with ∈ WT := WT_in (k := 1272) (by decide +kernel) (by decide +kernel)
theorem ws_Mo_with : Cond.selects R_Mo y_Mo_with y_Mo_with ∈ WT := WT_se (k := 40) (by decide +kernel) (by decide +kernel)
theorem wc_Mo_isOn : Cond.code y_Mo_isOn b_Mo_isOn 3 (some .boolean) ∈ WT := WT_in (k := 1277) (by decide +kernel) (by decide +kernel)
theorem wm_Mo_isOn : Cond.instanceMethod y_Mo_isOn ∈ WT := WT_in (k := 1276) (by decide +kernel) (by decide +kernel)
theorem ws_Mo_isOn : Cond.selects R_Mo y_Mo_isOn y_Mo_isOn ∈ WT := WT_se (k := 41) (by decide +kernel) (by decide +kernel)
theorem wc_Mo_known : Cond.code y_Mo_known b_Mo_known 4 (some .boolean) ∈ WT := WT_in (k := 1281) (by decide +kernel) (by decide +kernel)
theorem wm_Mo_known : Cond.instanceMethod y_Mo_known ∈ WT := WT_in (k := 1280) (by decide +kernel) (by decide +kernel)
theorem ws_Mo_known : Cond.selects R_Mo y_Mo_known y_Mo_known ∈ WT := WT_se (k := 42) (by decide +kernel) (by decide +kernel)
theorem wc_Mo_isTrue : Cond.code y_Mo_isTrue b_Mo_isTrue 5 (some .boolean) ∈ WT := WT_in (k := 1285) (by decide +kernel) (by decide +kernel)
theorem wm_Mo_isTrue : Cond.instanceMethod y_Mo_isTrue ∈ WT := WT_in (k := 1284) (by decide +kernel) (by decide +kernel)
theorem ws_Mo_isTrue : Cond.selects R_Mo y_Mo_isTrue y_Mo_isTrue ∈ WT := WT_se (k := 43) (by decide +kernel) (by decide +kernel)
theorem wc_Mo_store : Cond.code y_Mo_store b_Mo_store 3 none ∈ WT := WT_in (k := 1289) (by decide +kernel) (by decide +kernel)
theorem wm_Mo_store : Cond.instanceMethod y_Mo_store ∈ WT := WT_in (k := 1288) (by decide +kernel) (by decide +kernel)
theorem ws_Mo_store : Cond.selects R_Mo y_Mo_store y_Mo_store ∈ WT := WT_se (k := 44) (by decide +kernel) (by decide +kernel)
theorem wc_Mo_before : Cond.code y_Mo_before b_Mo_before 3 none ∈ WT := WT_in (k := 1293) (by decide +kernel) (by decide +kernel)
theorem wm_Mo_before : Cond.instanceMethod y_Mo_before ∈ WT := WT_in (k := 1292) (by decide +kernel) (by decide +kernel)
theorem ws_Mo_before : Cond.selects R_Mo y_Mo_before y_Mo_before ∈ WT := WT_se (k := 45) (by decide +kernel) (by decide +kernel)
theorem wc_Mo_leadsIn : Cond.code y_Mo_leadsIn b_Mo_leadsIn 5 (some .boolean) ∈ WT := WT_in (k := 1297) (by decide +kernel) (by decide +kernel)
theorem wm_Mo_leadsIn : Cond.instanceMethod y_Mo_leadsIn ∈ WT := WT_in (k := 1296) (by decide +kernel) (by decide +kernel)
theorem ws_Mo_leadsIn : Cond.selects R_Mo y_Mo_leadsIn y_Mo_leadsIn ∈ WT := WT_se (k := 46) (by decide +kernel) (by decide +kernel)
theorem wc_Mo_isIn : Cond.code y_Mo_isIn b_Mo_isIn 3 (some .boolean) ∈ WT := WT_in (k := 1301) (by decide +kernel) (by decide +kernel)
theorem wm_Mo_isIn : Cond.instanceMethod y_Mo_isIn ∈ WT := WT_in (k := 1300) (by decide +kernel) (by decide +kernel)
theorem ws_Mo_isIn : Cond.selects R_Mo y_Mo_isIn y_Mo_isIn ∈ WT := WT_se (k := 47) (by decide +kernel) (by decide +kernel)
theorem wc_Mo_refine : Cond.code y_Mo_refine b_Mo_refine 5 (some .int) ∈ WT := WT_in (k := 1305) (by decide +kernel) (by decide +kernel)
theorem wm_Mo_refine : Cond.instanceMethod y_Mo_refine ∈ WT := WT_in (k := 1304) (by decide +kernel) (by decide +kernel)
theorem ws_Mo_refine : Cond.selects R_Mo y_Mo_refine y_Mo_refine ∈ WT := WT_se (k := 48) (by decide +kernel) (by decide +kernel)
theorem wc_Mo_along : Cond.code y_Mo_along b_Mo_along 4 none ∈ WT := WT_in (k := 1309) (by decide +kernel) (by decide +kernel)
theorem wm_Mo_along : Cond.instanceMethod y_Mo_along ∈ WT := WT_in (k := 1308) (by decide +kernel) (by decide +kernel)
theorem ws_Mo_along : Cond.selects R_Mo y_Mo_along y_Mo_along ∈ WT := WT_se (k := 49) (by decide +kernel) (by decide +kernel)
theorem wc_Mo_fetch : Cond.code y_Mo_fetch b_Mo_fetch 3 none ∈ WT := WT_in (k := 1313) (by decide +kernel) (by decide +kernel)
theorem wm_Mo_fetch : Cond.instanceMethod y_Mo_fetch ∈ WT := WT_in (k := 1312) (by decide +kernel) (by decide +kernel)
theorem ws_Mo_fetch : Cond.selects R_Mo y_Mo_fetch y_Mo_fetch ∈ WT := WT_se (k := 50) (by decide +kernel) (by decide +kernel)
theorem wc_Mo_hangsOn : Cond.code y_Mo_hangsOn b_Mo_hangsOn 4 (some .boolean) ∈ WT := WT_in (k := 1317) (by decide +kernel) (by decide +kernel)
theorem wm_Mo_hangsOn : Cond.instanceMethod y_Mo_hangsOn ∈ WT := WT_in (k := 1316) (by decide +kernel) (by decide +kernel)
theorem ws_Mo_hangsOn : Cond.selects R_Mo y_Mo_hangsOn y_Mo_hangsOn ∈ WT := WT_se (k := 51) (by decide +kernel) (by decide +kernel)
theorem wc_Mo_offer : Cond.code y_Mo_offer b_Mo_offer 1 (some .int) ∈ WT := WT_in (k := 1321) (by decide +kernel) (by decide +kernel)
theorem wm_Mo_offer : Cond.instanceMethod y_Mo_offer ∈ WT := WT_in (k := 1320) (by decide +kernel) (by decide +kernel)
theorem ws_Mo_offer : Cond.selects R_Mo y_Mo_offer y_Mo_offer ∈ WT := WT_se (k := 52) (by decide +kernel) (by decide +kernel)
theorem wc_Mo_splits : Cond.code y_Mo_splits b_Mo_splits 3 (some .boolean) ∈ WT := WT_in (k := 1325) (by decide +kernel) (by decide +kernel)
theorem wm_Mo_splits : Cond.instanceMethod y_Mo_splits ∈ WT := WT_in (k := 1324) (by decide +kernel) (by decide +kernel)
theorem ws_Mo_splits : Cond.selects R_Mo y_Mo_splits y_Mo_splits ∈ WT := WT_se (k := 53) (by decide +kernel) (by decide +kernel)
theorem wc_Mo_outcome : Cond.code y_Mo_outcome b_Mo_outcome 1 (some .int) ∈ WT := WT_in (k := 1329) (by decide +kernel) (by decide +kernel)
theorem wm_Mo_outcome : Cond.instanceMethod y_Mo_outcome ∈ WT := WT_in (k := 1327) (by decide +kernel) (by decide +kernel)
theorem ws_Mo_outcome : Cond.selects R_Mo y_Mo_outcome y_Mo_outcome ∈ WT := WT_in (k := 1328) (by decide +kernel) (by decide +kernel)
theorem wc_Mo_edges : Cond.code y_Mo_edges b_Mo_edges 1 (some .int) ∈ WT := WT_in (k := 1333) (by decide +kernel) (by decide +kernel)
theorem wm_Mo_edges : Cond.instanceMethod y_Mo_edges ∈ WT := WT_in (k := 1331) (by decide +kernel) (by decide +kernel)
theorem ws_Mo_edges : Cond.selects R_Mo y_Mo_edges y_Mo_edges ∈ WT := WT_in (k := 1332) (by decide +kernel) (by decide +kernel)
theorem wc_Mo_predicates : Cond.code y_Mo_predicates b_Mo_predicates 1 (some .int) ∈ WT := WT_in (k := 1337) (by decide +kernel) (by decide +kernel)
theorem wm_Mo_predicates : Cond.instanceMethod y_Mo_predicates ∈ WT := WT_in (k := 1335) (by decide +kernel) (by decide +kernel)
theorem ws_Mo_predicates : Cond.selects R_Mo y_Mo_predicates y_Mo_predicates ∈ WT := WT_in (k := 1336) (by decide +kernel) (by decide +kernel)
theorem wc_Mo_holds : Cond.code y_Mo_holds b_Mo_holds 3 (some .boolean) ∈ WT := WT_in (k := 1341) (by decide +kernel) (by decide +kernel)
theorem wm_Mo_holds : Cond.instanceMethod y_Mo_holds ∈ WT := WT_in (k := 1339) (by decide +kernel) (by decide +kernel)
theorem ws_Mo_holds : Cond.selects R_Mo y_Mo_holds y_Mo_holds ∈ WT := WT_in (k := 1340) (by decide +kernel) (by decide +kernel)
theorem wc_Mo_isState : Cond.code y_Mo_isState b_Mo_isState 2 (some .boolean) ∈ WT := WT_in (k := 1345) (by decide +kernel) (by decide +kernel)
theorem wm_Mo_isState : Cond.instanceMethod y_Mo_isState ∈ WT := WT_in (k := 1344) (by decide +kernel) (by decide +kernel)
theorem ws_Mo_isState : Cond.selects R_Mo y_Mo_isState y_Mo_isState ∈ WT := WT_se (k := 54) (by decide +kernel) (by decide +kernel)
theorem wc_Mo_signature : Cond.code y_Mo_signature b_Mo_signature 2 (some .short) ∈ WT := WT_in (k := 1349) (by decide +kernel) (by decide +kernel)
theorem wm_Mo_signature : Cond.instanceMethod y_Mo_signature ∈ WT := WT_in (k := 1347) (by decide +kernel) (by decide +kernel)
theorem ws_Mo_signature : Cond.selects R_Mo y_Mo_signature y_Mo_signature ∈ WT := WT_in (k := 1348) (by decide +kernel) (by decide +kernel)
theorem wc_Mo_follow : Cond.code y_Mo_follow b_Mo_follow 4 (some .int) ∈ WT := WT_in (k := 1353) (by decide +kernel) (by decide +kernel)
theorem wm_Mo_follow : Cond.instanceMethod y_Mo_follow ∈ WT := WT_in (k := 1351) (by decide +kernel) (by decide +kernel)
theorem ws_Mo_follow : Cond.selects R_Mo y_Mo_follow y_Mo_follow ∈ WT := WT_in (k := 1352) (by decide +kernel) (by decide +kernel)
theorem wc_Mo_nodes : Cond.code y_Mo_nodes b_Mo_nodes 1 (some .int) ∈ WT := WT_in (k := 1357) (by decide +kernel) (by decide +kernel)
theorem wm_Mo_nodes : Cond.instanceMethod y_Mo_nodes ∈ WT := WT_in (k := 1355) (by decide +kernel) (by decide +kernel)
theorem ws_Mo_nodes : Cond.selects R_Mo y_Mo_nodes y_Mo_nodes ∈ WT := WT_in (k := 1356) (by decide +kernel) (by decide +kernel)
theorem wc_Mo_node : Cond.code y_Mo_node b_Mo_node 3 (some .int) ∈ WT := WT_in (k := 1361) (by decide +kernel) (by decide +kernel)
theorem wm_Mo_node : Cond.instanceMethod y_Mo_node ∈ WT := WT_in (k := 1359) (by decide +kernel) (by decide +kernel)
theorem ws_Mo_node : Cond.selects R_Mo y_Mo_node y_Mo_node ∈ WT := WT_in (k := 1360) (by decide +kernel) (by decide +kernel)
theorem wc_Mo_length : Cond.code y_Mo_length b_Mo_length 1 (some .int) ∈ WT := WT_in (k := 1365) (by decide +kernel) (by decide +kernel)
theorem wm_Mo_length : Cond.instanceMethod y_Mo_length ∈ WT := WT_in (k := 1363) (by decide +kernel) (by decide +kernel)
theorem ws_Mo_length : Cond.selects R_Mo y_Mo_length y_Mo_length ∈ WT := WT_in (k := 1364) (by decide +kernel) (by decide +kernel)
theorem wc_Mo_path : Cond.code y_Mo_path b_Mo_path 2 (some .int) ∈ WT := WT_in (k := 1369) (by decide +kernel) (by decide +kernel)
theorem wm_Mo_path : Cond.instanceMethod y_Mo_path ∈ WT := WT_in (k := 1367) (by decide +kernel) (by decide +kernel)
theorem ws_Mo_path : Cond.selects R_Mo y_Mo_path y_Mo_path ∈ WT := WT_in (k := 1368) (by decide +kernel) (by decide +kernel)
theorem wc_Mo_input : Cond.code y_Mo_input b_Mo_input 2 (some .int) ∈ WT := WT_in (k := 1373) (by decide +kernel) (by decide +kernel)
theorem wm_Mo_input : Cond.instanceMethod y_Mo_input ∈ WT := WT_in (k := 1371) (by decide +kernel) (by decide +kernel)
theorem ws_Mo_input : Cond.selects R_Mo y_Mo_input y_Mo_input ∈ WT := WT_in (k := 1372) (by decide +kernel) (by decide +kernel)
theorem lk_PP_1 : Cond.methodLink R_PP 1 ⟨"java/lang/Object", "<init>", "()V"⟩ ∈ WT := WT_in (k := 35) (by decide +kernel) (by decide +kernel)
theorem lk_PP_7 : Cond.classLink R_PP 7 "PredicateProver$Space" ∈ WT := WT_in (k := 38) (by decide +kernel) (by decide +kernel)
theorem lk_PP_9 : Cond.methodLink R_PP 9 y_Sp_init ∈ WT := WT_in (k := 40) (by decide +kernel) (by decide +kernel)
theorem lk_PP_12 : Cond.classLink R_PP 12 "PredicateProver$Line" ∈ WT := WT_in (k := 63) (by decide +kernel) (by decide +kernel)
theorem lk_PP_15 : Cond.classLink R_PP 15 "PredicateProver$Formula" ∈ WT := WT_in (k := 77) (by decide +kernel) (by decide +kernel)
theorem lk_PP_17 : Cond.methodLink R_PP 17 y_Fo_init ∈ WT := WT_in (k := 79) (by decide +kernel) (by decide +kernel)
theorem lk_PP_20 : Cond.classLink R_PP 20 "PredicateProver$Program" ∈ WT := WT_in (k := 97) (by decide +kernel) (by decide +kernel)
theorem lk_PP_22 : Cond.methodLink R_PP 22 y_Pr_init ∈ WT := WT_in (k := 99) (by decide +kernel) (by decide +kernel)
theorem lk_PP_23 : Cond.classLink R_PP 23 "PredicateProver$Groups" ∈ WT := WT_in (k := 134) (by decide +kernel) (by decide +kernel)
theorem lk_PP_25 : Cond.methodLink R_PP 25 y_Gr_init ∈ WT := WT_in (k := 136) (by decide +kernel) (by decide +kernel)
theorem lk_PP_26 : Cond.classLink R_PP 26 "PredicateProver$Search" ∈ WT := WT_in (k := 519) (by decide +kernel) (by decide +kernel)
theorem lk_PP_28 : Cond.methodLink R_PP 28 y_Se_init ∈ WT := WT_in (k := 521) (by decide +kernel) (by decide +kernel)
theorem lk_PP_31 : Cond.fieldLink R_PP 31 "PredicateProver" "space" "LPredicateProver$Space;" ∈ WT := WT_in (k := 658) (by decide +kernel) (by decide +kernel)
theorem lk_PP_37 : Cond.fieldLink R_PP 37 "PredicateProver" "line" "LPredicateProver$Line;" ∈ WT := WT_in (k := 659) (by decide +kernel) (by decide +kernel)
theorem lk_PP_41 : Cond.fieldLink R_PP 41 "PredicateProver" "formula" "LPredicateProver$Formula;" ∈ WT := WT_in (k := 660) (by decide +kernel) (by decide +kernel)
theorem lk_PP_45 : Cond.classLink R_PP 45 "PredicateProver$Parser" ∈ WT := WT_in (k := 583) (by decide +kernel) (by decide +kernel)
theorem lk_PP_47 : Cond.methodLink R_PP 47 y_Pa_init ∈ WT := WT_in (k := 585) (by decide +kernel) (by decide +kernel)
theorem lk_PP_50 : Cond.fieldLink R_PP 50 "PredicateProver" "parser" "LPredicateProver$Parser;" ∈ WT := WT_in (k := 661) (by decide +kernel) (by decide +kernel)
theorem lk_PP_54 : Cond.fieldLink R_PP 54 "PredicateProver" "program" "LPredicateProver$Program;" ∈ WT := WT_in (k := 662) (by decide +kernel) (by decide +kernel)
theorem lk_PP_58 : Cond.fieldLink R_PP 58 "PredicateProver" "groups" "LPredicateProver$Groups;" ∈ WT := WT_in (k := 663) (by decide +kernel) (by decide +kernel)
theorem lk_PP_62 : Cond.fieldLink R_PP 62 "PredicateProver" "search" "LPredicateProver$Search;" ∈ WT := WT_in (k := 664) (by decide +kernel) (by decide +kernel)
theorem lk_PP_66 : Cond.classLink R_PP 66 "PredicateProver$Replay" ∈ WT := WT_in (k := 599) (by decide +kernel) (by decide +kernel)
theorem lk_PP_68 : Cond.methodLink R_PP 68 y_Re_init ∈ WT := WT_in (k := 601) (by decide +kernel) (by decide +kernel)
theorem lk_PP_71 : Cond.fieldLink R_PP 71 "PredicateProver" "replay" "LPredicateProver$Replay;" ∈ WT := WT_in (k := 665) (by decide +kernel) (by decide +kernel)
theorem lk_PP_75 : Cond.classLink R_PP 75 "PredicateProver$Refiner" ∈ WT := WT_in (k := 629) (by decide +kernel) (by decide +kernel)
theorem lk_PP_77 : Cond.methodLink R_PP 77 y_Rf_init ∈ WT := WT_in (k := 631) (by decide +kernel) (by decide +kernel)
theorem lk_PP_80 : Cond.fieldLink R_PP 80 "PredicateProver" "refiner" "LPredicateProver$Refiner;" ∈ WT := WT_in (k := 666) (by decide +kernel) (by decide +kernel)
theorem lk_PP_84 : Cond.fieldLink R_PP 84 "PredicateProver" "lastOutcome" "I" ∈ WT := WT_in (k := 667) (by decide +kernel) (by decide +kernel)
theorem lk_Sp_3 : Cond.methodLink R_Sp 3 ⟨"java/lang/Object", "<init>", "()V"⟩ ∈ WT := WT_in (k := 43) (by decide +kernel) (by decide +kernel)
theorem lk_Sp_9 : Cond.fieldLink R_Sp 9 "PredicateProver$Space" "width" "I" ∈ WT := WT_in (k := 44) (by decide +kernel) (by decide +kernel)
theorem lk_Sp_15 : Cond.fieldLink R_Sp 15 "PredicateProver$Space" "mask" "I" ∈ WT := WT_in (k := 46) (by decide +kernel) (by decide +kernel)
theorem lk_Sp_18 : Cond.fieldLink R_Sp 18 "PredicateProver$Space" "states" "I" ∈ WT := WT_in (k := 52) (by decide +kernel) (by decide +kernel)
theorem lk_Li_3 : Cond.methodLink R_Li 3 ⟨"java/lang/Object", "<init>", "()V"⟩ ∈ WT := WT_in (k := 68) (by decide +kernel) (by decide +kernel)
theorem lk_Li_9 : Cond.fieldLink R_Li 9 "PredicateProver$Line" "characters" "[C" ∈ WT := WT_in (k := 69) (by decide +kernel) (by decide +kernel)
theorem lk_Li_15 : Cond.fieldLink R_Li 15 "PredicateProver$Line" "size" "I" ∈ WT := WT_in (k := 70) (by decide +kernel) (by decide +kernel)
theorem lk_Fo_3 : Cond.methodLink R_Fo 3 ⟨"java/lang/Object", "<init>", "()V"⟩ ∈ WT := WT_in (k := 82) (by decide +kernel) (by decide +kernel)
theorem lk_Fo_9 : Cond.fieldLink R_Fo 9 "PredicateProver$Formula" "code" "[C" ∈ WT := WT_in (k := 84) (by decide +kernel) (by decide +kernel)
theorem lk_Fo_15 : Cond.fieldLink R_Fo 15 "PredicateProver$Formula" "stack" "[I" ∈ WT := WT_in (k := 85) (by decide +kernel) (by decide +kernel)
theorem lk_Fo_19 : Cond.fieldLink R_Fo 19 "PredicateProver$Formula" "size" "I" ∈ WT := WT_in (k := 86) (by decide +kernel) (by decide +kernel)
theorem lk_Fo_23 : Cond.fieldLink R_Fo 23 "PredicateProver$Formula" "space" "LPredicateProver$Space;" ∈ WT := WT_in (k := 83) (by decide +kernel) (by decide +kernel)
theorem lk_Pr_3 : Cond.methodLink R_Pr 3 ⟨"java/lang/Object", "<init>", "()V"⟩ ∈ WT := WT_in (k := 102) (by decide +kernel) (by decide +kernel)
theorem lk_Pr_9 : Cond.fieldLink R_Pr 9 "PredicateProver$Program" "from" "[I" ∈ WT := WT_in (k := 106) (by decide +kernel) (by decide +kernel)
theorem lk_Pr_15 : Cond.fieldLink R_Pr 15 "PredicateProver$Program" "to" "[I" ∈ WT := WT_in (k := 108) (by decide +kernel) (by decide +kernel)
theorem lk_Pr_18 : Cond.fieldLink R_Pr 18 "PredicateProver$Program" "kind" "[I" ∈ WT := WT_in (k := 110) (by decide +kernel) (by decide +kernel)
theorem lk_Pr_21 : Cond.fieldLink R_Pr 21 "PredicateProver$Program" "variable" "[I" ∈ WT := WT_in (k := 113) (by decide +kernel) (by decide +kernel)
theorem lk_Pr_24 : Cond.fieldLink R_Pr 24 "PredicateProver$Program" "count" "I" ∈ WT := WT_in (k := 116) (by decide +kernel) (by decide +kernel)
theorem lk_Pr_28 : Cond.fieldLink R_Pr 28 "PredicateProver$Program" "space" "LPredicateProver$Space;" ∈ WT := WT_in (k := 105) (by decide +kernel) (by decide +kernel)
theorem lk_Pr_32 : Cond.fieldLink R_Pr 32 "PredicateProver$Space" "states" "I" ∈ WT := WT_in (k := 53) (by decide +kernel) (by decide +kernel)
theorem lk_Pr_37 : Cond.classLink R_Pr 37 "[[I" ∈ WT := WT_in (k := 103) (by decide +kernel) (by decide +kernel)
theorem lk_Pr_39 : Cond.fieldLink R_Pr 39 "PredicateProver$Program" "target" "[[I" ∈ WT := WT_in (k := 114) (by decide +kernel) (by decide +kernel)
theorem lk_Gr_3 : Cond.methodLink R_Gr 3 ⟨"java/lang/Object", "<init>", "()V"⟩ ∈ WT := WT_in (k := 139) (by decide +kernel) (by decide +kernel)
theorem lk_Gr_9 : Cond.fieldLink R_Gr 9 "PredicateProver$Groups" "count" "I" ∈ WT := WT_in (k := 488) (by decide +kernel) (by decide +kernel)
theorem lk_Gr_15 : Cond.fieldLink R_Gr 15 "PredicateProver$Groups" "groupCount" "I" ∈ WT := WT_in (k := 493) (by decide +kernel) (by decide +kernel)
theorem lk_Gr_18 : Cond.fieldLink R_Gr 18 "PredicateProver$Groups" "groupOfSignature" "[I" ∈ WT := WT_in (k := 501) (by decide +kernel) (by decide +kernel)
theorem lk_Gr_22 : Cond.fieldLink R_Gr 22 "PredicateProver$Groups" "space" "LPredicateProver$Space;" ∈ WT := WT_in (k := 487) (by decide +kernel) (by decide +kernel)
theorem lk_Gr_26 : Cond.fieldLink R_Gr 26 "PredicateProver$Space" "states" "I" ∈ WT := WT_in (k := 49) (by decide +kernel) (by decide +kernel)
theorem lk_Gr_31 : Cond.fieldLink R_Gr 31 "PredicateProver$Groups" "signature" "[I" ∈ WT := WT_in (k := 491) (by decide +kernel) (by decide +kernel)
theorem lk_Gr_34 : Cond.fieldLink R_Gr 34 "PredicateProver$Groups" "groupOf" "[I" ∈ WT := WT_in (k := 495) (by decide +kernel) (by decide +kernel)
theorem lk_Gr_37 : Cond.fieldLink R_Gr 37 "PredicateProver$Groups" "member" "[I" ∈ WT := WT_in (k := 497) (by decide +kernel) (by decide +kernel)
theorem lk_Gr_40 : Cond.fieldLink R_Gr 40 "PredicateProver$Groups" "start" "[I" ∈ WT := WT_in (k := 499) (by decide +kernel) (by decide +kernel)
theorem lk_Gr_43 : Cond.methodLink R_Gr 43 y_Gr_numberGroups ∈ WT := WT_in (k := 140) (by decide +kernel) (by decide +kernel)
theorem lk_Gr_46 : Cond.methodLink R_Gr 46 y_Gr_placeStates ∈ WT := WT_in (k := 480) (by decide +kernel) (by decide +kernel)
theorem lk_Gr_55 : Cond.methodLink R_Gr 55 y_Ar_fill_aIIII ∈ WT := WT_in (k := 144) (by decide +kernel) (by decide +kernel)
theorem lk_Ar_13 : Cond.methodLink R_Ar 13 y_Ar_rangeCheck ∈ WT := WT_in (k := 147) (by decide +kernel) (by decide +kernel)
theorem lk_Ar_43 : Cond.classLink R_Ar 43 "java/lang/IllegalArgumentException" ∈ WT := WT_in (k := 150) (by decide +kernel) (by decide +kernel)
theorem lk_Ar_45 : Cond.classLink R_Ar 45 "java/lang/StringBuilder" ∈ WT := WT_in (k := 192) (by decide +kernel) (by decide +kernel)
theorem lk_Ar_47 : Cond.methodLink R_Ar 47 ⟨"java/lang/StringBuilder", "<init>", "()V"⟩ ∈ WT := WT_in (k := 194) (by decide +kernel) (by decide +kernel)
theorem lk_Ar_50 : Cond.methodLink R_Ar 50 ⟨"java/lang/StringBuilder", "append", "(Ljava/lang/String;)Ljava/lang/StringBuilder;"⟩ ∈ WT := WT_in (k := 225) (by decide +kernel) (by decide +kernel)
theorem lk_Ar_54 : Cond.methodLink R_Ar 54 ⟨"java/lang/StringBuilder", "append", "(I)Ljava/lang/StringBuilder;"⟩ ∈ WT := WT_in (k := 345) (by decide +kernel) (by decide +kernel)
theorem lk_Ar_61 : Cond.methodLink R_Ar 61 ⟨"java/lang/StringBuilder", "toString", "()Ljava/lang/String;"⟩ ∈ WT := WT_in (k := 372) (by decide +kernel) (by decide +kernel)
theorem lk_Ar_65 : Cond.methodLink R_Ar 65 ⟨"java/lang/IllegalArgumentException", "<init>", "(Ljava/lang/String;)V"⟩ ∈ WT := WT_in (k := 409) (by decide +kernel) (by decide +kernel)
theorem lk_Ar_68 : Cond.classLink R_Ar 68 "java/lang/ArrayIndexOutOfBoundsException" ∈ WT := WT_in (k := 458) (by decide +kernel) (by decide +kernel)
theorem lk_Ar_70 : Cond.methodLink R_Ar 70 ⟨"java/lang/ArrayIndexOutOfBoundsException", "<init>", "(I)V"⟩ ∈ WT := WT_in (k := 460) (by decide +kernel) (by decide +kernel)
theorem lk_Gr_49 : Cond.methodLink R_Gr 49 y_Ar_fill_aII ∈ WT := WT_in (k := 484) (by decide +kernel) (by decide +kernel)
theorem lk_Se_3 : Cond.methodLink R_Se 3 ⟨"java/lang/Object", "<init>", "()V"⟩ ∈ WT := WT_in (k := 524) (by decide +kernel) (by decide +kernel)
theorem lk_Se_9 : Cond.fieldLink R_Se 9 "PredicateProver$Search" "count" "I" ∈ WT := WT_in (k := 528) (by decide +kernel) (by decide +kernel)
theorem lk_Se_15 : Cond.fieldLink R_Se 15 "PredicateProver$Search" "location" "[I" ∈ WT := WT_in (k := 530) (by decide +kernel) (by decide +kernel)
theorem lk_Se_19 : Cond.fieldLink R_Se 19 "PredicateProver$Search" "signature" "[I" ∈ WT := WT_in (k := 532) (by decide +kernel) (by decide +kernel)
theorem lk_Se_22 : Cond.fieldLink R_Se 22 "PredicateProver$Search" "parent" "[I" ∈ WT := WT_in (k := 534) (by decide +kernel) (by decide +kernel)
theorem lk_Se_25 : Cond.fieldLink R_Se 25 "PredicateProver$Search" "byEdge" "[I" ∈ WT := WT_in (k := 536) (by decide +kernel) (by decide +kernel)
theorem lk_Se_28 : Cond.fieldLink R_Se 28 "PredicateProver$Search" "group" "[I" ∈ WT := WT_in (k := 538) (by decide +kernel) (by decide +kernel)
theorem lk_Se_31 : Cond.fieldLink R_Se 31 "PredicateProver$Search" "depth" "[I" ∈ WT := WT_in (k := 539) (by decide +kernel) (by decide +kernel)
theorem lk_Se_34 : Cond.fieldLink R_Se 34 "PredicateProver$Search" "outOfRoom" "Z" ∈ WT := WT_in (k := 542) (by decide +kernel) (by decide +kernel)
theorem lk_Se_38 : Cond.fieldLink R_Se 38 "PredicateProver$Search" "pathLength" "I" ∈ WT := WT_in (k := 544) (by decide +kernel) (by decide +kernel)
theorem lk_Se_41 : Cond.fieldLink R_Se 41 "PredicateProver$Search" "pathEdge" "[I" ∈ WT := WT_in (k := 548) (by decide +kernel) (by decide +kernel)
theorem lk_Se_44 : Cond.fieldLink R_Se 44 "PredicateProver$Search" "space" "LPredicateProver$Space;" ∈ WT := WT_in (k := 525) (by decide +kernel) (by decide +kernel)
theorem lk_Se_48 : Cond.fieldLink R_Se 48 "PredicateProver$Search" "program" "LPredicateProver$Program;" ∈ WT := WT_in (k := 526) (by decide +kernel) (by decide +kernel)
theorem lk_Se_52 : Cond.fieldLink R_Se 52 "PredicateProver$Search" "groups" "LPredicateProver$Groups;" ∈ WT := WT_in (k := 527) (by decide +kernel) (by decide +kernel)
theorem lk_Se_56 : Cond.fieldLink R_Se 56 "PredicateProver$Space" "states" "I" ∈ WT := WT_in (k := 54) (by decide +kernel) (by decide +kernel)
theorem lk_Se_61 : Cond.fieldLink R_Se 61 "PredicateProver$Search" "known" "[B" ∈ WT := WT_in (k := 540) (by decide +kernel) (by decide +kernel)
theorem lk_Se_65 : Cond.fieldLink R_Se 65 "PredicateProver$Search" "reached" "[B" ∈ WT := WT_in (k := 541) (by decide +kernel) (by decide +kernel)
theorem lk_Pa_3 : Cond.methodLink R_Pa 3 ⟨"java/lang/Object", "<init>", "()V"⟩ ∈ WT := WT_in (k := 588) (by decide +kernel) (by decide +kernel)
theorem lk_Pa_9 : Cond.fieldLink R_Pa 9 "PredicateProver$Parser" "place" "I" ∈ WT := WT_in (k := 591) (by decide +kernel) (by decide +kernel)
theorem lk_Pa_15 : Cond.fieldLink R_Pa 15 "PredicateProver$Parser" "line" "LPredicateProver$Line;" ∈ WT := WT_in (k := 589) (by decide +kernel) (by decide +kernel)
theorem lk_Pa_19 : Cond.fieldLink R_Pa 19 "PredicateProver$Parser" "formula" "LPredicateProver$Formula;" ∈ WT := WT_in (k := 590) (by decide +kernel) (by decide +kernel)
theorem lk_Re_3 : Cond.methodLink R_Re 3 ⟨"java/lang/Object", "<init>", "()V"⟩ ∈ WT := WT_in (k := 604) (by decide +kernel) (by decide +kernel)
theorem lk_Re_9 : Cond.fieldLink R_Re 9 "PredicateProver$Replay" "inputs" "[I" ∈ WT := WT_in (k := 611) (by decide +kernel) (by decide +kernel)
theorem lk_Re_15 : Cond.fieldLink R_Re 15 "PredicateProver$Replay" "inputCount" "I" ∈ WT := WT_in (k := 613) (by decide +kernel) (by decide +kernel)
theorem lk_Re_19 : Cond.fieldLink R_Re 19 "PredicateProver$Replay" "space" "LPredicateProver$Space;" ∈ WT := WT_in (k := 607) (by decide +kernel) (by decide +kernel)
theorem lk_Re_23 : Cond.fieldLink R_Re 23 "PredicateProver$Replay" "program" "LPredicateProver$Program;" ∈ WT := WT_in (k := 608) (by decide +kernel) (by decide +kernel)
theorem lk_Re_27 : Cond.fieldLink R_Re 27 "PredicateProver$Replay" "search" "LPredicateProver$Search;" ∈ WT := WT_in (k := 609) (by decide +kernel) (by decide +kernel)
theorem lk_Re_31 : Cond.fieldLink R_Re 31 "PredicateProver$Space" "states" "I" ∈ WT := WT_in (k := 51) (by decide +kernel) (by decide +kernel)
theorem lk_Re_36 : Cond.classLink R_Re 36 "[[J" ∈ WT := WT_in (k := 605) (by decide +kernel) (by decide +kernel)
theorem lk_Re_38 : Cond.fieldLink R_Re 38 "PredicateProver$Replay" "open" "[[J" ∈ WT := WT_in (k := 610) (by decide +kernel) (by decide +kernel)
theorem lk_Rf_3 : Cond.methodLink R_Rf 3 ⟨"java/lang/Object", "<init>", "()V"⟩ ∈ WT := WT_in (k := 634) (by decide +kernel) (by decide +kernel)
theorem lk_Rf_9 : Cond.fieldLink R_Rf 9 "PredicateProver$Refiner" "takenCount" "I" ∈ WT := WT_in (k := 642) (by decide +kernel) (by decide +kernel)
theorem lk_Rf_15 : Cond.fieldLink R_Rf 15 "PredicateProver$Refiner" "space" "LPredicateProver$Space;" ∈ WT := WT_in (k := 636) (by decide +kernel) (by decide +kernel)
theorem lk_Rf_19 : Cond.fieldLink R_Rf 19 "PredicateProver$Refiner" "program" "LPredicateProver$Program;" ∈ WT := WT_in (k := 637) (by decide +kernel) (by decide +kernel)
theorem lk_Rf_23 : Cond.fieldLink R_Rf 23 "PredicateProver$Refiner" "groups" "LPredicateProver$Groups;" ∈ WT := WT_in (k := 638) (by decide +kernel) (by decide +kernel)
theorem lk_Rf_27 : Cond.fieldLink R_Rf 27 "PredicateProver$Refiner" "search" "LPredicateProver$Search;" ∈ WT := WT_in (k := 639) (by decide +kernel) (by decide +kernel)
theorem lk_Rf_31 : Cond.fieldLink R_Rf 31 "PredicateProver$Space" "states" "I" ∈ WT := WT_in (k := 50) (by decide +kernel) (by decide +kernel)
theorem lk_Rf_36 : Cond.classLink R_Rf 36 "[[J" ∈ WT := WT_in (k := 635) (by decide +kernel) (by decide +kernel)
theorem lk_Rf_38 : Cond.fieldLink R_Rf 38 "PredicateProver$Refiner" "taken" "[[J" ∈ WT := WT_in (k := 640) (by decide +kernel) (by decide +kernel)
theorem lk_Rf_41 : Cond.fieldLink R_Rf 41 "PredicateProver$Refiner" "spare" "[J" ∈ WT := WT_in (k := 641) (by decide +kernel) (by decide +kernel)
theorem lk_PP_88 : Cond.methodLink R_PP 88 y_Li_append ∈ WT := WT_in (k := 693) (by decide +kernel) (by decide +kernel)
theorem lk_PP_92 : Cond.methodLink R_PP 92 y_Li_makeEmpty ∈ WT := WT_in (k := 701) (by decide +kernel) (by decide +kernel)
theorem lk_PP_147 : Cond.fieldLink R_PP 147 "PredicateProver$Program" "count" "I" ∈ WT := WT_in (k := 118) (by decide +kernel) (by decide +kernel)
theorem lk_PP_148 : Cond.methodLink R_PP 148 y_Gr_dropPredicates ∈ WT := WT_in (k := 709) (by decide +kernel) (by decide +kernel)
theorem lk_PP_119 : Cond.methodLink R_PP 119 y_PP_forgetSearch ∈ WT := WT_in (k := 713) (by decide +kernel) (by decide +kernel)
theorem lk_PP_207 : Cond.methodLink R_PP 207 y_Se_forget ∈ WT := WT_in (k := 717) (by decide +kernel) (by decide +kernel)
theorem lk_PP_210 : Cond.methodLink R_PP 210 y_Re_forget ∈ WT := WT_in (k := 721) (by decide +kernel) (by decide +kernel)
theorem lk_PP_131 : Cond.fieldLink R_PP 131 "PredicateProver$Groups" "count" "I" ∈ WT := WT_in (k := 490) (by decide +kernel) (by decide +kernel)
theorem lk_PP_176 : Cond.fieldLink R_PP 176 "PredicateProver$Search" "count" "I" ∈ WT := WT_in (k := 529) (by decide +kernel) (by decide +kernel)
theorem lk_PP_191 : Cond.fieldLink R_PP 191 "PredicateProver$Search" "pathLength" "I" ∈ WT := WT_in (k := 547) (by decide +kernel) (by decide +kernel)
theorem lk_Lw_7 : Cond.methodLink R_Lw 7 y_PP_edge ∈ WT := WT_in (k := 753) (by decide +kernel) (by decide +kernel)
theorem lk_PP_95 : Cond.methodLink R_PP 95 y_Pa_readEdge ∈ WT := WT_in (k := 757) (by decide +kernel) (by decide +kernel)
theorem lk_PP_99 : Cond.classLink R_PP 99 "java/lang/IllegalArgumentException" ∈ WT := WT_in (k := 804) (by decide +kernel) (by decide +kernel)
theorem lk_PP_103 : Cond.methodLink R_PP 103 ⟨"java/lang/IllegalArgumentException", "<init>", "(Ljava/lang/String;)V"⟩ ∈ WT := WT_in (k := 806) (by decide +kernel) (by decide +kernel)
theorem lk_PP_106 : Cond.methodLink R_PP 106 y_Pr_isFull ∈ WT := WT_in (k := 807) (by decide +kernel) (by decide +kernel)
theorem lk_PP_110 : Cond.classLink R_PP 110 "java/lang/IllegalStateException" ∈ WT := WT_in (k := 811) (by decide +kernel) (by decide +kernel)
theorem lk_PP_114 : Cond.methodLink R_PP 114 ⟨"java/lang/IllegalStateException", "<init>", "(Ljava/lang/String;)V"⟩ ∈ WT := WT_in (k := 821) (by decide +kernel) (by decide +kernel)
theorem lk_PP_115 : Cond.methodLink R_PP 115 y_Pr_add ∈ WT := WT_in (k := 827) (by decide +kernel) (by decide +kernel)
theorem lk_Pa_23 : Cond.methodLink R_Pa 23 y_Li_at ∈ WT := WT_in (k := 761) (by decide +kernel) (by decide +kernel)
theorem lk_Pa_29 : Cond.methodLink R_Pa 29 y_Pa_isLocation ∈ WT := WT_in (k := 765) (by decide +kernel) (by decide +kernel)
theorem lk_Pa_33 : Cond.methodLink R_Pa 33 y_Fo_isVariable ∈ WT := WT_in (k := 768) (by decide +kernel) (by decide +kernel)
theorem lk_Pa_38 : Cond.methodLink R_Pa 38 y_Pa_readTerm ∈ WT := WT_in (k := 771) (by decide +kernel) (by decide +kernel)
theorem lk_Pa_42 : Cond.methodLink R_Pa 42 y_Pa_readAtom ∈ WT := WT_in (k := 797) (by decide +kernel) (by decide +kernel)
theorem lk_Pa_45 : Cond.methodLink R_Pa 45 y_Fo_begin ∈ WT := WT_in (k := 775) (by decide +kernel) (by decide +kernel)
theorem lk_Pa_48 : Cond.methodLink R_Pa 48 y_Pa_passTerm ∈ WT := WT_in (k := 779) (by decide +kernel) (by decide +kernel)
theorem lk_Pa_58 : Cond.methodLink R_Pa 58 y_Pa_passPart ∈ WT := WT_in (k := 783) (by decide +kernel) (by decide +kernel)
theorem lk_Pa_61 : Cond.methodLink R_Pa 61 y_Pa_isOperator ∈ WT := WT_in (k := 794) (by decide +kernel) (by decide +kernel)
theorem lk_Pa_54 : Cond.methodLink R_Pa 54 y_Fo_add ∈ WT := WT_in (k := 790) (by decide +kernel) (by decide +kernel)
theorem lk_Pa_64 : Cond.methodLink R_Pa 64 y_Fo_isDigit ∈ WT := WT_in (k := 787) (by decide +kernel) (by decide +kernel)
theorem lk_Pa_51 : Cond.methodLink R_Pa 51 y_Pa_isComparison ∈ WT := WT_in (k := 801) (by decide +kernel) (by decide +kernel)
theorem lk_Pr_42 : Cond.methodLink R_Pr 42 y_Li_at ∈ WT := WT_in (k := 831) (by decide +kernel) (by decide +kernel)
theorem lk_Pr_48 : Cond.methodLink R_Pr 48 y_Pr_targetOf ∈ WT := WT_in (k := 832) (by decide +kernel) (by decide +kernel)
theorem lk_Pr_52 : Cond.methodLink R_Pr 52 y_Sp_write ∈ WT := WT_in (k := 836) (by decide +kernel) (by decide +kernel)
theorem lk_Pr_56 : Cond.methodLink R_Pr 56 y_Fo_valueIn ∈ WT := WT_in (k := 840) (by decide +kernel) (by decide +kernel)
theorem lk_Fo_27 : Cond.methodLink R_Fo 27 y_Fo_isVariable ∈ WT := WT_in (k := 844) (by decide +kernel) (by decide +kernel)
theorem lk_Fo_31 : Cond.methodLink R_Fo 31 y_Sp_read ∈ WT := WT_in (k := 845) (by decide +kernel) (by decide +kernel)
theorem lk_Fo_37 : Cond.methodLink R_Fo 37 y_Fo_isDigit ∈ WT := WT_in (k := 849) (by decide +kernel) (by decide +kernel)
theorem lk_Fo_40 : Cond.fieldLink R_Fo 40 "PredicateProver$Space" "mask" "I" ∈ WT := WT_in (k := 48) (by decide +kernel) (by decide +kernel)
theorem lk_Fo_43 : Cond.methodLink R_Fo 43 y_Fo_combine ∈ WT := WT_in (k := 850) (by decide +kernel) (by decide +kernel)
theorem lk_Lw_17 : Cond.methodLink R_Lw 17 y_PP_predicate ∈ WT := WT_in (k := 856) (by decide +kernel) (by decide +kernel)
theorem lk_PP_122 : Cond.methodLink R_PP 122 y_Pa_readAtom ∈ WT := WT_in (k := 860) (by decide +kernel) (by decide +kernel)
theorem lk_PP_128 : Cond.methodLink R_PP 128 y_Gr_isFull ∈ WT := WT_in (k := 862) (by decide +kernel) (by decide +kernel)
theorem lk_PP_134 : Cond.fieldLink R_PP 134 "PredicateProver$Space" "states" "I" ∈ WT := WT_in (k := 55) (by decide +kernel) (by decide +kernel)
theorem lk_PP_137 : Cond.methodLink R_PP 137 y_Fo_valueIn ∈ WT := WT_in (k := 867) (by decide +kernel) (by decide +kernel)
theorem lk_PP_141 : Cond.methodLink R_PP 141 y_Gr_include ∈ WT := WT_in (k := 868) (by decide +kernel) (by decide +kernel)
theorem lk_PP_144 : Cond.methodLink R_PP 144 y_Gr_endPredicate ∈ WT := WT_in (k := 872) (by decide +kernel) (by decide +kernel)
theorem lk_Lw_20 : Cond.methodLink R_Lw 20 y_PP_prove ∈ WT := WT_in (k := 879) (by decide +kernel) (by decide +kernel)
theorem lk_PP_153 : Cond.methodLink R_PP 153 y_PP_makeRound ∈ WT := WT_in (k := 884) (by decide +kernel) (by decide +kernel)
theorem lk_PP_211 : Cond.methodLink R_PP 211 y_Se_run ∈ WT := WT_in (k := 888) (by decide +kernel) (by decide +kernel)
theorem lk_PP_214 : Cond.fieldLink R_PP 214 "PredicateProver$Search" "outOfRoom" "Z" ∈ WT := WT_in (k := 543) (by decide +kernel) (by decide +kernel)
theorem lk_PP_218 : Cond.methodLink R_PP 218 y_Re_succeeds ∈ WT := WT_in (k := 927) (by decide +kernel) (by decide +kernel)
theorem lk_PP_221 : Cond.methodLink R_PP 221 y_Rf_refine ∈ WT := WT_in (k := 953) (by decide +kernel) (by decide +kernel)
theorem lk_Se_68 : Cond.methodLink R_Se 68 y_Se_forget ∈ WT := WT_in (k := 892) (by decide +kernel) (by decide +kernel)
theorem lk_Se_71 : Cond.methodLink R_Se 71 y_Ar_fill_aBB ∈ WT := WT_in (k := 893) (by decide +kernel) (by decide +kernel)
theorem lk_Se_77 : Cond.fieldLink R_Se 77 "PredicateProver$Groups" "groupOf" "[I" ∈ WT := WT_in (k := 496) (by decide +kernel) (by decide +kernel)
theorem lk_Se_82 : Cond.methodLink R_Se 82 y_Se_addNode ∈ WT := WT_in (k := 896) (by decide +kernel) (by decide +kernel)
theorem lk_Se_86 : Cond.fieldLink R_Se 86 "PredicateProver$Program" "count" "I" ∈ WT := WT_in (k := 117) (by decide +kernel) (by decide +kernel)
theorem lk_Se_89 : Cond.fieldLink R_Se 89 "PredicateProver$Program" "from" "[I" ∈ WT := WT_in (k := 107) (by decide +kernel) (by decide +kernel)
theorem lk_Se_92 : Cond.methodLink R_Se 92 y_Se_take ∈ WT := WT_in (k := 904) (by decide +kernel) (by decide +kernel)
theorem lk_Se_127 : Cond.methodLink R_Se 127 y_Gr_signatureOf ∈ WT := WT_in (k := 900) (by decide +kernel) (by decide +kernel)
theorem lk_Se_96 : Cond.methodLink R_Se 96 y_Se_markReached ∈ WT := WT_in (k := 908) (by decide +kernel) (by decide +kernel)
theorem lk_Se_100 : Cond.fieldLink R_Se 100 "PredicateProver$Program" "to" "[I" ∈ WT := WT_in (k := 109) (by decide +kernel) (by decide +kernel)
theorem lk_Se_103 : Cond.fieldLink R_Se 103 "PredicateProver$Groups" "groupCount" "I" ∈ WT := WT_in (k := 494) (by decide +kernel) (by decide +kernel)
theorem lk_Se_106 : Cond.methodLink R_Se 106 y_Se_tracePath ∈ WT := WT_in (k := 923) (by decide +kernel) (by decide +kernel)
theorem lk_Se_110 : Cond.methodLink R_Se 110 y_Ar_fill_aBIIB ∈ WT := WT_in (k := 912) (by decide +kernel) (by decide +kernel)
theorem lk_Se_113 : Cond.methodLink R_Se 113 y_Pr_choices ∈ WT := WT_in (k := 915) (by decide +kernel) (by decide +kernel)
theorem lk_Se_117 : Cond.fieldLink R_Se 117 "PredicateProver$Groups" "start" "[I" ∈ WT := WT_in (k := 500) (by decide +kernel) (by decide +kernel)
theorem lk_Se_120 : Cond.fieldLink R_Se 120 "PredicateProver$Groups" "member" "[I" ∈ WT := WT_in (k := 498) (by decide +kernel) (by decide +kernel)
theorem lk_Se_123 : Cond.methodLink R_Se 123 y_Pr_step ∈ WT := WT_in (k := 919) (by decide +kernel) (by decide +kernel)
theorem lk_Pr_62 : Cond.fieldLink R_Pr 62 "PredicateProver$Space" "mask" "I" ∈ WT := WT_in (k := 47) (by decide +kernel) (by decide +kernel)
theorem lk_Re_41 : Cond.fieldLink R_Re 41 "PredicateProver$Search" "pathLength" "I" ∈ WT := WT_in (k := 546) (by decide +kernel) (by decide +kernel)
theorem lk_Re_48 : Cond.methodLink R_Re 48 y_Ar_fill_aJJ ∈ WT := WT_in (k := 932) (by decide +kernel) (by decide +kernel)
theorem lk_Re_54 : Cond.methodLink R_Re 54 y_Re_openBefore ∈ WT := WT_in (k := 935) (by decide +kernel) (by decide +kernel)
theorem lk_Re_58 : Cond.methodLink R_Re 58 y_Re_isOpen ∈ WT := WT_in (k := 945) (by decide +kernel) (by decide +kernel)
theorem lk_Re_62 : Cond.methodLink R_Re 62 y_Re_collectInputs ∈ WT := WT_in (k := 949) (by decide +kernel) (by decide +kernel)
theorem lk_Re_65 : Cond.methodLink R_Re 65 y_Re_leastInput ∈ WT := WT_in (k := 939) (by decide +kernel) (by decide +kernel)
theorem lk_Re_69 : Cond.fieldLink R_Re 69 "PredicateProver$Search" "pathEdge" "[I" ∈ WT := WT_in (k := 550) (by decide +kernel) (by decide +kernel)
theorem lk_Re_72 : Cond.methodLink R_Re 72 y_Pr_choices ∈ WT := WT_in (k := 943) (by decide +kernel) (by decide +kernel)
theorem lk_Re_78 : Cond.methodLink R_Re 78 y_Pr_step ∈ WT := WT_in (k := 944) (by decide +kernel) (by decide +kernel)
theorem lk_Re_82 : Cond.fieldLink R_Re 82 "PredicateProver$Program" "kind" "[I" ∈ WT := WT_in (k := 112) (by decide +kernel) (by decide +kernel)
theorem lk_Rf_45 : Cond.fieldLink R_Rf 45 "PredicateProver$Groups" "count" "I" ∈ WT := WT_in (k := 489) (by decide +kernel) (by decide +kernel)
theorem lk_Rf_50 : Cond.fieldLink R_Rf 50 "PredicateProver$Search" "pathLength" "I" ∈ WT := WT_in (k := 545) (by decide +kernel) (by decide +kernel)
theorem lk_Rf_55 : Cond.fieldLink R_Rf 55 "PredicateProver$Search" "pathEdge" "[I" ∈ WT := WT_in (k := 549) (by decide +kernel) (by decide +kernel)
theorem lk_Rf_59 : Cond.methodLink R_Rf 59 y_Rf_passEdge ∈ WT := WT_in (k := 957) (by decide +kernel) (by decide +kernel)
theorem lk_Rf_63 : Cond.methodLink R_Rf 63 y_Rf_adoptTaken ∈ WT := WT_in (k := 980) (by decide +kernel) (by decide +kernel)
theorem lk_Rf_67 : Cond.methodLink R_Rf 67 y_Rf_adoptVariableBit ∈ WT := WT_in (k := 995) (by decide +kernel) (by decide +kernel)
theorem lk_Rf_70 : Cond.fieldLink R_Rf 70 "PredicateProver$Program" "kind" "[I" ∈ WT := WT_in (k := 111) (by decide +kernel) (by decide +kernel)
theorem lk_Rf_75 : Cond.fieldLink R_Rf 75 "PredicateProver$Program" "target" "[[I" ∈ WT := WT_in (k := 115) (by decide +kernel) (by decide +kernel)
theorem lk_Rf_79 : Cond.methodLink R_Rf 79 y_Rf_takeAlong ∈ WT := WT_in (k := 961) (by decide +kernel) (by decide +kernel)
theorem lk_Rf_83 : Cond.methodLink R_Rf 83 y_Rf_rowsInUse ∈ WT := WT_in (k := 966) (by decide +kernel) (by decide +kernel)
theorem lk_Rf_87 : Cond.methodLink R_Rf 87 y_Rf_pullBack ∈ WT := WT_in (k := 970) (by decide +kernel) (by decide +kernel)
theorem lk_Rf_91 : Cond.methodLink R_Rf 91 y_Rf_leaveBehind ∈ WT := WT_in (k := 975) (by decide +kernel) (by decide +kernel)
theorem lk_Rf_94 : Cond.methodLink R_Rf 94 y_Ar_fill_aJJ ∈ WT := WT_in (k := 965) (by decide +kernel) (by decide +kernel)
theorem lk_Rf_100 : Cond.methodLink R_Rf 100 ⟨"java/lang/System", "arraycopy", "(Ljava/lang/Object;ILjava/lang/Object;II)V"⟩ ∈ WT := WT_in (k := 974) (by decide +kernel) (by decide +kernel)
theorem lk_Rf_108 : Cond.methodLink R_Rf 108 y_Gr_splitting ∈ WT := WT_in (k := 984) (by decide +kernel) (by decide +kernel)
theorem lk_Rf_112 : Cond.methodLink R_Rf 112 y_Gr_isFull ∈ WT := WT_in (k := 988) (by decide +kernel) (by decide +kernel)
theorem lk_Rf_115 : Cond.methodLink R_Rf 115 y_Rf_adopt ∈ WT := WT_in (k := 989) (by decide +kernel) (by decide +kernel)
theorem lk_Rf_119 : Cond.methodLink R_Rf 119 y_Gr_include ∈ WT := WT_in (k := 993) (by decide +kernel) (by decide +kernel)
theorem lk_Rf_122 : Cond.methodLink R_Rf 122 y_Gr_endPredicate ∈ WT := WT_in (k := 994) (by decide +kernel) (by decide +kernel)
theorem lk_Rf_125 : Cond.fieldLink R_Rf 125 "PredicateProver$Space" "width" "I" ∈ WT := WT_in (k := 45) (by decide +kernel) (by decide +kernel)
theorem lk_Lw_24 : Cond.methodLink R_Lw 24 y_PP_holds ∈ WT := WT_in (k := 1003) (by decide +kernel) (by decide +kernel)
theorem lk_PP_156 : Cond.methodLink R_PP 156 y_Sp_contains ∈ WT := WT_in (k := 1007) (by decide +kernel) (by decide +kernel)
theorem lk_PP_159 : Cond.classLink R_PP 159 "java/lang/IndexOutOfBoundsException" ∈ WT := WT_in (k := 1011) (by decide +kernel) (by decide +kernel)
theorem lk_PP_163 : Cond.methodLink R_PP 163 ⟨"java/lang/IndexOutOfBoundsException", "<init>", "(Ljava/lang/String;)V"⟩ ∈ WT := WT_in (k := 1021) (by decide +kernel) (by decide +kernel)
theorem lk_PP_164 : Cond.fieldLink R_PP 164 "PredicateProver$Groups" "signature" "[I" ∈ WT := WT_in (k := 492) (by decide +kernel) (by decide +kernel)
theorem lk_Lw_30 : Cond.methodLink R_Lw 30 y_PP_signature ∈ WT := WT_in (k := 1027) (by decide +kernel) (by decide +kernel)
theorem lk_Lw_34 : Cond.methodLink R_Lw 34 y_PP_follow ∈ WT := WT_in (k := 1035) (by decide +kernel) (by decide +kernel)
theorem lk_PP_172 : Cond.methodLink R_PP 172 y_Pr_step ∈ WT := WT_in (k := 1040) (by decide +kernel) (by decide +kernel)
theorem lk_Lw_38 : Cond.methodLink R_Lw 38 y_PP_node ∈ WT := WT_in (k := 1044) (by decide +kernel) (by decide +kernel)
theorem lk_PP_179 : Cond.fieldLink R_PP 179 "PredicateProver$Search" "location" "[I" ∈ WT := WT_in (k := 531) (by decide +kernel) (by decide +kernel)
theorem lk_PP_182 : Cond.fieldLink R_PP 182 "PredicateProver$Search" "signature" "[I" ∈ WT := WT_in (k := 533) (by decide +kernel) (by decide +kernel)
theorem lk_PP_183 : Cond.fieldLink R_PP 183 "PredicateProver$Search" "parent" "[I" ∈ WT := WT_in (k := 535) (by decide +kernel) (by decide +kernel)
theorem lk_PP_186 : Cond.fieldLink R_PP 186 "PredicateProver$Search" "byEdge" "[I" ∈ WT := WT_in (k := 537) (by decide +kernel) (by decide +kernel)
theorem lk_Lw_42 : Cond.methodLink R_Lw 42 y_PP_path ∈ WT := WT_in (k := 1053) (by decide +kernel) (by decide +kernel)
theorem lk_PP_196 : Cond.fieldLink R_PP 196 "PredicateProver$Search" "pathEdge" "[I" ∈ WT := WT_in (k := 551) (by decide +kernel) (by decide +kernel)
theorem lk_Lw_45 : Cond.methodLink R_Lw 45 y_PP_input ∈ WT := WT_in (k := 1061) (by decide +kernel) (by decide +kernel)
theorem lk_PP_199 : Cond.fieldLink R_PP 199 "PredicateProver$Replay" "inputCount" "I" ∈ WT := WT_in (k := 614) (by decide +kernel) (by decide +kernel)
theorem lk_PP_204 : Cond.fieldLink R_PP 204 "PredicateProver$Replay" "inputs" "[I" ∈ WT := WT_in (k := 612) (by decide +kernel) (by decide +kernel)
theorem lk_Mo_1 : Cond.methodLink R_Mo 1 ⟨"java/lang/Object", "<init>", "()V"⟩ ∈ WT := WT_in (k := 1071) (by decide +kernel) (by decide +kernel)
theorem lk_Mo_7 : Cond.fieldLink R_Mo 7 "PredicateProverModel" "line" "[I" ∈ WT := WT_in (k := 1076) (by decide +kernel) (by decide +kernel)
theorem lk_Mo_13 : Cond.fieldLink R_Mo 13 "PredicateProverModel" "from" "[I" ∈ WT := WT_in (k := 1079) (by decide +kernel) (by decide +kernel)
theorem lk_Mo_16 : Cond.fieldLink R_Mo 16 "PredicateProverModel" "to" "[I" ∈ WT := WT_in (k := 1080) (by decide +kernel) (by decide +kernel)
theorem lk_Mo_19 : Cond.fieldLink R_Mo 19 "PredicateProverModel" "kind" "[I" ∈ WT := WT_in (k := 1081) (by decide +kernel) (by decide +kernel)
theorem lk_Mo_22 : Cond.fieldLink R_Mo 22 "PredicateProverModel" "variable" "[I" ∈ WT := WT_in (k := 1082) (by decide +kernel) (by decide +kernel)
theorem lk_Mo_25 : Cond.fieldLink R_Mo 25 "PredicateProverModel" "effect" "[J" ∈ WT := WT_in (k := 1083) (by decide +kernel) (by decide +kernel)
theorem lk_Mo_29 : Cond.fieldLink R_Mo 29 "PredicateProverModel" "member" "[J" ∈ WT := WT_in (k := 1085) (by decide +kernel) (by decide +kernel)
theorem lk_Mo_32 : Cond.fieldLink R_Mo 32 "PredicateProverModel" "signature" "[I" ∈ WT := WT_in (k := 1086) (by decide +kernel) (by decide +kernel)
theorem lk_Mo_35 : Cond.fieldLink R_Mo 35 "PredicateProverModel" "outcome" "I" ∈ WT := WT_in (k := 1087) (by decide +kernel) (by decide +kernel)
theorem lk_Mo_39 : Cond.fieldLink R_Mo 39 "PredicateProverModel" "place" "[I" ∈ WT := WT_in (k := 1089) (by decide +kernel) (by decide +kernel)
theorem lk_Mo_42 : Cond.fieldLink R_Mo 42 "PredicateProverModel" "sign" "[I" ∈ WT := WT_in (k := 1090) (by decide +kernel) (by decide +kernel)
theorem lk_Mo_45 : Cond.fieldLink R_Mo 45 "PredicateProverModel" "source" "[I" ∈ WT := WT_in (k := 1091) (by decide +kernel) (by decide +kernel)
theorem lk_Mo_48 : Cond.fieldLink R_Mo 48 "PredicateProverModel" "by" "[I" ∈ WT := WT_in (k := 1092) (by decide +kernel) (by decide +kernel)
theorem lk_Mo_51 : Cond.fieldLink R_Mo 51 "PredicateProverModel" "length" "I" ∈ WT := WT_in (k := 1093) (by decide +kernel) (by decide +kernel)
theorem lk_Mo_54 : Cond.fieldLink R_Mo 54 "PredicateProverModel" "path" "[I" ∈ WT := WT_in (k := 1094) (by decide +kernel) (by decide +kernel)
theorem lk_Mo_57 : Cond.fieldLink R_Mo 57 "PredicateProverModel" "input" "[I" ∈ WT := WT_in (k := 1096) (by decide +kernel) (by decide +kernel)
theorem lk_Mo_60 : Cond.fieldLink R_Mo 60 "PredicateProverModel" "seen" "[I" ∈ WT := WT_in (k := 1097) (by decide +kernel) (by decide +kernel)
theorem lk_Mo_63 : Cond.fieldLink R_Mo 63 "PredicateProverModel" "set" "[J" ∈ WT := WT_in (k := 1099) (by decide +kernel) (by decide +kernel)
theorem lk_Mo_66 : Cond.fieldLink R_Mo 66 "PredicateProverModel" "work" "[Z" ∈ WT := WT_in (k := 1100) (by decide +kernel) (by decide +kernel)
theorem lk_Mo_70 : Cond.fieldLink R_Mo 70 "PredicateProverModel" "value" "[I" ∈ WT := WT_in (k := 1101) (by decide +kernel) (by decide +kernel)
theorem lk_Mo_73 : Cond.fieldLink R_Mo 73 "PredicateProverModel" "open" "[I" ∈ WT := WT_in (k := 1102) (by decide +kernel) (by decide +kernel)
theorem lk_Mo_76 : Cond.fieldLink R_Mo 76 "PredicateProverModel" "width" "I" ∈ WT := WT_in (k := 1072) (by decide +kernel) (by decide +kernel)
theorem lk_Mo_79 : Cond.fieldLink R_Mo 79 "PredicateProverModel" "limit" "I" ∈ WT := WT_in (k := 1073) (by decide +kernel) (by decide +kernel)
theorem lk_Mo_82 : Cond.fieldLink R_Mo 82 "PredicateProverModel" "states" "I" ∈ WT := WT_in (k := 1074) (by decide +kernel) (by decide +kernel)
theorem lk_Mo_85 : Cond.fieldLink R_Mo 85 "PredicateProverModel" "code" "I" ∈ WT := WT_in (k := 1075) (by decide +kernel) (by decide +kernel)
theorem lk_Mo_88 : Cond.fieldLink R_Mo 88 "PredicateProverModel" "typed" "I" ∈ WT := WT_in (k := 1077) (by decide +kernel) (by decide +kernel)
theorem lk_Mo_91 : Cond.methodLink R_Mo 91 y_Mo_at ∈ WT := WT_in (k := 1183) (by decide +kernel) (by decide +kernel)
theorem lk_Mo_129 : Cond.methodLink R_Mo 129 y_Mo_isLocation ∈ WT := WT_in (k := 1187) (by decide +kernel) (by decide +kernel)
theorem lk_Mo_132 : Cond.methodLink R_Mo 132 y_Mo_fail ∈ WT := WT_in (k := 1190) (by decide +kernel) (by decide +kernel)
theorem lk_Mo_95 : Cond.methodLink R_Mo 95 y_Mo_isVariable ∈ WT := WT_in (k := 1194) (by decide +kernel) (by decide +kernel)
theorem lk_Mo_135 : Cond.methodLink R_Mo 135 y_Mo_relationAt ∈ WT := WT_in (k := 1197) (by decide +kernel) (by decide +kernel)
theorem lk_Mo_102 : Cond.methodLink R_Mo 102 y_Mo_termEnd ∈ WT := WT_in (k := 1201) (by decide +kernel) (by decide +kernel)
theorem lk_Mo_138 : Cond.fieldLink R_Mo 138 "PredicateProverModel" "edges" "I" ∈ WT := WT_in (k := 1078) (by decide +kernel) (by decide +kernel)
theorem lk_Mo_119 : Cond.methodLink R_Mo 119 y_Mo_worked ∈ WT := WT_in (k := 1211) (by decide +kernel) (by decide +kernel)
theorem lk_Mo_141 : Cond.methodLink R_Mo 141 y_Mo_atom ∈ WT := WT_in (k := 1227) (by decide +kernel) (by decide +kernel)
theorem lk_Mo_145 : Cond.methodLink R_Mo 145 y_Mo_forget ∈ WT := WT_in (k := 1231) (by decide +kernel) (by decide +kernel)
theorem lk_Mo_105 : Cond.methodLink R_Mo 105 y_Mo_isRelation ∈ WT := WT_in (k := 1208) (by decide +kernel) (by decide +kernel)
theorem lk_Mo_99 : Cond.methodLink R_Mo 99 y_Mo_isSign ∈ WT := WT_in (k := 1205) (by decide +kernel) (by decide +kernel)
theorem lk_Mo_112 : Cond.methodLink R_Mo 112 y_Mo_join ∈ WT := WT_in (k := 1215) (by decide +kernel) (by decide +kernel)
theorem lk_Mo_116 : Cond.methodLink R_Mo 116 y_Mo_part ∈ WT := WT_in (k := 1219) (by decide +kernel) (by decide +kernel)
theorem lk_Mo_108 : Cond.methodLink R_Mo 108 y_Mo_valueOf ∈ WT := WT_in (k := 1223) (by decide +kernel) (by decide +kernel)
theorem lk_Mo_123 : Cond.fieldLink R_Mo 123 "PredicateProverModel" "nodes" "I" ∈ WT := WT_in (k := 1088) (by decide +kernel) (by decide +kernel)
theorem lk_Mo_126 : Cond.fieldLink R_Mo 126 "PredicateProverModel" "inputs" "I" ∈ WT := WT_in (k := 1095) (by decide +kernel) (by decide +kernel)
theorem lk_Mo_155 : Cond.fieldLink R_Mo 155 "PredicateProverModel" "predicates" "I" ∈ WT := WT_in (k := 1084) (by decide +kernel) (by decide +kernel)
theorem lk_Mo_158 : Cond.methodLink R_Mo 158 y_Mo_addWork ∈ WT := WT_in (k := 1239) (by decide +kernel) (by decide +kernel)
theorem lk_Mo_210 : Cond.methodLink R_Mo 210 y_Mo_search ∈ WT := WT_in (k := 1251) (by decide +kernel) (by decide +kernel)
theorem lk_Mo_213 : Cond.methodLink R_Mo 213 y_Mo_isTrue ∈ WT := WT_in (k := 1282) (by decide +kernel) (by decide +kernel)
theorem lk_Mo_216 : Cond.methodLink R_Mo 216 y_Mo_refine ∈ WT := WT_in (k := 1302) (by decide +kernel) (by decide +kernel)
theorem lk_Mo_174 : Cond.methodLink R_Mo 174 y_Mo_spread ∈ WT := WT_in (k := 1255) (by decide +kernel) (by decide +kernel)
theorem lk_Mo_168 : Cond.methodLink R_Mo 168 y_Mo_mark ∈ WT := WT_in (k := 1259) (by decide +kernel) (by decide +kernel)
theorem lk_Mo_171 : Cond.methodLink R_Mo 171 y_Mo_known ∈ WT := WT_in (k := 1278) (by decide +kernel) (by decide +kernel)
theorem lk_Mo_161 : Cond.methodLink R_Mo 161 y_Mo_led ∈ WT := WT_in (k := 1263) (by decide +kernel) (by decide +kernel)
theorem lk_Mo_164 : Cond.methodLink R_Mo 164 y_Mo_isOn ∈ WT := WT_in (k := 1274) (by decide +kernel) (by decide +kernel)
theorem lk_Mo_152 : Cond.methodLink R_Mo 152 y_Mo_with ∈ WT := WT_in (k := 1270) (by decide +kernel) (by decide +kernel)
theorem lk_Mo_148 : Cond.methodLink R_Mo 148 y_Mo_bit ∈ WT := WT_in (k := 1267) (by decide +kernel) (by decide +kernel)
theorem lk_Mo_183 : Cond.methodLink R_Mo 183 y_Mo_store ∈ WT := WT_in (k := 1286) (by decide +kernel) (by decide +kernel)
theorem lk_Mo_187 : Cond.methodLink R_Mo 187 y_Mo_before ∈ WT := WT_in (k := 1290) (by decide +kernel) (by decide +kernel)
theorem lk_Mo_180 : Cond.methodLink R_Mo 180 y_Mo_isIn ∈ WT := WT_in (k := 1298) (by decide +kernel) (by decide +kernel)
theorem lk_Mo_177 : Cond.methodLink R_Mo 177 y_Mo_leadsIn ∈ WT := WT_in (k := 1294) (by decide +kernel) (by decide +kernel)
theorem lk_Mo_190 : Cond.fieldLink R_Mo 190 "PredicateProverModel" "taken" "I" ∈ WT := WT_in (k := 1098) (by decide +kernel) (by decide +kernel)
theorem lk_Mo_203 : Cond.methodLink R_Mo 203 y_Mo_along ∈ WT := WT_in (k := 1306) (by decide +kernel) (by decide +kernel)
theorem lk_Mo_193 : Cond.methodLink R_Mo 193 y_Mo_fetch ∈ WT := WT_in (k := 1310) (by decide +kernel) (by decide +kernel)
theorem lk_Mo_206 : Cond.methodLink R_Mo 206 y_Mo_offer ∈ WT := WT_in (k := 1318) (by decide +kernel) (by decide +kernel)
theorem lk_Mo_196 : Cond.methodLink R_Mo 196 y_Mo_hangsOn ∈ WT := WT_in (k := 1314) (by decide +kernel) (by decide +kernel)
theorem lk_Mo_199 : Cond.methodLink R_Mo 199 y_Mo_splits ∈ WT := WT_in (k := 1322) (by decide +kernel) (by decide +kernel)
theorem lk_Mo_219 : Cond.methodLink R_Mo 219 y_Mo_isState ∈ WT := WT_in (k := 1342) (by decide +kernel) (by decide +kernel)
theorem lk_Lw_8 : Cond.classLink R_Lw 8 "PredicateProver" ∈ WT := WT_in (k := 30) (by decide +kernel) (by decide +kernel)
theorem lk_Lw_48 : Cond.methodLink R_Lw 48 y_Lw_cell ∈ WT := WT_in (k := 745) (by decide +kernel) (by decide +kernel)
theorem lk_Lw_54 : Cond.methodLink R_Lw 54 y_PP_init ∈ WT := WT_in (k := 32) (by decide +kernel) (by decide +kernel)
theorem lk_Lw_57 : Cond.classLink R_Lw 57 "PredicateProverModel" ∈ WT := WT_in (k := 1066) (by decide +kernel) (by decide +kernel)
theorem lk_Lw_59 : Cond.methodLink R_Lw 59 y_Mo_init ∈ WT := WT_in (k := 1068) (by decide +kernel) (by decide +kernel)
theorem lk_Lw_60 : Cond.methodLink R_Lw 60 y_PP_type ∈ WT := WT_in (k := 689) (by decide +kernel) (by decide +kernel)
theorem lk_Lw_64 : Cond.methodLink R_Lw 64 y_Mo_type ∈ WT := WT_in (k := 1171) (by decide +kernel) (by decide +kernel)
theorem lk_Lw_65 : Cond.methodLink R_Lw 65 y_PP_wipe ∈ WT := WT_in (k := 697) (by decide +kernel) (by decide +kernel)
theorem lk_Lw_68 : Cond.methodLink R_Lw 68 y_Mo_wipe ∈ WT := WT_in (k := 1175) (by decide +kernel) (by decide +kernel)
theorem lk_Lw_69 : Cond.methodLink R_Lw 69 y_Lw_edge ∈ WT := WT_in (k := 748) (by decide +kernel) (by decide +kernel)
theorem lk_Lw_72 : Cond.methodLink R_Lw 72 y_Mo_edge ∈ WT := WT_in (k := 1179) (by decide +kernel) (by decide +kernel)
theorem lk_Lw_73 : Cond.methodLink R_Lw 73 y_Mo_thrown ∈ WT := WT_in (k := 1167) (by decide +kernel) (by decide +kernel)
theorem lk_Lw_76 : Cond.methodLink R_Lw 76 y_Lw_predicate ∈ WT := WT_in (k := 853) (by decide +kernel) (by decide +kernel)
theorem lk_Lw_78 : Cond.methodLink R_Lw 78 y_Mo_predicate ∈ WT := WT_in (k := 1235) (by decide +kernel) (by decide +kernel)
theorem lk_Lw_79 : Cond.methodLink R_Lw 79 y_PP_clear ∈ WT := WT_in (k := 705) (by decide +kernel) (by decide +kernel)
theorem lk_Lw_82 : Cond.methodLink R_Lw 82 y_Mo_clear ∈ WT := WT_in (k := 1243) (by decide +kernel) (by decide +kernel)
theorem lk_Lw_83 : Cond.methodLink R_Lw 83 y_Lw_prove ∈ WT := WT_in (k := 876) (by decide +kernel) (by decide +kernel)
theorem lk_Lw_86 : Cond.methodLink R_Lw 86 y_Mo_prove ∈ WT := WT_in (k := 1247) (by decide +kernel) (by decide +kernel)
theorem lk_Lw_87 : Cond.methodLink R_Lw 87 y_PP_outcome ∈ WT := WT_in (k := 725) (by decide +kernel) (by decide +kernel)
theorem lk_Lw_90 : Cond.methodLink R_Lw 90 y_Mo_outcome ∈ WT := WT_in (k := 1326) (by decide +kernel) (by decide +kernel)
theorem lk_Lw_91 : Cond.methodLink R_Lw 91 y_PP_edges ∈ WT := WT_in (k := 729) (by decide +kernel) (by decide +kernel)
theorem lk_Lw_94 : Cond.methodLink R_Lw 94 y_Mo_edges ∈ WT := WT_in (k := 1330) (by decide +kernel) (by decide +kernel)
theorem lk_Lw_95 : Cond.methodLink R_Lw 95 y_PP_predicates ∈ WT := WT_in (k := 733) (by decide +kernel) (by decide +kernel)
theorem lk_Lw_98 : Cond.methodLink R_Lw 98 y_Mo_predicates ∈ WT := WT_in (k := 1334) (by decide +kernel) (by decide +kernel)
theorem lk_Lw_99 : Cond.methodLink R_Lw 99 y_Lw_holds ∈ WT := WT_in (k := 999) (by decide +kernel) (by decide +kernel)
theorem lk_Lw_102 : Cond.methodLink R_Lw 102 y_Mo_holds ∈ WT := WT_in (k := 1338) (by decide +kernel) (by decide +kernel)
theorem lk_Lw_103 : Cond.methodLink R_Lw 103 y_Lw_signature ∈ WT := WT_in (k := 1024) (by decide +kernel) (by decide +kernel)
theorem lk_Lw_105 : Cond.methodLink R_Lw 105 y_Mo_signature ∈ WT := WT_in (k := 1346) (by decide +kernel) (by decide +kernel)
theorem lk_Lw_106 : Cond.methodLink R_Lw 106 y_Lw_follow ∈ WT := WT_in (k := 1032) (by decide +kernel) (by decide +kernel)
theorem lk_Lw_109 : Cond.methodLink R_Lw 109 y_Mo_follow ∈ WT := WT_in (k := 1350) (by decide +kernel) (by decide +kernel)
theorem lk_Lw_110 : Cond.methodLink R_Lw 110 y_PP_nodes ∈ WT := WT_in (k := 737) (by decide +kernel) (by decide +kernel)
theorem lk_Lw_113 : Cond.methodLink R_Lw 113 y_Mo_nodes ∈ WT := WT_in (k := 1354) (by decide +kernel) (by decide +kernel)
theorem lk_Lw_114 : Cond.methodLink R_Lw 114 y_Lw_node ∈ WT := WT_in (k := 1041) (by decide +kernel) (by decide +kernel)
theorem lk_Lw_116 : Cond.methodLink R_Lw 116 y_Mo_node ∈ WT := WT_in (k := 1358) (by decide +kernel) (by decide +kernel)
theorem lk_Lw_117 : Cond.methodLink R_Lw 117 y_PP_length ∈ WT := WT_in (k := 741) (by decide +kernel) (by decide +kernel)
theorem lk_Lw_120 : Cond.methodLink R_Lw 120 y_Mo_length ∈ WT := WT_in (k := 1362) (by decide +kernel) (by decide +kernel)
theorem lk_Lw_121 : Cond.methodLink R_Lw 121 y_Lw_path ∈ WT := WT_in (k := 1050) (by decide +kernel) (by decide +kernel)
theorem lk_Lw_123 : Cond.methodLink R_Lw 123 y_Mo_path ∈ WT := WT_in (k := 1366) (by decide +kernel) (by decide +kernel)
theorem lk_Lw_124 : Cond.methodLink R_Lw 124 y_Lw_input ∈ WT := WT_in (k := 1058) (by decide +kernel) (by decide +kernel)
theorem lk_Lw_126 : Cond.methodLink R_Lw 126 y_Mo_input ∈ WT := WT_in (k := 1370) (by decide +kernel) (by decide +kernel)
end
section
/-! The frame of all walks of this claim (own text): values, locals, cells and worlds by numbers; one judgement GX over the kit's W. A world is a list ks of cell numbers, a layout (what each number is), the addresses ad, and the contents F (ints by cell and place), L (longs). -/
abbrev xV : Type := Int32 ⊕ Int64 ⊕ Nat
abbrev xI (x : Int32) : xV := Sum.inl x
abbrev xL (x : Int64) : xV := Sum.inr (Sum.inl x)
abbrev xR (k : Nat) : xV := Sum.inr (Sum.inr k)
def gxv (ad : Nat → Nat) (v : xV) : Value := match v with
  | Sum.inl x => .int x
  | Sum.inr (Sum.inl x) => .long x
  | Sum.inr (Sum.inr k) => .ref (ad k)
def gxis (v : xV) : Bool := match v with
  | Sum.inr (Sum.inl _) => true
  | _ => false
theorem gxv_cat (ad : Nat → Nat) (v : xV) : (gxv ad v).category = cond (gxis v) 2 1 := by
  rcases v with x | x | x <;> rfl
/-- the locals: the latest store first -/
def gxlk : List (Nat × xV) → Nat → Option xV
  | [], _ => none
  | q :: r, i => cond (Nat.beq q.1 i) (some q.2) (cond (Nat.beq (q.1 + 1) i && gxis q.2) none (match gxlk r i with
      | none => none
      | some v => cond (Nat.beq (i + 1) q.1 && gxis v) none (some v)))
def gxhas (la : Array Slot) (nL : Nat) (ls : List (Nat × xV)) (ad : Nat → Nat) : Prop := la.size = nL ∧ lv_wf la ∧ ∀ (i : Nat) (v : xV), gxlk ls i = some v → la[i]? = some (.val (gxv ad v))
def gxl (ls : List (Nat × xV)) (nL : Nat) (ad : Nat → Nat) : List (Nat × Value) := (List.range nL).filterMap (fun i => (gxlk ls i).map (fun v => (i, gxv ad v)))
theorem gxl_mem {la : Array Slot} {nL : Nat} {ls : List (Nat × xV)} {ad : Nat → Nat} (h : gxhas la nL ls ad) {i : Nat} {v : xV} (hi : gxlk ls i = some v) : (i, gxv ad v) ∈ gxl ls nL ad := by
  have h1 := h.2.2 i v hi
  have h2 : i < nL := by rw [← h.1]; exact lv_lt h1
  exact List.mem_filterMap.mpr ⟨i, List.mem_range.mpr h2, by rw [hi]; rfl⟩
theorem gxl_has {la : Array Slot} {nL : Nat} {ls : List (Nat × xV)} {ad : Nat → Nat} (h : gxhas la nL ls ad) : lv_has la nL (gxl ls nL ad) := by
  refine ⟨h.1, h.2.1, fun q hq => ?_⟩
  obtain ⟨i, -, hi⟩ := List.mem_filterMap.mp hq
  cases hk : gxlk ls i with
  | none => rw [hk] at hi; cases hi
  | some v => rw [hk] at hi; cases hi; exact h.2.2 i v hk
theorem gxlk_cons {ls : List (Nat × xV)} {i j : Nat} {v w : xV} (h : gxlk ((i, v) :: ls) j = some w) : (i = j ∧ v = w) ∨ (i ≠ j ∧ gxlk ls j = some w ∧ ¬ (i + 1 = j ∧ gxis v = true) ∧ ¬ (j + 1 = i ∧ gxis w = true)) := by
  unfold gxlk at h
  by_cases h1 : i = j
  · subst h1
    simp at h
    exact Or.inl ⟨rfl, h⟩
  · have h2 : Nat.beq i j = false := by
      cases hb : Nat.beq i j with
      | false => rfl
      | true => exact absurd (Nat.eq_of_beq_eq_true hb) h1
    rw [h2] at h
    simp only [cond_false] at h
    cases h3 : (Nat.beq (i + 1) j && gxis v) with
    | true => rw [h3] at h; simp at h
    | false =>
      rw [h3] at h
      simp only [cond_false] at h
      cases h4 : gxlk ls j with
      | none => rw [h4] at h; simp at h
      | some u =>
        rw [h4] at h
        simp only at h
        cases h5 : (Nat.beq (j + 1) i && gxis u) with
        | true => rw [h5] at h; simp at h
        | false =>
          rw [h5] at h
          simp only [cond_false, Option.some.injEq] at h
          subst h
          refine Or.inr ⟨h1, rfl, ?_, ?_⟩
          · rintro ⟨e1, e2⟩
            subst e1
            rw [e2] at h3
            simp at h3
          · rintro ⟨e1, e2⟩
            subst e1
            rw [e2] at h5
            simp at h5
theorem gx_st1 {la la' : Array Slot} {nL i : Nat} {ls : List (Nat × xV)} {ad : Nat → Nat} {v : xV} (h0 : gxhas la nL ls ad)
    (h : lv_has la' nL ((i, gxv ad v) :: (gxl ls nL ad).filter (fun q => !(q.1 == i) && !(q.1 + 1 == i && q.2.category == 2)))) : gxhas la' nL ((i, v) :: ls) ad := by
  refine ⟨h.1, h.2.1, fun j w hj => ?_⟩
  rcases gxlk_cons hj with ⟨rfl, rfl⟩ | ⟨h1, h2, -, h4⟩
  · exact h.2.2 _ List.mem_cons_self
  · refine h.2.2 (j, gxv ad w) (List.mem_cons_of_mem _ (List.mem_filter.mpr ⟨gxl_mem h0 h2, ?_⟩))
    have e1 : (j == i) = false := by simpa using Ne.symm h1
    by_cases e2 : j + 1 = i
    · have e3 : gxis w = false := by
        cases hw : gxis w with
        | false => rfl
        | true => exact absurd ⟨e2, hw⟩ h4
      simp [e1, gxv_cat, e3]
    · simp [e1, e2]
theorem gx_st2 {la la' : Array Slot} {nL i : Nat} {ls : List (Nat × xV)} {ad : Nat → Nat} {v : xV} (h0 : gxhas la nL ls ad) (hv : gxis v = true)
    (h : lv_has la' nL ((i, gxv ad v) :: (gxl ls nL ad).filter (fun q => !(q.1 == i) && (!(q.1 == i + 1) && !(q.1 + 1 == i && q.2.category == 2))))) : gxhas la' nL ((i, v) :: ls) ad := by
  refine ⟨h.1, h.2.1, fun j w hj => ?_⟩
  rcases gxlk_cons hj with ⟨rfl, rfl⟩ | ⟨h1, h2, h3, h4⟩
  · exact h.2.2 _ List.mem_cons_self
  · refine h.2.2 (j, gxv ad w) (List.mem_cons_of_mem _ (List.mem_filter.mpr ⟨gxl_mem h0 h2, ?_⟩))
    have e1 : (j == i) = false := by simpa using Ne.symm h1
    have e0 : (j == i + 1) = false := by
      have : ¬ j = i + 1 := fun q => h3 ⟨q.symm, hv⟩
      simpa using this
    by_cases e2 : j + 1 = i
    · have e3 : gxis w = false := by
        cases hw : gxis w with
        | false => rfl
        | true => exact absurd ⟨e2, hw⟩ h4
      simp [e1, e0, gxv_cat, e3]
    · simp [e1, e0, e2]
/-- fewer locals are known -/
def gxle : List (Nat × xV) → List (Nat × xV) → Prop
  | [], _ => True
  | q :: r, ls => gxlk ls q.1 = some q.2 ∧ gxle r ls
theorem gxle_lk {ls : List (Nat × xV)} : ∀ {l' : List (Nat × xV)}, gxle l' ls → ∀ {i : Nat} {v : xV}, gxlk l' i = some v → gxlk ls i = some v
  | [], _, i, v, h => by simp [gxlk] at h
  | (j, w) :: r, hl, i, v, h => by
    rcases gxlk_cons h with ⟨rfl, rfl⟩ | ⟨-, h2, -, -⟩
    · exact hl.1
    · exact gxle_lk hl.2 h2
theorem gxhas.le {la : Array Slot} {nL : Nat} {ls l' : List (Nat × xV)} {ad : Nat → Nat} (h : gxhas la nL ls ad) (hl : gxle l' ls) : gxhas la nL l' ad := ⟨h.1, h.2.1, fun i v hi => h.2.2 i v (gxle_lk hl hi)⟩
/-! cells -/
def gxT (ca : Nat → ClassId) : List (ClassId × FieldType) := [(ca 0, .int), (ca 1, .long), (ca 2, .char), (ca 3, .byte), (ca 4, .boolean), (ca 5, .array .int), (ca 6, .array .long)]
abbrev gxE : Type := (Nat × List (Option Nat)) ⊕ (Nat × Nat) ⊕ Nat ⊕ (Nat × Nat × (Nat → Nat))
def gxfl (ad : Nat → Nat) (f : Nat → Int32) : Nat → List (Option Nat) → List Value
  | _, [] => []
  | j, none :: r => .int (f j) :: gxfl ad f (j + 1) r
  | j, some k :: r => .ref (ad k) :: gxfl ad f (j + 1) r
def gxc (ca : Nat → ClassId) (ad : Nat → Nat) (F : Nat → Nat → Int32) (L : Nat → Nat → Int64) (k : Nat) (e : gxE) : va_E := match e with
  | Sum.inl o => .inr (o.1, gxfl ad (F k) 0 o.2)
  | Sum.inr (Sum.inl a) => .inl (ca a.1, a.2, .inl (F k))
  | Sum.inr (Sum.inr (Sum.inl n)) => .inl (ca 1, n, .inr (.inl (L k)))
  | Sum.inr (Sum.inr (Sum.inr g)) => .inl (ca g.1, g.2.1, .inr (.inr (.inr (.inr (fun j => some (ad (g.2.2 j)))))))
def gxw (ks : List Nat) (lay : Nat → gxE) (ca : Nat → ClassId) (ad : Nat → Nat) (F : Nat → Nat → Int32) (L : Nat → Nat → Int64) : va_W := ks.map (fun k => (ad k, gxc ca ad F L k (lay k)))
def gxD (A : Nat → Prop) (ks : List Nat) (ad : Nat → Nat) : Prop := (∀ (i j a b : Nat), ks[i]? = some a → ks[j]? = some b → ad a = ad b → i = j) ∧ ∀ k ∈ ks, A (ad k)
theorem gxw_at {ks : List Nat} {lay : Nat → gxE} {ca : Nat → ClassId} {ad : Nat → Nat} {F : Nat → Nat → Int32} {L : Nat → Nat → Int64} {q k : Nat} (h : ks[q]? = some k) : (gxw ks lay ca ad F L)[q]? = some (ad k, gxc ca ad F L k (lay k)) := by
  simp [gxw, h]
theorem gxw_of {ks : List Nat} {lay : Nat → gxE} {ca : Nat → ClassId} {ad : Nat → Nat} {F : Nat → Nat → Int32} {L : Nat → Nat → Int64} {q : Nat} {z : Nat × va_E} (h : (gxw ks lay ca ad F L)[q]? = some z) : ∃ k, ks[q]? = some k ∧ z = (ad k, gxc ca ad F L k (lay k)) := by
  simp only [gxw, List.getElem?_map] at h
  cases hk : ks[q]? with
  | none => rw [hk] at h; cases h
  | some k => rw [hk] at h; cases h; exact ⟨k, rfl, rfl⟩
theorem gxD.D {A : Nat → Prop} {ks : List Nat} {ad : Nat → Nat} (h : gxD A ks ad) {lay : Nat → gxE} {ca : Nat → ClassId} {F : Nat → Nat → Int32} {L : Nat → Nat → Int64} : va_D A (gxw ks lay ca ad F L) := by
  refine ⟨fun i j p q hi hj he => ?_, fun k q hk => ?_⟩
  · obtain ⟨a, ha, rfl⟩ := gxw_of hi
    obtain ⟨b, hb, rfl⟩ := gxw_of hj
    exact h.1 i j a b ha hb he
  · obtain ⟨a, ha, rfl⟩ := gxw_of hk
    exact h.2 a (List.mem_of_getElem? ha)
theorem gxD.inj {A : Nat → Prop} {ks : List Nat} {ad : Nat → Nat} (h : gxD A ks ad) {a b : Nat} (ha : a ∈ ks) (hb : b ∈ ks) (he : ad a = ad b) : a = b := by
  obtain ⟨i, hi⟩ := List.getElem?_of_mem ha
  obtain ⟨j, hj⟩ := List.getElem?_of_mem hb
  have := h.1 i j a b hi hj he
  subst this
  exact Option.some.inj (hi.symm.trans hj)
theorem gxw_set {A : Nat → Prop} {ks : List Nat} {lay : Nat → gxE} {ca : Nat → ClassId} {ad : Nat → Nat} {F F' : Nat → Nat → Int32} {L L' : Nat → Nat → Int64} {q k : Nat} (hd : gxD A ks ad) (hq : ks[q]? = some k)
    (hF : ∀ a, a ≠ k → F' a = F a) (hL : ∀ a, a ≠ k → L' a = L a) : (gxw ks lay ca ad F L).set q (ad k, gxc ca ad F' L' k (lay k)) = gxw ks lay ca ad F' L' := by
  apply List.ext_getElem?
  intro i
  by_cases hi : i = q
  · subst hi
    have h1 : i < ks.length := (List.getElem?_eq_some_iff.mp hq).1
    rw [gxw_at hq, List.getElem?_set_self (by simpa [gxw] using h1)]
  · rw [List.getElem?_set_ne (Ne.symm hi)]
    cases ha : ks[i]? with
    | none => simp [gxw, ha]
    | some a =>
      have hne : a ≠ k := fun z => hi (hd.1 i q a k ha hq (by rw [z]))
      rw [gxw_at ha, gxw_at ha]
      have e : gxc ca ad F L a (lay a) = gxc ca ad F' L' a (lay a) := by
        unfold gxc
        rw [hF a hne, hL a hne]
      rw [e]
/-- one int of a cell is set -/
def gxu (F : Nat → Nat → Int32) (k j : Nat) (v : Int32) : Nat → Nat → Int32 := fun a b => if a = k ∧ b = j then v else F a b
def gxU (L : Nat → Nat → Int64) (k j : Nat) (v : Int64) : Nat → Nat → Int64 := fun a b => if a = k ∧ b = j then v else L a b
theorem gxu_ne {F : Nat → Nat → Int32} {k j a b : Nat} {v : Int32} (h : ¬ (a = k ∧ b = j)) : gxu F k j v a b = F a b := by simp [gxu, h]
theorem gxu_cell {F : Nat → Nat → Int32} {k j a : Nat} {v : Int32} (h : a ≠ k) : gxu F k j v a = F a := by funext b; simp [gxu, h]
theorem gxu_at {F : Nat → Nat → Int32} {k j : Nat} {v : Int32} : gxu F k j v k j = v := by simp [gxu]
theorem gxu_in {F : Nat → Nat → Int32} {k j : Nat} {v : Int32} : gxu F k j v k = upd (F k) j v := by funext b; simp [gxu, upd]
theorem gxU_ne {L : Nat → Nat → Int64} {k j a b : Nat} {v : Int64} (h : ¬ (a = k ∧ b = j)) : gxU L k j v a b = L a b := by simp [gxU, h]
theorem gxU_cell {L : Nat → Nat → Int64} {k j a : Nat} {v : Int64} (h : a ≠ k) : gxU L k j v a = L a := by funext b; simp [gxU, h]
theorem gxU_at {L : Nat → Nat → Int64} {k j : Nat} {v : Int64} : gxU L k j v k j = v := by simp [gxU]
theorem gxU_in {L : Nat → Nat → Int64} {k j : Nat} {v : Int64} : gxU L k j v k = vp_updL (L k) j v := by funext b; simp [gxU, vp_updL]
theorem gxfl_len (ad : Nat → Nat) (f : Nat → Int32) : ∀ (fs : List (Option Nat)) (i : Nat), (gxfl ad f i fs).length = fs.length
  | [], _ => rfl
  | none :: r, i => by simp [gxfl, gxfl_len ad f r]
  | some _ :: r, i => by simp [gxfl, gxfl_len ad f r]
theorem gxfl_i (ad : Nat → Nat) (f : Nat → Int32) : ∀ (fs : List (Option Nat)) (i j : Nat), fs[j]? = some none → (gxfl ad f i fs)[j]? = some (.int (f (i + j)))
  | [], _, _, h => by simp at h
  | none :: r, i, 0, _ => by simp [gxfl]
  | some _ :: r, i, 0, h => by simp at h
  | none :: r, i, j + 1, h => by
    have := gxfl_i ad f r (i + 1) j (by simpa using h)
    simp [gxfl, this, Nat.add_assoc, Nat.add_comm 1 j]
  | some _ :: r, i, j + 1, h => by
    have := gxfl_i ad f r (i + 1) j (by simpa using h)
    simp [gxfl, this, Nat.add_assoc, Nat.add_comm 1 j]
theorem gxfl_r (ad : Nat → Nat) (f : Nat → Int32) : ∀ (fs : List (Option Nat)) (i j k : Nat), fs[j]? = some (some k) → (gxfl ad f i fs)[j]? = some (.ref (ad k))
  | [], _, _, _, h => by simp at h
  | none :: r, i, 0, _, h => by simp at h
  | some a :: r, i, 0, k, h => by
    have : a = k := by simpa using h
    subst this
    simp [gxfl]
  | none :: r, i, j + 1, k, h => by
    have := gxfl_r ad f r (i + 1) j k (by simpa using h)
    simp [gxfl, this]
  | some _ :: r, i, j + 1, k, h => by
    have := gxfl_r ad f r (i + 1) j k (by simpa using h)
    simp [gxfl, this]
theorem gxfl_set (ad : Nat → Nat) (f : Nat → Int32) (v : Int32) : ∀ (fs : List (Option Nat)) (i j : Nat), fs[j]? = some none → (gxfl ad f i fs).set j (.int v) = gxfl ad (upd f (i + j) v) i fs := by
  have far : ∀ (fs : List (Option Nat)) (i n : Nat), n < i → gxfl ad (upd f n v) i fs = gxfl ad f i fs := by
    intro fs
    induction fs with
    | nil => intro i n _; rfl
    | cons q r ih =>
      intro i n h
      cases q with
      | none => simp [gxfl, ih (i + 1) n (by omega), upd, show ¬ i = n by omega]
      | some k => simp [gxfl, ih (i + 1) n (by omega)]
  intro fs
  induction fs with
  | nil => intro i j h; simp at h
  | cons q r ih =>
    intro i j h
    cases j with
    | zero =>
      cases q with
      | some k => simp at h
      | none => simp [gxfl, far r (i + 1) i (by omega), upd]
    | succ j =>
      have h' : r[j]? = some none := by simpa using h
      have e := ih (i + 1) j h'
      have e2 : i + 1 + j = i + (j + 1) := by omega
      rw [e2] at e
      cases q with
      | none => simp [gxfl, e, upd, show ¬ i = i + (j + 1) by omega]
      | some k => simp [gxfl, e]
section GXS
variable {p : Program} {l : Launch} {e : Env} {R : Room} {s : State} {m : MethodId} {args : Array Value} {below : List Frame} {meth : Method} {c : Code} {Q : State → Prop} {nL cells slots pc : Nat} {A : Nat → Prop} {D : va_G} {cl : List vw_C} {ca : Nat → ClassId} {ks : List Nat} {lay : Nat → gxE} {ad : Nat → Nat}
variable {ls : List (Nat × xV)} {st : List xV} {F : Nat → Nat → Int32} {L : Nat → Nat → Int64} {cc : ByteArray} {own : String} {Ts : List Cond}
/-- what a walk of one method stands on: the code, the words, the classes, the cells' places -/
abbrev GC (p : Program) (s : State) (m : MethodId) (args : Array Value) (meth : Method) (c : Code) (cc : ByteArray) (nL : Nat) (own : String) (Ts : List Cond) (A : Nat → Prop) (D : va_G) (cl : List vw_C) (ca : Nat → ClassId) (ks : List Nat) (ad : Nat → Nat) : Prop :=
  (p.tables.exec = Jvm.exec ∧ c.code = cc ∧ c.maxLocals = nL ∧ s.vm.findClass own = some m.cls ∧ ∀ w ∈ Ts, w.before args s = true) ∧ va_K D cl (gxT ca) s ∧ gxD A ks ad ∧ (∀ q, s.heap.size ≤ q → A q) ∧ meth.locks = false
def GX (p : Program) (l : Launch) (e : Env) (R : Room) (s : State) (m : MethodId) (args : Array Value) (below : List Frame) (meth : Method) (c : Code) (Q : State → Prop) (nL : Nat) (A : Nat → Prop) (D : va_G) (cl : List vw_C) (ca : Nat → ClassId) (ks : List Nat) (lay : Nat → gxE) (ad : Nat → Nat) (cells slots : Nat) (pc : Nat) (ls : List (Nat × xV)) (st : List xV) (F : Nat → Nat → Int32) (L : Nat → Nat → Int64) : Prop :=
  ∀ (H : Heap) (locs : List Loc) (la : Array Slot), gxhas la nL ls ad → va_P D cl (gxw ks lay ca ad F L) H → va_S A s.heap H locs → W p l e R s m args below meth c H locs cells slots Q (F0 m pc la (st.map (gxv ad)))
theorem gx_le {l' : List (Nat × xV)} (h : gxle l' ls) (k : GX p l e R s m args below meth c Q nL A D cl ca ks lay ad cells slots pc l' st F L) : GX p l e R s m args below meth c Q nL A D cl ca ks lay ad cells slots pc ls st F L := fun H locs la hl hP hS => k H locs la (hl.le h) hP hS
theorem gx_iconst (X : GC p s m args meth c cc nL own Ts A D cl ca ks ad) {n : Int} {v : Int32} (d : decode cc pc = .ok (.iconst n, 1)) (hv : Int32.ofInt n = v) (k : GX p l e R s m args below meth c Q nL A D cl ca ks lay ad cells slots (pc + 1) ls (xI v :: st) F L) : GX p l e R s m args below meth c Q nL A D cl ca ks lay ad cells slots pc ls (st) F L := fun H locs la hl hP hS => lv_iconst X.1.1 X.1.2.1 d hv (k H locs la hl hP hS)
theorem gx_bipush (X : GC p s m args meth c cc nL own Ts A D cl ca ks ad) {n : Int} {v : Int32} (d : decode cc pc = .ok (.bipush n, 2)) (hv : (Int8.ofInt n).toInt32 = v) (k : GX p l e R s m args below meth c Q nL A D cl ca ks lay ad cells slots (pc + 2) ls (xI v :: st) F L) : GX p l e R s m args below meth c Q nL A D cl ca ks lay ad cells slots pc ls (st) F L := fun H locs la hl hP hS => lv_bipush X.1.1 X.1.2.1 d hv (k H locs la hl hP hS)
theorem gx_sipush (X : GC p s m args meth c cc nL own Ts A D cl ca ks ad) {n : Int} {v : Int32} (d : decode cc pc = .ok (.sipush n, 3)) (hv : (Int16.ofInt n).toInt32 = v) (k : GX p l e R s m args below meth c Q nL A D cl ca ks lay ad cells slots (pc + 3) ls (xI v :: st) F L) : GX p l e R s m args below meth c Q nL A D cl ca ks lay ad cells slots pc ls (st) F L := fun H locs la hl hP hS => lv_sipush X.1.1 X.1.2.1 d hv (k H locs la hl hP hS)
theorem gx_lconst (X : GC p s m args meth c cc nL own Ts A D cl ca ks ad) {n : Fin 2} {v : Int64} (d : decode cc pc = .ok (.lconst n, 1)) (hv : Int64.ofNat (n : Nat) = v) (k : GX p l e R s m args below meth c Q nL A D cl ca ks lay ad cells slots (pc + 1) ls (xL v :: st) F L) : GX p l e R s m args below meth c Q nL A D cl ca ks lay ad cells slots pc ls (st) F L := fun H locs la hl hP hS => lv_lconst X.1.1 X.1.2.1 d hv (k H locs la hl hP hS)
theorem gx_iload_n (X : GC p s m args meth c cc nL own Ts A D cl ca ks ad) {z : Fin 4} {i : Nat} {x : Int32} (d : decode cc pc = .ok (.iload_n z, 1)) (hi : (z : Nat) = i) (hx : gxlk ls i = some (xI x)) (k : GX p l e R s m args below meth c Q nL A D cl ca ks lay ad cells slots (pc + 1) ls (xI x :: st) F L) : GX p l e R s m args below meth c Q nL A D cl ca ks lay ad cells slots pc ls (st) F L := fun H locs la hl hP hS => lv_iload_n X.1.1 X.1.2.1 d hi (hl.2.2 i _ hx) (k H locs la hl hP hS)
theorem gx_iload (X : GC p s m args meth c cc nL own Ts A D cl ca ks ad) {i : Nat} {x : Int32} (d : decode cc pc = .ok (.iload i, 2)) (hx : gxlk ls i = some (xI x)) (k : GX p l e R s m args below meth c Q nL A D cl ca ks lay ad cells slots (pc + 2) ls (xI x :: st) F L) : GX p l e R s m args below meth c Q nL A D cl ca ks lay ad cells slots pc ls (st) F L := fun H locs la hl hP hS => lv_iload X.1.1 X.1.2.1 d (hl.2.2 i _ hx) (k H locs la hl hP hS)
theorem gx_lload_n (X : GC p s m args meth c cc nL own Ts A D cl ca ks ad) {z : Fin 4} {i : Nat} {x : Int64} (d : decode cc pc = .ok (.lload_n z, 1)) (hi : (z : Nat) = i) (hx : gxlk ls i = some (xL x)) (k : GX p l e R s m args below meth c Q nL A D cl ca ks lay ad cells slots (pc + 1) ls (xL x :: st) F L) : GX p l e R s m args below meth c Q nL A D cl ca ks lay ad cells slots pc ls (st) F L := fun H locs la hl hP hS => lv_lload_n X.1.1 X.1.2.1 d hi (hl.2.2 i _ hx) (k H locs la hl hP hS)
theorem gx_lload (X : GC p s m args meth c cc nL own Ts A D cl ca ks ad) {i : Nat} {x : Int64} (d : decode cc pc = .ok (.lload i, 2)) (hx : gxlk ls i = some (xL x)) (k : GX p l e R s m args below meth c Q nL A D cl ca ks lay ad cells slots (pc + 2) ls (xL x :: st) F L) : GX p l e R s m args below meth c Q nL A D cl ca ks lay ad cells slots pc ls (st) F L := fun H locs la hl hP hS => lv_lload X.1.1 X.1.2.1 d (hl.2.2 i _ hx) (k H locs la hl hP hS)
theorem gx_aload_n (X : GC p s m args meth c cc nL own Ts A D cl ca ks ad) {z : Fin 4} {i : Nat} {x : Nat} (d : decode cc pc = .ok (.aload_n z, 1)) (hi : (z : Nat) = i) (hx : gxlk ls i = some (xR x)) (k : GX p l e R s m args below meth c Q nL A D cl ca ks lay ad cells slots (pc + 1) ls (xR x :: st) F L) : GX p l e R s m args below meth c Q nL A D cl ca ks lay ad cells slots pc ls (st) F L := fun H locs la hl hP hS => lv_aload_n X.1.1 X.1.2.1 d hi (hl.2.2 i _ hx) (k H locs la hl hP hS)
theorem gx_aload (X : GC p s m args meth c cc nL own Ts A D cl ca ks ad) {i : Nat} {x : Nat} (d : decode cc pc = .ok (.aload i, 2)) (hx : gxlk ls i = some (xR x)) (k : GX p l e R s m args below meth c Q nL A D cl ca ks lay ad cells slots (pc + 2) ls (xR x :: st) F L) : GX p l e R s m args below meth c Q nL A D cl ca ks lay ad cells slots pc ls (st) F L := fun H locs la hl hP hS => lv_aload X.1.1 X.1.2.1 d (hl.2.2 i _ hx) (k H locs la hl hP hS)
theorem gx_istore_n (X : GC p s m args meth c cc nL own Ts A D cl ca ks ad) {z : Fin 4} {i : Nat} {x : Int32} (d : decode cc pc = .ok (.istore_n z, 1)) (hi : (z : Nat) = i) (hn : i < nL) (k : GX p l e R s m args below meth c Q nL A D cl ca ks lay ad cells slots (pc + 1) ((i, xI x) :: ls) st F L) : GX p l e R s m args below meth c Q nL A D cl ca ks lay ad cells slots pc ls (xI x :: st) F L := fun H locs la hl hP hS => lv_istore_n X.1.1 X.1.2.1 d hi (gxl_has hl) hn rfl (fun la2 h2 => k H locs la2 (gx_st1 hl h2) hP hS)
theorem gx_istore (X : GC p s m args meth c cc nL own Ts A D cl ca ks ad) {i : Nat} {x : Int32} (d : decode cc pc = .ok (.istore i, 2)) (hn : i < nL) (k : GX p l e R s m args below meth c Q nL A D cl ca ks lay ad cells slots (pc + 2) ((i, xI x) :: ls) st F L) : GX p l e R s m args below meth c Q nL A D cl ca ks lay ad cells slots pc ls (xI x :: st) F L := fun H locs la hl hP hS => lv_istore X.1.1 X.1.2.1 d (gxl_has hl) hn rfl (fun la2 h2 => k H locs la2 (gx_st1 hl h2) hP hS)
theorem gx_lstore_n (X : GC p s m args meth c cc nL own Ts A D cl ca ks ad) {z : Fin 4} {i : Nat} {x : Int64} (d : decode cc pc = .ok (.lstore_n z, 1)) (hi : (z : Nat) = i) (hn : i + 1 < nL) (k : GX p l e R s m args below meth c Q nL A D cl ca ks lay ad cells slots (pc + 1) ((i, xL x) :: ls) st F L) : GX p l e R s m args below meth c Q nL A D cl ca ks lay ad cells slots pc ls (xL x :: st) F L := fun H locs la hl hP hS => lv_lstore_n X.1.1 X.1.2.1 d hi (gxl_has hl) hn rfl (fun la2 h2 => k H locs la2 (gx_st2 hl rfl h2) hP hS)
theorem gx_lstore (X : GC p s m args meth c cc nL own Ts A D cl ca ks ad) {i : Nat} {x : Int64} (d : decode cc pc = .ok (.lstore i, 2)) (hn : i + 1 < nL) (k : GX p l e R s m args below meth c Q nL A D cl ca ks lay ad cells slots (pc + 2) ((i, xL x) :: ls) st F L) : GX p l e R s m args below meth c Q nL A D cl ca ks lay ad cells slots pc ls (xL x :: st) F L := fun H locs la hl hP hS => lv_lstore X.1.1 X.1.2.1 d (gxl_has hl) hn rfl (fun la2 h2 => k H locs la2 (gx_st2 hl rfl h2) hP hS)
theorem gx_astore_n (X : GC p s m args meth c cc nL own Ts A D cl ca ks ad) {z : Fin 4} {i : Nat} {x : Nat} (d : decode cc pc = .ok (.astore_n z, 1)) (hi : (z : Nat) = i) (hn : i < nL) (k : GX p l e R s m args below meth c Q nL A D cl ca ks lay ad cells slots (pc + 1) ((i, xR x) :: ls) st F L) : GX p l e R s m args below meth c Q nL A D cl ca ks lay ad cells slots pc ls (xR x :: st) F L := fun H locs la hl hP hS => lv_astore_n X.1.1 X.1.2.1 d hi (gxl_has hl) hn rfl (fun la2 h2 => k H locs la2 (gx_st1 hl h2) hP hS)
theorem gx_astore (X : GC p s m args meth c cc nL own Ts A D cl ca ks ad) {i : Nat} {x : Nat} (d : decode cc pc = .ok (.astore i, 2)) (hn : i < nL) (k : GX p l e R s m args below meth c Q nL A D cl ca ks lay ad cells slots (pc + 2) ((i, xR x) :: ls) st F L) : GX p l e R s m args below meth c Q nL A D cl ca ks lay ad cells slots pc ls (xR x :: st) F L := fun H locs la hl hP hS => lv_astore X.1.1 X.1.2.1 d (gxl_has hl) hn rfl (fun la2 h2 => k H locs la2 (gx_st1 hl h2) hP hS)
theorem gx_iinc (X : GC p s m args meth c cc nL own Ts A D cl ca ks ad) {i : Nat} {n : Int} {x v : Int32} (d : decode cc pc = .ok (.iinc i n, 3)) (hx : gxlk ls i = some (xI x)) (hv : x + Int32.ofInt n = v) (k : GX p l e R s m args below meth c Q nL A D cl ca ks lay ad cells slots (pc + 3) ((i, xI v) :: ls) st F L) : GX p l e R s m args below meth c Q nL A D cl ca ks lay ad cells slots pc ls st F L := by
  intro H locs la hl hP hS
  obtain ⟨q, hq⟩ := List.getElem?_of_mem (gxl_mem hl hx)
  have hn : i < nL := by rw [← hl.1]; exact lv_lt (hl.2.2 i _ hx)
  exact lv_iinc X.1.1 X.1.2.1 d (gxl_has hl) hq hv hn rfl (fun la2 h2 => k H locs la2 (gx_st1 hl h2) hP hS)
theorem gx_iadd (X : GC p s m args meth c cc nL own Ts A D cl ca ks ad) {x y : Int32} (d : decode cc pc = .ok (.iadd, 1))  (k : GX p l e R s m args below meth c Q nL A D cl ca ks lay ad cells slots (pc + 1) ls (xI (x + y) :: st) F L) : GX p l e R s m args below meth c Q nL A D cl ca ks lay ad cells slots pc ls (xI y :: xI x :: st) F L := fun H locs la hl hP hS => lv_iadd X.1.1 X.1.2.1 d (k H locs la hl hP hS)
theorem gx_isub (X : GC p s m args meth c cc nL own Ts A D cl ca ks ad) {x y : Int32} (d : decode cc pc = .ok (.isub, 1))  (k : GX p l e R s m args below meth c Q nL A D cl ca ks lay ad cells slots (pc + 1) ls (xI (x - y) :: st) F L) : GX p l e R s m args below meth c Q nL A D cl ca ks lay ad cells slots pc ls (xI y :: xI x :: st) F L := fun H locs la hl hP hS => lv_isub X.1.1 X.1.2.1 d (k H locs la hl hP hS)
theorem gx_imul (X : GC p s m args meth c cc nL own Ts A D cl ca ks ad) {x y : Int32} (d : decode cc pc = .ok (.imul, 1))  (k : GX p l e R s m args below meth c Q nL A D cl ca ks lay ad cells slots (pc + 1) ls (xI (x * y) :: st) F L) : GX p l e R s m args below meth c Q nL A D cl ca ks lay ad cells slots pc ls (xI y :: xI x :: st) F L := fun H locs la hl hP hS => lv_imul X.1.1 X.1.2.1 d (k H locs la hl hP hS)
theorem gx_iand (X : GC p s m args meth c cc nL own Ts A D cl ca ks ad) {x y : Int32} (d : decode cc pc = .ok (.iand, 1))  (k : GX p l e R s m args below meth c Q nL A D cl ca ks lay ad cells slots (pc + 1) ls (xI (x &&& y) :: st) F L) : GX p l e R s m args below meth c Q nL A D cl ca ks lay ad cells slots pc ls (xI y :: xI x :: st) F L := fun H locs la hl hP hS => lv_iand X.1.1 X.1.2.1 d (k H locs la hl hP hS)
theorem gx_ior (X : GC p s m args meth c cc nL own Ts A D cl ca ks ad) {x y : Int32} (d : decode cc pc = .ok (.ior, 1))  (k : GX p l e R s m args below meth c Q nL A D cl ca ks lay ad cells slots (pc + 1) ls (xI (x ||| y) :: st) F L) : GX p l e R s m args below meth c Q nL A D cl ca ks lay ad cells slots pc ls (xI y :: xI x :: st) F L := fun H locs la hl hP hS => lv_ior X.1.1 X.1.2.1 d (k H locs la hl hP hS)
theorem gx_ixor (X : GC p s m args meth c cc nL own Ts A D cl ca ks ad) {x y : Int32} (d : decode cc pc = .ok (.ixor, 1))  (k : GX p l e R s m args below meth c Q nL A D cl ca ks lay ad cells slots (pc + 1) ls (xI (x ^^^ y) :: st) F L) : GX p l e R s m args below meth c Q nL A D cl ca ks lay ad cells slots pc ls (xI y :: xI x :: st) F L := fun H locs la hl hP hS => lv_ixor X.1.1 X.1.2.1 d (k H locs la hl hP hS)
theorem gx_ishl (X : GC p s m args meth c cc nL own Ts A D cl ca ks ad) {x y : Int32} (d : decode cc pc = .ok (.ishl, 1))  (k : GX p l e R s m args below meth c Q nL A D cl ca ks lay ad cells slots (pc + 1) ls (xI (x <<< (y &&& 31)) :: st) F L) : GX p l e R s m args below meth c Q nL A D cl ca ks lay ad cells slots pc ls (xI y :: xI x :: st) F L := fun H locs la hl hP hS => lv_ishl X.1.1 X.1.2.1 d (k H locs la hl hP hS)
theorem gx_ishr (X : GC p s m args meth c cc nL own Ts A D cl ca ks ad) {x y : Int32} (d : decode cc pc = .ok (.ishr, 1))  (k : GX p l e R s m args below meth c Q nL A D cl ca ks lay ad cells slots (pc + 1) ls (xI (x >>> (y &&& 31)) :: st) F L) : GX p l e R s m args below meth c Q nL A D cl ca ks lay ad cells slots pc ls (xI y :: xI x :: st) F L := fun H locs la hl hP hS => lv_ishr X.1.1 X.1.2.1 d (k H locs la hl hP hS)
theorem gx_idiv (X : GC p s m args meth c cc nL own Ts A D cl ca ks ad) {x y : Int32} (d : decode cc pc = .ok (.idiv, 1)) (hne : ¬ y = 0) (k : GX p l e R s m args below meth c Q nL A D cl ca ks lay ad cells slots (pc + 1) ls (xI (x / y) :: st) F L) : GX p l e R s m args below meth c Q nL A D cl ca ks lay ad cells slots pc ls (xI y :: xI x :: st) F L := fun H locs la hl hP hS => lv_idiv X.1.1 X.1.2.1 d hne (k H locs la hl hP hS)
theorem gx_irem (X : GC p s m args meth c cc nL own Ts A D cl ca ks ad) {x y : Int32} (d : decode cc pc = .ok (.irem, 1)) (hne : ¬ y = 0) (k : GX p l e R s m args below meth c Q nL A D cl ca ks lay ad cells slots (pc + 1) ls (xI (x - x / y * y) :: st) F L) : GX p l e R s m args below meth c Q nL A D cl ca ks lay ad cells slots pc ls (xI y :: xI x :: st) F L := fun H locs la hl hP hS => lv_irem X.1.1 X.1.2.1 d hne (k H locs la hl hP hS)
theorem gx_ineg (X : GC p s m args meth c cc nL own Ts A D cl ca ks ad) {x : Int32} (d : decode cc pc = .ok (.ineg, 1))  (k : GX p l e R s m args below meth c Q nL A D cl ca ks lay ad cells slots (pc + 1) ls (xI (-x) :: st) F L) : GX p l e R s m args below meth c Q nL A D cl ca ks lay ad cells slots pc ls (xI x :: st) F L := fun H locs la hl hP hS => lv_ineg X.1.1 X.1.2.1 d (k H locs la hl hP hS)
theorem gx_ladd (X : GC p s m args meth c cc nL own Ts A D cl ca ks ad) {x y : Int64} (d : decode cc pc = .ok (.ladd, 1))  (k : GX p l e R s m args below meth c Q nL A D cl ca ks lay ad cells slots (pc + 1) ls (xL (x + y) :: st) F L) : GX p l e R s m args below meth c Q nL A D cl ca ks lay ad cells slots pc ls (xL y :: xL x :: st) F L := fun H locs la hl hP hS => lv_ladd X.1.1 X.1.2.1 d (k H locs la hl hP hS)
theorem gx_lsub (X : GC p s m args meth c cc nL own Ts A D cl ca ks ad) {x y : Int64} (d : decode cc pc = .ok (.lsub, 1))  (k : GX p l e R s m args below meth c Q nL A D cl ca ks lay ad cells slots (pc + 1) ls (xL (x - y) :: st) F L) : GX p l e R s m args below meth c Q nL A D cl ca ks lay ad cells slots pc ls (xL y :: xL x :: st) F L := fun H locs la hl hP hS => lv_lsub X.1.1 X.1.2.1 d (k H locs la hl hP hS)
theorem gx_land (X : GC p s m args meth c cc nL own Ts A D cl ca ks ad) {x y : Int64} (d : decode cc pc = .ok (.land, 1))  (k : GX p l e R s m args below meth c Q nL A D cl ca ks lay ad cells slots (pc + 1) ls (xL (x &&& y) :: st) F L) : GX p l e R s m args below meth c Q nL A D cl ca ks lay ad cells slots pc ls (xL y :: xL x :: st) F L := fun H locs la hl hP hS => lv_land X.1.1 X.1.2.1 d (k H locs la hl hP hS)
theorem gx_lor (X : GC p s m args meth c cc nL own Ts A D cl ca ks ad) {x y : Int64} (d : decode cc pc = .ok (.lor, 1))  (k : GX p l e R s m args below meth c Q nL A D cl ca ks lay ad cells slots (pc + 1) ls (xL (x ||| y) :: st) F L) : GX p l e R s m args below meth c Q nL A D cl ca ks lay ad cells slots pc ls (xL y :: xL x :: st) F L := fun H locs la hl hP hS => lv_lor X.1.1 X.1.2.1 d (k H locs la hl hP hS)
theorem gx_lxor (X : GC p s m args meth c cc nL own Ts A D cl ca ks ad) {x y : Int64} (d : decode cc pc = .ok (.lxor, 1))  (k : GX p l e R s m args below meth c Q nL A D cl ca ks lay ad cells slots (pc + 1) ls (xL (x ^^^ y) :: st) F L) : GX p l e R s m args below meth c Q nL A D cl ca ks lay ad cells slots pc ls (xL y :: xL x :: st) F L := fun H locs la hl hP hS => lv_lxor X.1.1 X.1.2.1 d (k H locs la hl hP hS)
theorem gx_i2l (X : GC p s m args meth c cc nL own Ts A D cl ca ks ad) {x : Int32} {v : Int64} (d : decode cc pc = .ok (.i2l, 1)) (hv : x.toInt64 = v) (k : GX p l e R s m args below meth c Q nL A D cl ca ks lay ad cells slots (pc + 1) ls (xL v :: st) F L) : GX p l e R s m args below meth c Q nL A D cl ca ks lay ad cells slots pc ls (xI x :: st) F L := fun H locs la hl hP hS => lv_i2l X.1.1 X.1.2.1 d hv (k H locs la hl hP hS)
theorem gx_l2i (X : GC p s m args meth c cc nL own Ts A D cl ca ks ad) {x : Int64} {v : Int32} (d : decode cc pc = .ok (.l2i, 1)) (hv : x.toInt32 = v) (k : GX p l e R s m args below meth c Q nL A D cl ca ks lay ad cells slots (pc + 1) ls (xI v :: st) F L) : GX p l e R s m args below meth c Q nL A D cl ca ks lay ad cells slots pc ls (xL x :: st) F L := fun H locs la hl hP hS => lv_l2i X.1.1 X.1.2.1 d hv (k H locs la hl hP hS)
theorem gx_i2b (X : GC p s m args meth c cc nL own Ts A D cl ca ks ad) {x v : Int32} (d : decode cc pc = .ok (.i2b, 1)) (hv : x.toInt8.toInt32 = v) (k : GX p l e R s m args below meth c Q nL A D cl ca ks lay ad cells slots (pc + 1) ls (xI v :: st) F L) : GX p l e R s m args below meth c Q nL A D cl ca ks lay ad cells slots pc ls (xI x :: st) F L := fun H locs la hl hP hS => lv_i2b X.1.1 X.1.2.1 d hv (k H locs la hl hP hS)
theorem gx_i2s (X : GC p s m args meth c cc nL own Ts A D cl ca ks ad) {x v : Int32} (d : decode cc pc = .ok (.i2s, 1)) (hv : x.toInt16.toInt32 = v) (k : GX p l e R s m args below meth c Q nL A D cl ca ks lay ad cells slots (pc + 1) ls (xI v :: st) F L) : GX p l e R s m args below meth c Q nL A D cl ca ks lay ad cells slots pc ls (xI x :: st) F L := fun H locs la hl hP hS => lv_i2s X.1.1 X.1.2.1 d hv (k H locs la hl hP hS)
theorem gx_i2c (X : GC p s m args meth c cc nL own Ts A D cl ca ks ad) {x v : Int32} (d : decode cc pc = .ok (.i2c, 1)) (hv : (x.toUInt32 % 65536).toInt32 = v) (k : GX p l e R s m args below meth c Q nL A D cl ca ks lay ad cells slots (pc + 1) ls (xI v :: st) F L) : GX p l e R s m args below meth c Q nL A D cl ca ks lay ad cells slots pc ls (xI x :: st) F L := fun H locs la hl hP hS => lv_i2c X.1.1 X.1.2.1 d hv (k H locs la hl hP hS)
theorem gx_iushr (X : GC p s m args meth c cc nL own Ts A D cl ca ks ad) {x y v : Int32} (d : decode cc pc = .ok (.iushr, 1)) (hv : (x.toUInt32 >>> (y.toUInt32 &&& Int32.toUInt32 31)).toInt32 = v) (k : GX p l e R s m args below meth c Q nL A D cl ca ks lay ad cells slots (pc + 1) ls (xI v :: st) F L) : GX p l e R s m args below meth c Q nL A D cl ca ks lay ad cells slots pc ls (xI y :: xI x :: st) F L := fun H locs la hl hP hS => lv_iushr X.1.1 X.1.2.1 d hv (k H locs la hl hP hS)
theorem gx_lushr (X : GC p s m args meth c cc nL own Ts A D cl ca ks ad) {x v : Int64} {y : Int32} (d : decode cc pc = .ok (.lushr, 1)) (hv : (x.toUInt64 >>> (y.toInt64.toUInt64 &&& Int64.toUInt64 63)).toInt64 = v) (k : GX p l e R s m args below meth c Q nL A D cl ca ks lay ad cells slots (pc + 1) ls (xL v :: st) F L) : GX p l e R s m args below meth c Q nL A D cl ca ks lay ad cells slots pc ls (xI y :: xL x :: st) F L := fun H locs la hl hP hS => lv_lushr X.1.1 X.1.2.1 d hv (k H locs la hl hP hS)
theorem gx_lshl (X : GC p s m args meth c cc nL own Ts A D cl ca ks ad) {x v : Int64} {y : Int32} (d : decode cc pc = .ok (.lshl, 1)) (hv : x <<< (y.toInt64 &&& 63) = v) (k : GX p l e R s m args below meth c Q nL A D cl ca ks lay ad cells slots (pc + 1) ls (xL v :: st) F L) : GX p l e R s m args below meth c Q nL A D cl ca ks lay ad cells slots pc ls (xI y :: xL x :: st) F L := fun H locs la hl hP hS => lv_lshl X.1.1 X.1.2.1 d hv (k H locs la hl hP hS)
theorem gx_lshr (X : GC p s m args meth c cc nL own Ts A D cl ca ks ad) {x v : Int64} {y : Int32} (d : decode cc pc = .ok (.lshr, 1)) (hv : x >>> (y.toInt64 &&& 63) = v) (k : GX p l e R s m args below meth c Q nL A D cl ca ks lay ad cells slots (pc + 1) ls (xL v :: st) F L) : GX p l e R s m args below meth c Q nL A D cl ca ks lay ad cells slots pc ls (xI y :: xL x :: st) F L := fun H locs la hl hP hS => lv_lshr X.1.1 X.1.2.1 d hv (k H locs la hl hP hS)
theorem gx_lcmp (X : GC p s m args meth c cc nL own Ts A D cl ca ks ad) {x y : Int64} (d : decode cc pc = .ok (.lcmp, 1))  (k : GX p l e R s m args below meth c Q nL A D cl ca ks lay ad cells slots (pc + 1) ls (xI (lg_cmp x y) :: st) F L) : GX p l e R s m args below meth c Q nL A D cl ca ks lay ad cells slots pc ls (xL y :: xL x :: st) F L := fun H locs la hl hP hS => W.lcmp X.1.1 X.1.2.1 d (k H locs la hl hP hS)
theorem gx_dup (X : GC p s m args meth c cc nL own Ts A D cl ca ks ad) {a : xV} (d : decode cc pc = .ok (.dup, 1)) (ha : gxis a = false) (k : GX p l e R s m args below meth c Q nL A D cl ca ks lay ad cells slots (pc + 1) ls (a :: a :: st) F L) : GX p l e R s m args below meth c Q nL A D cl ca ks lay ad cells slots pc ls (a :: st) F L := fun H locs la hl hP hS => lv_dup X.1.1 X.1.2.1 d (by rw [gxv_cat, ha]; rfl) (k H locs la hl hP hS)
theorem gx_pop (X : GC p s m args meth c cc nL own Ts A D cl ca ks ad) {a : xV} (d : decode cc pc = .ok (.pop, 1)) (ha : gxis a = false) (k : GX p l e R s m args below meth c Q nL A D cl ca ks lay ad cells slots (pc + 1) ls (st) F L) : GX p l e R s m args below meth c Q nL A D cl ca ks lay ad cells slots pc ls (a :: st) F L := fun H locs la hl hP hS => lv_pop X.1.1 X.1.2.1 d (by rw [gxv_cat, ha]; rfl) (k H locs la hl hP hS)
theorem gx_dup_x1 (X : GC p s m args meth c cc nL own Ts A D cl ca ks ad) {a b : xV} (d : decode cc pc = .ok (.dup_x1, 1)) (ha : gxis a = false) (hb : gxis b = false) (k : GX p l e R s m args below meth c Q nL A D cl ca ks lay ad cells slots (pc + 1) ls (a :: b :: a :: st) F L) : GX p l e R s m args below meth c Q nL A D cl ca ks lay ad cells slots pc ls (a :: b :: st) F L := fun H locs la hl hP hS => lv_dup_x1 X.1.1 X.1.2.1 d (by rw [gxv_cat, ha]; rfl) (by rw [gxv_cat, hb]; rfl) (k H locs la hl hP hS)
theorem gx_dup_x2 (X : GC p s m args meth c cc nL own Ts A D cl ca ks ad) {a b z : xV} (d : decode cc pc = .ok (.dup_x2, 1)) (ha : gxis a = false) (hb : gxis b = false) (hz : gxis z = false) (k : GX p l e R s m args below meth c Q nL A D cl ca ks lay ad cells slots (pc + 1) ls (a :: b :: z :: a :: st) F L) : GX p l e R s m args below meth c Q nL A D cl ca ks lay ad cells slots pc ls (a :: b :: z :: st) F L := fun H locs la hl hP hS => lv_dup_x2 X.1.1 X.1.2.1 d (by rw [gxv_cat, ha]; rfl) (by rw [gxv_cat, hb]; rfl) (by rw [gxv_cat, hz]; rfl) (k H locs la hl hP hS)
theorem gx_dup2_11 (X : GC p s m args meth c cc nL own Ts A D cl ca ks ad) {a b : xV} (d : decode cc pc = .ok (.dup2, 1)) (ha : gxis a = false) (hb : gxis b = false) (k : GX p l e R s m args below meth c Q nL A D cl ca ks lay ad cells slots (pc + 1) ls (a :: b :: a :: b :: st) F L) : GX p l e R s m args below meth c Q nL A D cl ca ks lay ad cells slots pc ls (a :: b :: st) F L := fun H locs la hl hP hS => lv_dup2_11 X.1.1 X.1.2.1 d (by rw [gxv_cat, ha]; rfl) (by rw [gxv_cat, hb]; rfl) (k H locs la hl hP hS)
theorem gx_dup2_2 (X : GC p s m args meth c cc nL own Ts A D cl ca ks ad) {a : xV} (d : decode cc pc = .ok (.dup2, 1)) (ha : gxis a = true) (k : GX p l e R s m args below meth c Q nL A D cl ca ks lay ad cells slots (pc + 1) ls (a :: a :: st) F L) : GX p l e R s m args below meth c Q nL A D cl ca ks lay ad cells slots pc ls (a :: st) F L := fun H locs la hl hP hS => lv_dup2_2 X.1.1 X.1.2.1 d (by rw [gxv_cat, ha]; rfl) (k H locs la hl hP hS)
theorem gx_if_eq (X : GC p s m args meth c cc nL own Ts A D cl ca ks ad) {x : Int32} {off : Int} {tgt : Nat} (d : decode cc pc = .ok (.ifCond .eq off, 3)) (ht : (pc : Int) + off = (tgt : Int)) (kt : x = 0 → GX p l e R s m args below meth c Q nL A D cl ca ks lay ad cells slots tgt ls st F L) (kf : ¬ x = 0 → GX p l e R s m args below meth c Q nL A D cl ca ks lay ad cells slots (pc + 3) ls st F L) : GX p l e R s m args below meth c Q nL A D cl ca ks lay ad cells slots pc ls (xI x :: st) F L := fun H locs la hl hP hS => lv_if_eq X.1.1 X.1.2.1 d ht (fun h => kt h H locs la hl hP hS) (fun h => kf h H locs la hl hP hS)
theorem gx_icmp_eq (X : GC p s m args meth c cc nL own Ts A D cl ca ks ad) {x y : Int32} {off : Int} {tgt : Nat} (d : decode cc pc = .ok (.if_icmp .eq off, 3)) (ht : (pc : Int) + off = (tgt : Int)) (kt : x = y → GX p l e R s m args below meth c Q nL A D cl ca ks lay ad cells slots tgt ls st F L) (kf : ¬ x = y → GX p l e R s m args below meth c Q nL A D cl ca ks lay ad cells slots (pc + 3) ls st F L) : GX p l e R s m args below meth c Q nL A D cl ca ks lay ad cells slots pc ls (xI y :: xI x :: st) F L := fun H locs la hl hP hS => lv_icmp_eq X.1.1 X.1.2.1 d ht (fun h => kt h H locs la hl hP hS) (fun h => kf h H locs la hl hP hS)
theorem gx_if_lt (X : GC p s m args meth c cc nL own Ts A D cl ca ks ad) {x : Int32} {off : Int} {tgt : Nat} (d : decode cc pc = .ok (.ifCond .lt off, 3)) (ht : (pc : Int) + off = (tgt : Int)) (kt : x < 0 → GX p l e R s m args below meth c Q nL A D cl ca ks lay ad cells slots tgt ls st F L) (kf : ¬ x < 0 → GX p l e R s m args below meth c Q nL A D cl ca ks lay ad cells slots (pc + 3) ls st F L) : GX p l e R s m args below meth c Q nL A D cl ca ks lay ad cells slots pc ls (xI x :: st) F L := fun H locs la hl hP hS => lv_if_lt X.1.1 X.1.2.1 d ht (fun h => kt h H locs la hl hP hS) (fun h => kf h H locs la hl hP hS)
theorem gx_icmp_lt (X : GC p s m args meth c cc nL own Ts A D cl ca ks ad) {x y : Int32} {off : Int} {tgt : Nat} (d : decode cc pc = .ok (.if_icmp .lt off, 3)) (ht : (pc : Int) + off = (tgt : Int)) (kt : x < y → GX p l e R s m args below meth c Q nL A D cl ca ks lay ad cells slots tgt ls st F L) (kf : ¬ x < y → GX p l e R s m args below meth c Q nL A D cl ca ks lay ad cells slots (pc + 3) ls st F L) : GX p l e R s m args below meth c Q nL A D cl ca ks lay ad cells slots pc ls (xI y :: xI x :: st) F L := fun H locs la hl hP hS => lv_icmp_lt X.1.1 X.1.2.1 d ht (fun h => kt h H locs la hl hP hS) (fun h => kf h H locs la hl hP hS)
theorem gx_if_ge (X : GC p s m args meth c cc nL own Ts A D cl ca ks ad) {x : Int32} {off : Int} {tgt : Nat} (d : decode cc pc = .ok (.ifCond .ge off, 3)) (ht : (pc : Int) + off = (tgt : Int)) (kt : 0 ≤ x → GX p l e R s m args below meth c Q nL A D cl ca ks lay ad cells slots tgt ls st F L) (kf : ¬ 0 ≤ x → GX p l e R s m args below meth c Q nL A D cl ca ks lay ad cells slots (pc + 3) ls st F L) : GX p l e R s m args below meth c Q nL A D cl ca ks lay ad cells slots pc ls (xI x :: st) F L := fun H locs la hl hP hS => lv_if_ge X.1.1 X.1.2.1 d ht (fun h => kt h H locs la hl hP hS) (fun h => kf h H locs la hl hP hS)
theorem gx_icmp_ge (X : GC p s m args meth c cc nL own Ts A D cl ca ks ad) {x y : Int32} {off : Int} {tgt : Nat} (d : decode cc pc = .ok (.if_icmp .ge off, 3)) (ht : (pc : Int) + off = (tgt : Int)) (kt : y ≤ x → GX p l e R s m args below meth c Q nL A D cl ca ks lay ad cells slots tgt ls st F L) (kf : ¬ y ≤ x → GX p l e R s m args below meth c Q nL A D cl ca ks lay ad cells slots (pc + 3) ls st F L) : GX p l e R s m args below meth c Q nL A D cl ca ks lay ad cells slots pc ls (xI y :: xI x :: st) F L := fun H locs la hl hP hS => lv_icmp_ge X.1.1 X.1.2.1 d ht (fun h => kt h H locs la hl hP hS) (fun h => kf h H locs la hl hP hS)
theorem gx_if_gt (X : GC p s m args meth c cc nL own Ts A D cl ca ks ad) {x : Int32} {off : Int} {tgt : Nat} (d : decode cc pc = .ok (.ifCond .gt off, 3)) (ht : (pc : Int) + off = (tgt : Int)) (kt : 0 < x → GX p l e R s m args below meth c Q nL A D cl ca ks lay ad cells slots tgt ls st F L) (kf : ¬ 0 < x → GX p l e R s m args below meth c Q nL A D cl ca ks lay ad cells slots (pc + 3) ls st F L) : GX p l e R s m args below meth c Q nL A D cl ca ks lay ad cells slots pc ls (xI x :: st) F L := fun H locs la hl hP hS => lv_if_gt X.1.1 X.1.2.1 d ht (fun h => kt h H locs la hl hP hS) (fun h => kf h H locs la hl hP hS)
theorem gx_icmp_gt (X : GC p s m args meth c cc nL own Ts A D cl ca ks ad) {x y : Int32} {off : Int} {tgt : Nat} (d : decode cc pc = .ok (.if_icmp .gt off, 3)) (ht : (pc : Int) + off = (tgt : Int)) (kt : y < x → GX p l e R s m args below meth c Q nL A D cl ca ks lay ad cells slots tgt ls st F L) (kf : ¬ y < x → GX p l e R s m args below meth c Q nL A D cl ca ks lay ad cells slots (pc + 3) ls st F L) : GX p l e R s m args below meth c Q nL A D cl ca ks lay ad cells slots pc ls (xI y :: xI x :: st) F L := fun H locs la hl hP hS => lv_icmp_gt X.1.1 X.1.2.1 d ht (fun h => kt h H locs la hl hP hS) (fun h => kf h H locs la hl hP hS)
theorem gx_if_le (X : GC p s m args meth c cc nL own Ts A D cl ca ks ad) {x : Int32} {off : Int} {tgt : Nat} (d : decode cc pc = .ok (.ifCond .le off, 3)) (ht : (pc : Int) + off = (tgt : Int)) (kt : x ≤ 0 → GX p l e R s m args below meth c Q nL A D cl ca ks lay ad cells slots tgt ls st F L) (kf : ¬ x ≤ 0 → GX p l e R s m args below meth c Q nL A D cl ca ks lay ad cells slots (pc + 3) ls st F L) : GX p l e R s m args below meth c Q nL A D cl ca ks lay ad cells slots pc ls (xI x :: st) F L := fun H locs la hl hP hS => lv_if_le X.1.1 X.1.2.1 d ht (fun h => kt h H locs la hl hP hS) (fun h => kf h H locs la hl hP hS)
theorem gx_icmp_le (X : GC p s m args meth c cc nL own Ts A D cl ca ks ad) {x y : Int32} {off : Int} {tgt : Nat} (d : decode cc pc = .ok (.if_icmp .le off, 3)) (ht : (pc : Int) + off = (tgt : Int)) (kt : x ≤ y → GX p l e R s m args below meth c Q nL A D cl ca ks lay ad cells slots tgt ls st F L) (kf : ¬ x ≤ y → GX p l e R s m args below meth c Q nL A D cl ca ks lay ad cells slots (pc + 3) ls st F L) : GX p l e R s m args below meth c Q nL A D cl ca ks lay ad cells slots pc ls (xI y :: xI x :: st) F L := fun H locs la hl hP hS => lv_icmp_le X.1.1 X.1.2.1 d ht (fun h => kt h H locs la hl hP hS) (fun h => kf h H locs la hl hP hS)
theorem gx_if_ne (X : GC p s m args meth c cc nL own Ts A D cl ca ks ad) {x : Int32} {off : Int} {tgt : Nat} (d : decode cc pc = .ok (.ifCond .ne off, 3)) (ht : (pc : Int) + off = (tgt : Int)) (kt : ¬ x = 0 → GX p l e R s m args below meth c Q nL A D cl ca ks lay ad cells slots tgt ls st F L) (kf : x = 0 → GX p l e R s m args below meth c Q nL A D cl ca ks lay ad cells slots (pc + 3) ls st F L) : GX p l e R s m args below meth c Q nL A D cl ca ks lay ad cells slots pc ls (xI x :: st) F L := fun H locs la hl hP hS => lv_if_ne X.1.1 X.1.2.1 d ht (fun h => kt h H locs la hl hP hS) (fun h => kf h H locs la hl hP hS)
theorem gx_icmp_ne (X : GC p s m args meth c cc nL own Ts A D cl ca ks ad) {x y : Int32} {off : Int} {tgt : Nat} (d : decode cc pc = .ok (.if_icmp .ne off, 3)) (ht : (pc : Int) + off = (tgt : Int)) (kt : ¬ x = y → GX p l e R s m args below meth c Q nL A D cl ca ks lay ad cells slots tgt ls st F L) (kf : x = y → GX p l e R s m args below meth c Q nL A D cl ca ks lay ad cells slots (pc + 3) ls st F L) : GX p l e R s m args below meth c Q nL A D cl ca ks lay ad cells slots pc ls (xI y :: xI x :: st) F L := fun H locs la hl hP hS => lv_icmp_ne X.1.1 X.1.2.1 d ht (fun h => kt h H locs la hl hP hS) (fun h => kf h H locs la hl hP hS)
theorem gx_goto (X : GC p s m args meth c cc nL own Ts A D cl ca ks ad) {off : Int} {tgt : Nat} (d : decode cc pc = .ok (.goto off, 3)) (ht : (pc : Int) + off = (tgt : Int)) (k : GX p l e R s m args below meth c Q nL A D cl ca ks lay ad cells slots tgt ls st F L) : GX p l e R s m args below meth c Q nL A D cl ca ks lay ad cells slots pc ls st F L := fun H locs la hl hP hS => lv_goto X.1.1 X.1.2.1 d ht (k H locs la hl hP hS)
theorem gx_lookup (X : GC p s m args meth c cc nL own Ts A D cl ca ks ad) {dflt : Int} {ps : Array (Int × Int)} {len : Nat} {x : Int32} {off : Int} {tgt : Nat} (d : decode cc pc = .ok (.lookupswitch dflt ps, len)) (hp : (ps.toList.zip (ps.toList.drop 1)).all (fun (a, next) => a.1 < next.1) = true) (ho : Op.lookupswitch.offset ps.toList dflt x.toInt = off) (ht : (pc : Int) + off = (tgt : Int)) (k : GX p l e R s m args below meth c Q nL A D cl ca ks lay ad cells slots tgt ls st F L) : GX p l e R s m args below meth c Q nL A D cl ca ks lay ad cells slots pc ls (xI x :: st) F L := fun H locs la hl hP hS => lv_lookup X.1.1 X.1.2.1 d hp ho ht (k H locs la hl hP hS)
theorem gx_tableOut (X : GC p s m args meth c cc nL own Ts A D cl ca ks ad) {dflt lo hi : Int} {offs : Array Int} {len : Nat} {x : Int32} {tgt : Nat} (d : decode cc pc = .ok (.tableswitch dflt lo hi offs, len)) (h : x.toInt < lo ∨ hi < x.toInt) (ht : (pc : Int) + dflt = (tgt : Int)) (k : GX p l e R s m args below meth c Q nL A D cl ca ks lay ad cells slots tgt ls st F L) : GX p l e R s m args below meth c Q nL A D cl ca ks lay ad cells slots pc ls (xI x :: st) F L := fun H locs la hl hP hS => lv_tableOut X.1.1 X.1.2.1 d h ht (k H locs la hl hP hS)
theorem gx_tableIn (X : GC p s m args meth c cc nL own Ts A D cl ca ks ad) {dflt lo hi : Int} {offs : Array Int} {len : Nat} {x : Int32} {off : Int} {tgt : Nat} (d : decode cc pc = .ok (.tableswitch dflt lo hi offs, len)) (h1 : ¬ x.toInt < lo) (h2 : ¬ hi < x.toInt) (ho : offs[(x.toInt - lo).toNat]? = some off) (ht : (pc : Int) + off = (tgt : Int)) (k : GX p l e R s m args below meth c Q nL A D cl ca ks lay ad cells slots tgt ls st F L) : GX p l e R s m args below meth c Q nL A D cl ca ks lay ad cells slots pc ls (xI x :: st) F L := fun H locs la hl hP hS => lv_tableIn X.1.1 X.1.2.1 d h1 h2 ho ht (k H locs la hl hP hS)
theorem gx_top {x y : Int32} (h : x = y) (k : GX p l e R s m args below meth c Q nL A D cl ca ks lay ad cells slots pc ls (xI y :: st) F L) : GX p l e R s m args below meth c Q nL A D cl ca ks lay ad cells slots pc ls (xI x :: st) F L := by rw [h]; exact k
theorem gx_topl {x y : Int64} (h : x = y) (k : GX p l e R s m args below meth c Q nL A D cl ca ks lay ad cells slots pc ls (xL y :: st) F L) : GX p l e R s m args below meth c Q nL A D cl ca ks lay ad cells slots pc ls (xL x :: st) F L := by rw [h]; exact k
theorem gx_F {F2 : Nat → Nat → Int32} (h : F = F2) (k : GX p l e R s m args below meth c Q nL A D cl ca ks lay ad cells slots pc ls st F2 L) : GX p l e R s m args below meth c Q nL A D cl ca ks lay ad cells slots pc ls st F L := by rw [h]; exact k
theorem gx_iald (X : GC p s m args meth c cc nL own Ts A D cl ca ks ad) {k n j : Nat} {i : Int32} (d : decode cc pc = .ok (.iaload, 1)) (hk : k ∈ ks) (hlay : lay k = Sum.inr (Sum.inl (0, n))) (hi : i = nI j) (hj : j < n) (hn : n < 2 ^ 31) (kk : GX p l e R s m args below meth c Q nL A D cl ca ks lay ad cells slots (pc + 1) ls (xI (F k j) :: st) F L) : GX p l e R s m args below meth c Q nL A D cl ca ks lay ad cells slots pc ls (xI i :: xR k :: st) F L := by
  subst hi
  intro H locs la hl hP hS
  obtain ⟨q, hq⟩ := List.getElem?_of_mem hk
  have ha := gxw_at (lay := lay) (ca := ca) (ad := ad) (F := F) (L := L) hq
  rw [hlay] at ha
  have ha : (gxw ks lay ca ad F L)[q]? = some (ad k, .inl (ca 0, n, .inl (F k))) := ha
  refine va_iald X.1.1 X.1.2.1 X.2.1 hP q 0 ha rfl (vp_in_nI hj hn) d ?_
  rw [nI_clamp (Nat.lt_trans hj hn)]
  exact kk H locs la hl hP hS
theorem gx_cald (X : GC p s m args meth c cc nL own Ts A D cl ca ks ad) {k n j : Nat} {i : Int32} (d : decode cc pc = .ok (.caload, 1)) (hk : k ∈ ks) (hlay : lay k = Sum.inr (Sum.inl (2, n))) (hi : i = nI j) (hj : j < n) (hn : n < 2 ^ 31) (kk : GX p l e R s m args below meth c Q nL A D cl ca ks lay ad cells slots (pc + 1) ls (xI (F k j) :: st) F L) : GX p l e R s m args below meth c Q nL A D cl ca ks lay ad cells slots pc ls (xI i :: xR k :: st) F L := by
  subst hi
  intro H locs la hl hP hS
  obtain ⟨q, hq⟩ := List.getElem?_of_mem hk
  have ha := gxw_at (lay := lay) (ca := ca) (ad := ad) (F := F) (L := L) hq
  rw [hlay] at ha
  have ha : (gxw ks lay ca ad F L)[q]? = some (ad k, .inl (ca 2, n, .inl (F k))) := ha
  refine va_cald X.1.1 X.1.2.1 X.2.1 hP q 2 ha rfl (vp_in_nI hj hn) d ?_
  rw [nI_clamp (Nat.lt_trans hj hn)]
  exact kk H locs la hl hP hS
theorem gx_bald (X : GC p s m args meth c cc nL own Ts A D cl ca ks ad) {k n j : Nat} {i : Int32} (d : decode cc pc = .ok (.baload, 1)) (hk : k ∈ ks) (hlay : lay k = Sum.inr (Sum.inl (3, n))) (hi : i = nI j) (hj : j < n) (hn : n < 2 ^ 31) (kk : GX p l e R s m args below meth c Q nL A D cl ca ks lay ad cells slots (pc + 1) ls (xI (F k j) :: st) F L) : GX p l e R s m args below meth c Q nL A D cl ca ks lay ad cells slots pc ls (xI i :: xR k :: st) F L := by
  subst hi
  intro H locs la hl hP hS
  obtain ⟨q, hq⟩ := List.getElem?_of_mem hk
  have ha := gxw_at (lay := lay) (ca := ca) (ad := ad) (F := F) (L := L) hq
  rw [hlay] at ha
  have ha : (gxw ks lay ca ad F L)[q]? = some (ad k, .inl (ca 3, n, .inl (F k))) := ha
  refine va_bald X.1.1 X.1.2.1 X.2.1 hP q 3 ha rfl (vp_in_nI hj hn) d ?_
  rw [nI_clamp (Nat.lt_trans hj hn)]
  exact kk H locs la hl hP hS
theorem gx_zald (X : GC p s m args meth c cc nL own Ts A D cl ca ks ad) {k n j : Nat} {i : Int32} (d : decode cc pc = .ok (.baload, 1)) (hk : k ∈ ks) (hlay : lay k = Sum.inr (Sum.inl (4, n))) (hi : i = nI j) (hj : j < n) (hn : n < 2 ^ 31) (kk : GX p l e R s m args below meth c Q nL A D cl ca ks lay ad cells slots (pc + 1) ls (xI (F k j) :: st) F L) : GX p l e R s m args below meth c Q nL A D cl ca ks lay ad cells slots pc ls (xI i :: xR k :: st) F L := by
  subst hi
  intro H locs la hl hP hS
  obtain ⟨q, hq⟩ := List.getElem?_of_mem hk
  have ha := gxw_at (lay := lay) (ca := ca) (ad := ad) (F := F) (L := L) hq
  rw [hlay] at ha
  have ha : (gxw ks lay ca ad F L)[q]? = some (ad k, .inl (ca 4, n, .inl (F k))) := ha
  refine va_zald X.1.1 X.1.2.1 X.2.1 hP q 4 ha rfl (vp_in_nI hj hn) d ?_
  rw [nI_clamp (Nat.lt_trans hj hn)]
  exact kk H locs la hl hP hS
theorem gx_lald (X : GC p s m args meth c cc nL own Ts A D cl ca ks ad) {k n j : Nat} {i : Int32} (d : decode cc pc = .ok (.laload, 1)) (hk : k ∈ ks) (hlay : lay k = Sum.inr (Sum.inr (Sum.inl n))) (hi : i = nI j) (hj : j < n) (hn : n < 2 ^ 31) (kk : GX p l e R s m args below meth c Q nL A D cl ca ks lay ad cells slots (pc + 1) ls (xL (L k j) :: st) F L) : GX p l e R s m args below meth c Q nL A D cl ca ks lay ad cells slots pc ls (xI i :: xR k :: st) F L := by
  subst hi
  intro H locs la hl hP hS
  obtain ⟨q, hq⟩ := List.getElem?_of_mem hk
  have ha := gxw_at (lay := lay) (ca := ca) (ad := ad) (F := F) (L := L) hq
  rw [hlay] at ha
  have ha : (gxw ks lay ca ad F L)[q]? = some (ad k, .inl (ca 1, n, .inr (.inl (L k)))) := ha
  refine va_lald X.1.1 X.1.2.1 X.2.1 hP q 1 ha rfl (vp_in_nI hj hn) d ?_
  rw [nI_clamp (Nat.lt_trans hj hn)]
  exact kk H locs la hl hP hS
theorem gx_aald (X : GC p s m args meth c cc nL own Ts A D cl ca ks ad) {k n j : Nat} {τ : Nat} {ty : FieldType} {g : Nat → Nat} {i : Int32} (d : decode cc pc = .ok (.aaload, 1)) (hk : k ∈ ks) (hlay : lay k = Sum.inr (Sum.inr (Sum.inr (τ, n, g)))) (hτ : (gxT ca)[τ]? = some (ca τ, ty)) (hty : ty.isReference = true) (hi : i = nI j) (hj : j < n) (hn : n < 2 ^ 31) (kk : GX p l e R s m args below meth c Q nL A D cl ca ks lay ad cells slots (pc + 1) ls (xR (g j) :: st) F L) : GX p l e R s m args below meth c Q nL A D cl ca ks lay ad cells slots pc ls (xI i :: xR k :: st) F L := by
  subst hi
  intro H locs la hl hP hS
  obtain ⟨q, hq⟩ := List.getElem?_of_mem hk
  have ha := gxw_at (lay := lay) (ca := ca) (ad := ad) (F := F) (L := L) hq
  rw [hlay] at ha
  have ha : (gxw ks lay ca ad F L)[q]? = some (ad k, .inl (ca τ, n, .inr (.inr (.inr (.inr (fun j => some (ad (g j)))))))) := ha
  have hin := vp_in_nI hj hn
  have hc := nI_clamp (Nat.lt_trans hj hn)
  have hcell := hP q _ ha
  refine W.aald (v := .ref (ad (g j))) (ty := ty) X.1.1 X.1.2.1 hcell ((X.2.1.2 τ _ hτ).1 n (fun j => va_rf (some (ad (g j))))) hty (fun q => by cases q) (by show ¬ (nI j < 0 ∨ (arrV _ _ _).slots.size ≤ _); rw [arrV_size]; exact hin) (by show (arrV _ _ _).slots[_]? = _; rw [hc, arrV_read _ _ hj]; rfl) rfl rfl d ?_
  exact kk H locs la hl hP hS
theorem gx_iast (X : GC p s m args meth c cc nL own Ts A D cl ca ks ad) {k n j : Nat} {i : Int32} {x : Int32} (d : decode cc pc = .ok (.iastore, 1)) (hk : k ∈ ks) (hlay : lay k = Sum.inr (Sum.inl (0, n))) (hi : i = nI j) (hj : j < n) (hn : n < 2 ^ 31) (kk : GX p l e R s m args below meth c Q nL A D cl ca ks lay ad cells slots (pc + 1) ls st (gxu F k j x) L) : GX p l e R s m args below meth c Q nL A D cl ca ks lay ad cells slots pc ls (xI x :: xI i :: xR k :: st) F L := by
  subst hi
  intro H locs la hl hP hS
  obtain ⟨q, hq⟩ := List.getElem?_of_mem hk
  have ha := gxw_at (lay := lay) (ca := ca) (ad := ad) (F := F) (L := L) hq
  rw [hlay] at ha
  have ha : (gxw ks lay ca ad F L)[q]? = some (ad k, .inl (ca 0, n, .inl (F k))) := ha
  refine va_iast X.1.1 X.1.2.1 X.2.1 hP (X.2.2.1.D) hS q 0 ha rfl (vp_in_nI hj hn) d (fun H1 locs1 hP1 _ hS1 => ?_)
  rw [nI_clamp (Nat.lt_trans hj hn)] at hP1
  have e := gxw_set (lay := lay) (ca := ca) (F := F) (F' := gxu F k j x) (L := L) (L' := L) X.2.2.1 hq (fun a h => gxu_cell h) (fun _ _ => rfl)
  rw [hlay] at e
  have e2 : gxc ca ad (gxu F k j x) L k (Sum.inr (Sum.inl (0, n))) = .inl (ca 0, n, .inl (upd (F k) j x)) := by
    show (Sum.inl (ca 0, n, Sum.inl (gxu F k j x k)) : va_E) = _
    rw [gxu_in]
  rw [e2] at e
  rw [e] at hP1
  exact kk H1 locs1 la hl hP1 hS1
theorem gx_cast (X : GC p s m args meth c cc nL own Ts A D cl ca ks ad) {k n j : Nat} {i : Int32} {x v : Int32} (d : decode cc pc = .ok (.castore, 1)) (hk : k ∈ ks) (hlay : lay k = Sum.inr (Sum.inl (2, n))) (hi : i = nI j) (hj : j < n) (hn : n < 2 ^ 31) (hv : vp_nar .char x = v) (kk : GX p l e R s m args below meth c Q nL A D cl ca ks lay ad cells slots (pc + 1) ls st (gxu F k j v) L) : GX p l e R s m args below meth c Q nL A D cl ca ks lay ad cells slots pc ls (xI x :: xI i :: xR k :: st) F L := by
  subst hi
  intro H locs la hl hP hS
  obtain ⟨q, hq⟩ := List.getElem?_of_mem hk
  have ha := gxw_at (lay := lay) (ca := ca) (ad := ad) (F := F) (L := L) hq
  rw [hlay] at ha
  have ha : (gxw ks lay ca ad F L)[q]? = some (ad k, .inl (ca 2, n, .inl (F k))) := ha
  refine va_cast X.1.1 X.1.2.1 X.2.1 hP (X.2.2.1.D) hS q 2 ha rfl (vp_in_nI hj hn) d (fun H1 locs1 hP1 _ hS1 => ?_)
  rw [nI_clamp (Nat.lt_trans hj hn), hv] at hP1
  have e := gxw_set (lay := lay) (ca := ca) (F := F) (F' := gxu F k j v) (L := L) (L' := L) X.2.2.1 hq (fun a h => gxu_cell h) (fun _ _ => rfl)
  rw [hlay] at e
  have e2 : gxc ca ad (gxu F k j v) L k (Sum.inr (Sum.inl (2, n))) = .inl (ca 2, n, .inl (upd (F k) j v)) := by
    show (Sum.inl (ca 2, n, Sum.inl (gxu F k j v k)) : va_E) = _
    rw [gxu_in]
  rw [e2] at e
  rw [e] at hP1
  exact kk H1 locs1 la hl hP1 hS1
theorem gx_bast (X : GC p s m args meth c cc nL own Ts A D cl ca ks ad) {k n j : Nat} {i : Int32} {x v : Int32} (d : decode cc pc = .ok (.bastore, 1)) (hk : k ∈ ks) (hlay : lay k = Sum.inr (Sum.inl (3, n))) (hi : i = nI j) (hj : j < n) (hn : n < 2 ^ 31) (hv : vp_nar .byte x = v) (kk : GX p l e R s m args below meth c Q nL A D cl ca ks lay ad cells slots (pc + 1) ls st (gxu F k j v) L) : GX p l e R s m args below meth c Q nL A D cl ca ks lay ad cells slots pc ls (xI x :: xI i :: xR k :: st) F L := by
  subst hi
  intro H locs la hl hP hS
  obtain ⟨q, hq⟩ := List.getElem?_of_mem hk
  have ha := gxw_at (lay := lay) (ca := ca) (ad := ad) (F := F) (L := L) hq
  rw [hlay] at ha
  have ha : (gxw ks lay ca ad F L)[q]? = some (ad k, .inl (ca 3, n, .inl (F k))) := ha
  refine va_bast X.1.1 X.1.2.1 X.2.1 hP (X.2.2.1.D) hS q 3 ha rfl (vp_in_nI hj hn) d (fun H1 locs1 hP1 _ hS1 => ?_)
  rw [nI_clamp (Nat.lt_trans hj hn), hv] at hP1
  have e := gxw_set (lay := lay) (ca := ca) (F := F) (F' := gxu F k j v) (L := L) (L' := L) X.2.2.1 hq (fun a h => gxu_cell h) (fun _ _ => rfl)
  rw [hlay] at e
  have e2 : gxc ca ad (gxu F k j v) L k (Sum.inr (Sum.inl (3, n))) = .inl (ca 3, n, .inl (upd (F k) j v)) := by
    show (Sum.inl (ca 3, n, Sum.inl (gxu F k j v k)) : va_E) = _
    rw [gxu_in]
  rw [e2] at e
  rw [e] at hP1
  exact kk H1 locs1 la hl hP1 hS1
theorem gx_zast (X : GC p s m args meth c cc nL own Ts A D cl ca ks ad) {k n j : Nat} {i : Int32} {x v : Int32} (d : decode cc pc = .ok (.bastore, 1)) (hk : k ∈ ks) (hlay : lay k = Sum.inr (Sum.inl (4, n))) (hi : i = nI j) (hj : j < n) (hn : n < 2 ^ 31) (hv : vp_nar .boolean x = v) (kk : GX p l e R s m args below meth c Q nL A D cl ca ks lay ad cells slots (pc + 1) ls st (gxu F k j v) L) : GX p l e R s m args below meth c Q nL A D cl ca ks lay ad cells slots pc ls (xI x :: xI i :: xR k :: st) F L := by
  subst hi
  intro H locs la hl hP hS
  obtain ⟨q, hq⟩ := List.getElem?_of_mem hk
  have ha := gxw_at (lay := lay) (ca := ca) (ad := ad) (F := F) (L := L) hq
  rw [hlay] at ha
  have ha : (gxw ks lay ca ad F L)[q]? = some (ad k, .inl (ca 4, n, .inl (F k))) := ha
  refine va_zast X.1.1 X.1.2.1 X.2.1 hP (X.2.2.1.D) hS q 4 ha rfl (vp_in_nI hj hn) d (fun H1 locs1 hP1 _ hS1 => ?_)
  rw [nI_clamp (Nat.lt_trans hj hn), hv] at hP1
  have e := gxw_set (lay := lay) (ca := ca) (F := F) (F' := gxu F k j v) (L := L) (L' := L) X.2.2.1 hq (fun a h => gxu_cell h) (fun _ _ => rfl)
  rw [hlay] at e
  have e2 : gxc ca ad (gxu F k j v) L k (Sum.inr (Sum.inl (4, n))) = .inl (ca 4, n, .inl (upd (F k) j v)) := by
    show (Sum.inl (ca 4, n, Sum.inl (gxu F k j v k)) : va_E) = _
    rw [gxu_in]
  rw [e2] at e
  rw [e] at hP1
  exact kk H1 locs1 la hl hP1 hS1
theorem gx_last (X : GC p s m args meth c cc nL own Ts A D cl ca ks ad) {k n j : Nat} {i : Int32} {x : Int64} (d : decode cc pc = .ok (.lastore, 1)) (hk : k ∈ ks) (hlay : lay k = Sum.inr (Sum.inr (Sum.inl n))) (hi : i = nI j) (hj : j < n) (hn : n < 2 ^ 31) (kk : GX p l e R s m args below meth c Q nL A D cl ca ks lay ad cells slots (pc + 1) ls st F (gxU L k j x)) : GX p l e R s m args below meth c Q nL A D cl ca ks lay ad cells slots pc ls (xL x :: xI i :: xR k :: st) F L := by
  subst hi
  intro H locs la hl hP hS
  obtain ⟨q, hq⟩ := List.getElem?_of_mem hk
  have ha := gxw_at (lay := lay) (ca := ca) (ad := ad) (F := F) (L := L) hq
  rw [hlay] at ha
  have ha : (gxw ks lay ca ad F L)[q]? = some (ad k, .inl (ca 1, n, .inr (.inl (L k)))) := ha
  refine va_last X.1.1 X.1.2.1 X.2.1 hP (X.2.2.1.D) hS q 1 ha rfl (vp_in_nI hj hn) d (fun H1 locs1 hP1 _ hS1 => ?_)
  rw [nI_clamp (Nat.lt_trans hj hn)] at hP1
  have e := gxw_set (lay := lay) (ca := ca) (F := F) (F' := F) (L := L) (L' := gxU L k j x) X.2.2.1 hq (fun _ _ => rfl) (fun a h => gxU_cell h)
  rw [hlay] at e
  have e2 : gxc ca ad F (gxU L k j x) k (Sum.inr (Sum.inr (Sum.inl n))) = .inl (ca 1, n, .inr (.inl (vp_updL (L k) j x))) := by
    show (Sum.inl (ca 1, n, Sum.inr (Sum.inl (gxU L k j x k))) : va_E) = _
    rw [gxU_in]
  rw [e2] at e
  rw [e] at hP1
  exact kk H1 locs1 la hl hP1 hS1
theorem gx_alen (X : GC p s m args meth c cc nL own Ts A D cl ca ks ad) {k : Nat} {τ n : Nat} {ty : FieldType} {x : vp_A} {v : Int32} (d : decode cc pc = .ok (.arraylength, 1)) (hk : k ∈ ks) (hlay : gxc ca ad F L k (lay k) = .inl (ca τ, x)) (hx : x.1 = n) (hτ : (gxT ca)[τ]? = some (ca τ, ty)) (hv : Int32.ofNat n = v) (kk : GX p l e R s m args below meth c Q nL A D cl ca ks lay ad cells slots (pc + 1) ls (xI v :: st) F L) : GX p l e R s m args below meth c Q nL A D cl ca ks lay ad cells slots pc ls (xR k :: st) F L := by
  subst hx
  intro H locs la hl hP hS
  obtain ⟨q, hq⟩ := List.getElem?_of_mem hk
  have ha := gxw_at (lay := lay) (ca := ca) (ad := ad) (F := F) (L := L) hq
  rw [hlay] at ha
  exact va_alen X.1.1 X.1.2.1 X.2.1 hP q τ ha hτ hv d (kk H locs la hl hP hS)
theorem gx_geti (X : GC p s m args meth c cc nL own Ts A D cl ca ks ad) {C ref : String} {T : u_T} {N ci index : Nat} {fs : List (Option Nat)} {k : Nat} (d : decode cc pc = .ok (.getfield index, 3)) (hin : ∀ w ∈ u_ws C T N, w ∈ Ts) (hk : k ∈ ks) (hlay : lay k = Sum.inl (ci, fs)) (hc : cl[ci]? = some (C, T, N)) (j : Nat) (hj : j < N) (hlink : (Cond.fieldLink own index ref (T j).2.1 (T j).2.2.1).before args s = true) (hsame : ∀ x, s.fieldFound? (T j).1 (T j).2.1 (T j).2.2.1 = some x → s.fieldFound? ref (T j).2.1 (T j).2.2.1 = some x) (hf : fs[j]? = some none) (kk : GX p l e R s m args below meth c Q nL A D cl ca ks lay ad cells slots (pc + 3) ls (xI (F k j) :: st) F L) : GX p l e R s m args below meth c Q nL A D cl ca ks lay ad cells slots pc ls (xR k :: st) F L := by
  intro H locs la hl hP hS
  obtain ⟨q, hq⟩ := List.getElem?_of_mem hk
  have ha := gxw_at (lay := lay) (ca := ca) (ad := ad) (F := F) (L := L) hq
  rw [hlay] at ha
  have ha : (gxw ks lay ca ad F L)[q]? = some (ad k, .inr (ci, gxfl ad (F k) 0 fs)) := ha
  have hv := gxfl_i ad (F k) fs 0 j hf
  rw [Nat.zero_add] at hv
  exact va_get X.1.1 X.1.2.1 X.1.2.2.2.2 hin X.1.2.2.2.1 X.2.1 hP q ha hc j hj hlink hsame hv d (kk H locs la hl hP hS)
theorem gx_getr (X : GC p s m args meth c cc nL own Ts A D cl ca ks ad) {C ref : String} {T : u_T} {N ci index : Nat} {fs : List (Option Nat)} {k : Nat} {k2 : Nat} (d : decode cc pc = .ok (.getfield index, 3)) (hin : ∀ w ∈ u_ws C T N, w ∈ Ts) (hk : k ∈ ks) (hlay : lay k = Sum.inl (ci, fs)) (hc : cl[ci]? = some (C, T, N)) (j : Nat) (hj : j < N) (hlink : (Cond.fieldLink own index ref (T j).2.1 (T j).2.2.1).before args s = true) (hsame : ∀ x, s.fieldFound? (T j).1 (T j).2.1 (T j).2.2.1 = some x → s.fieldFound? ref (T j).2.1 (T j).2.2.1 = some x) (hf : fs[j]? = some (some k2)) (kk : GX p l e R s m args below meth c Q nL A D cl ca ks lay ad cells slots (pc + 3) ls (xR k2 :: st) F L) : GX p l e R s m args below meth c Q nL A D cl ca ks lay ad cells slots pc ls (xR k :: st) F L := by
  intro H locs la hl hP hS
  obtain ⟨q, hq⟩ := List.getElem?_of_mem hk
  have ha := gxw_at (lay := lay) (ca := ca) (ad := ad) (F := F) (L := L) hq
  rw [hlay] at ha
  have ha : (gxw ks lay ca ad F L)[q]? = some (ad k, .inr (ci, gxfl ad (F k) 0 fs)) := ha
  exact va_get X.1.1 X.1.2.1 X.1.2.2.2.2 hin X.1.2.2.2.1 X.2.1 hP q ha hc j hj hlink hsame (gxfl_r ad (F k) fs 0 j k2 hf) d (kk H locs la hl hP hS)
theorem gx_puti (X : GC p s m args meth c cc nL own Ts A D cl ca ks ad) {C ref : String} {T : u_T} {N ci index : Nat} {fs : List (Option Nat)} {k : Nat} {ty : FieldType} {v : Int32} (d : decode cc pc = .ok (.putfield index, 3)) (hin : ∀ w ∈ u_ws C T N, w ∈ Ts) (hk : k ∈ ks) (hlay : lay k = Sum.inl (ci, fs)) (hc : cl[ci]? = some (C, T, N)) (j : Nat) (hj : j < N) (hlink : (Cond.fieldLink own index ref (T j).2.1 (T j).2.2.1).before args s = true) (hsame : ∀ x, s.fieldFound? (T j).1 (T j).2.1 (T j).2.2.1 = some x → s.fieldFound? ref (T j).2.1 (T j).2.2.1 = some x) (ty0 : Nat → FieldType) (hty : ∀ k, k < N → parseFieldDescriptor (T k).2.2.1 = some (ty0 k)) (hnm : ∀ a, a < N → ∀ b, b < N → a ≠ b → (T a).2.1 ≠ (T b).2.1) (hfin : (T j).2.2.2 = false) (hd : parseFieldDescriptor (T j).2.2.1 = some ty) (hn : narrow ty (.int v) = .int v) (hfit : fits ty (.int v) = true) (hf : fs[j]? = some none) (kk : GX p l e R s m args below meth c Q nL A D cl ca ks lay ad cells slots (pc + 3) ls st (gxu F k j v) L) : GX p l e R s m args below meth c Q nL A D cl ca ks lay ad cells slots pc ls (xI v :: xR k :: st) F L := by
  intro H locs la hl hP hS
  obtain ⟨q, hq⟩ := List.getElem?_of_mem hk
  have ha := gxw_at (lay := lay) (ca := ca) (ad := ad) (F := F) (L := L) hq
  rw [hlay] at ha
  have ha : (gxw ks lay ca ad F L)[q]? = some (ad k, .inr (ci, gxfl ad (F k) 0 fs)) := ha
  have hlt : j < (gxfl ad (F k) 0 fs).length := by rw [gxfl_len]; exact (List.getElem?_eq_some_iff.mp hf).1
  refine va_put (v := .int v) X.1.1 X.1.2.1 X.1.2.2.2.2 hin ty0 hty hnm X.1.2.2.2.1 X.2.1 hP (X.2.2.1.D) hS q ha hc j hj hlink hsame hfin hd hn hfit hlt d (fun H1 locs1 hP1 _ hS1 => ?_)
  have e := gxw_set (lay := lay) (ca := ca) (F := F) (F' := gxu F k j v) (L := L) (L' := L) X.2.2.1 hq (fun a h => gxu_cell h) (fun _ _ => rfl)
  rw [hlay] at e
  have e2 : gxc ca ad (gxu F k j v) L k (Sum.inl (ci, fs)) = .inr (ci, (gxfl ad (F k) 0 fs).set j (.int v)) := by
    show (Sum.inr (ci, gxfl ad (gxu F k j v k) 0 fs) : va_E) = _
    rw [gxu_in, gxfl_set ad (F k) v fs 0 j hf, Nat.zero_add]
  rw [e2] at e
  rw [e] at hP1
  exact kk H1 locs1 la hl hP1 hS1
end GXS
/-! contracts over worlds: any caller, the whole world goes in and comes back -/
def gxA (ks : List Nat) (ad : Nat → Nat) (sz : Nat) : Nat → Prop := fun q => (∃ k, k ∈ ks ∧ q = ad k) ∨ sz ≤ q
def gxP (D : va_G) (cl : List vw_C) (ca : Nat → ClassId) (ks : List Nat) (lay : Nat → gxE) (ad : Nat → Nat) (sz : Nat) (F : Nat → Nat → Int32) (L : Nat → Nat → Int64) (U : State) : Prop :=
  U.heap.size = sz ∧ va_P D cl (gxw ks lay ca ad F L) U.heap ∧ va_K D cl (gxT ca) U ∧ gxD (fun _ => True) ks ad
def gxQ (D : va_G) (cl : List vw_C) (ca : Nat → ClassId) (ks : List Nat) (lay : Nat → gxE) (ad : Nat → Nat) (sz : Nat) (post : Option xV → (Nat → Nat → Int32) → (Nat → Nat → Int64) → Prop) : Array Value → State → Outcome → State → Prop := fun _ st oc t =>
  (∃ (r : Option xV) (F' : Nat → Nat → Int32) (L' : Nat → Nat → Int64), oc = .returned (r.map (gxv ad)) ∧ post r F' L' ∧ va_P D cl (gxw ks lay ca ad F' L') t.heap) ∧ va_F (gxA ks ad sz) st t
def Con (l : Launch) (y : MethodName) (ws : List Cond) (rm : Room) (D : va_G) (cl : List vw_C) (ca : Nat → ClassId) (ks : List Nat) (lay : Nat → gxE) (ad : Nat → Nat) (av : List xV) (F : Nat → Nat → Int32) (L : Nat → Nat → Int64) (post : Option xV → (Nat → Nat → Int32) → (Nat → Nat → Int64) → Prop) : Prop :=
  ∀ sz : Nat, Met l y ws rm (va_Pc (av.map (gxv ad)) (gxP D cl ca ks lay ad sz F L)) (gxQ D cl ca ks lay ad sz post) 0 0 (gxA ks ad sz)
def gxargs : Nat → List xV → List (Nat × xV)
  | _, [] => []
  | i, v :: r => (i, v) :: gxargs (cond (gxis v) (i + 2) (i + 1)) r
theorem gxlk_mem : ∀ {ls : List (Nat × xV)} {i : Nat} {v : xV}, gxlk ls i = some v → (i, v) ∈ ls
  | [], _, _, h => by simp [gxlk] at h
  | (j, w) :: r, i, v, h => by
    rcases gxlk_cons h with ⟨rfl, rfl⟩ | ⟨-, h2, -, -⟩
    · exact List.mem_cons_self
    · exact List.mem_cons_of_mem _ (gxlk_mem h2)
theorem gxargs_mem (ad : Nat → Nat) : ∀ (av : List xV) (i j : Nat) (v : xV), (j, v) ∈ gxargs i av → (j, gxv ad v) ∈ lv_args i (av.map (gxv ad))
  | [], _, _, _, h => by simp [gxargs] at h
  | w :: r, i, j, v, h => by
    simp only [gxargs, List.mem_cons] at h
    rcases h with h | h
    · cases h
      simp [lv_args]
    · have := gxargs_mem ad r _ j v h
      have e : (if (gxv ad w).category = 2 then i + 2 else i + 1) = cond (gxis w) (i + 2) (i + 1) := by
        rw [gxv_cat]
        cases gxis w <;> rfl
      simp only [List.map_cons, lv_args, List.mem_cons, e]
      exact Or.inr this
theorem gxhas_entry {la : Array Slot} {n : Nat} {ad : Nat → Nat} {av : List xV} (h : lv_has la n (lv_args 0 (av.map (gxv ad)))) : gxhas la n (gxargs 0 av) ad :=
  ⟨h.1, h.2.1, fun i v hi => h.2.2 _ (gxargs_mem ad av 0 i v (gxlk_mem hi))⟩
theorem gxD.self {A : Nat → Prop} {ks : List Nat} {ad : Nat → Nat} {sz : Nat} (h : gxD A ks ad) : gxD (gxA ks ad sz) ks ad := ⟨h.1, fun k hk => Or.inl ⟨k, hk, rfl⟩⟩
theorem Con.of {l : Launch} {y : MethodName} {ws ws' : List Cond} {rm : Room} {D : va_G} {cl : List vw_C} {ca : Nat → ClassId} {ks : List Nat} {lay : Nat → gxE} {ad : Nat → Nat} {av : List xV} {F : Nat → Nat → Int32} {L : Nat → Nat → Int64} {post : Option xV → (Nat → Nat → Int32) → (Nat → Nat → Int64) → Prop} {cc : ByteArray} {nL : Nat} {ret : Option FieldType} {ls : List (Nat × xV)}
    (hy : plainName y.cls = true) (hw : ws = Cond.code y cc nL ret :: ws') (hls : gxargs 0 av = ls) (hlen : (lg_sl (av.map (gxv (fun _ => 0)))).length ≤ nL)
    (body : ∀ (p : Program) (e : Env) (s : State) (m : MethodId) (args : Array Value) (below : List Frame) (meth : Method) (c : Code) (A : Nat → Prop), GC p s m args meth c cc nL y.cls ws A D cl ca ks ad → meth.sig.returnType = ret → (∀ q, A q → gxA ks ad s.heap.size q) →
      GX p l e rm s m args below meth c (MQ below (gxQ D cl ca ks lay ad s.heap.size post) args s 0 0 (gxA ks ad s.heap.size)) nL A D cl ca ks lay ad 0 0 0 ls [] F L) : Con l y ws rm D cl ca ks lay ad av F L post := by
  intro sz
  refine Met.ofW (cc := cc) (maxL := nL) (ret := ret) hy hw ?_
  intro p e s m args below meth c s₁ B hml hv
  obtain ⟨rfl, hsz, hP, hK, hD0⟩ := hv
  have hts := atoms_spec (ws := ws) B.pre
  have hown : s.vm.findClass y.cls = some m.cls := findClass_of_methodNamed B.named
  subst hsz
  have hX : GC p s m (av.map (gxv ad)).toArray meth c cc nL y.cls ws (gxA ks ad s.heap.size) D cl ca ks ad := ⟨⟨B.exec, B.bytes, hml, hown, hts⟩, hK, hD0.self, fun q h => Or.inr h, B.notSynchronized⟩
  have hlen2 : (lg_sl (av.map (gxv ad))).length ≤ nL := by
    have e : ∀ l : List xV, (lg_sl (l.map (gxv ad))).length = (lg_sl (l.map (gxv (fun _ => 0)))).length := by
      intro l
      induction l with
      | nil => rfl
      | cons v r ih =>
        simp only [lg_sl, List.map_cons, List.flatMap_cons, List.length_append] at ih ⊢
        rw [ih, gxv_cat, gxv_cat]
        cases gxis v <;> rfl
    rw [e]
    exact hlen
  have hl := gxhas_entry (lv_entry (av.map (gxv ad)) (n := nL) hlen2)
  rw [lg_entry_eq]
  rw [hls] at hl
  exact body p e s m _ below meth c (gxA ks ad s.heap.size) hX B.returns (fun _ h => h) s.heap [] _ hl hP va_S.rf
section GXR
variable {p : Program} {l : Launch} {e : Env} {R : Room} {s : State} {m : MethodId} {args : Array Value} {below : List Frame} {meth : Method} {c : Code} {Q : State → Prop} {nL cells slots pc : Nat} {A : Nat → Prop} {D : va_G} {cl : List vw_C} {ca : Nat → ClassId} {ks : List Nat} {lay : Nat → gxE} {ad : Nat → Nat}
variable {ls : List (Nat × xV)} {st : List xV} {F : Nat → Nat → Int32} {L : Nat → Nat → Int64} {cc : ByteArray} {own : String} {Ts : List Cond} {post : Option xV → (Nat → Nat → Int32) → (Nat → Nat → Int64) → Prop}
theorem gx_vret (X : GC p s m args meth c cc nL own Ts A D cl ca ks ad) (hr : meth.sig.returnType = none) (hA : ∀ q, A q → gxA ks ad s.heap.size q) (d : decode cc pc = .ok (.return_, 1)) (hp : post none F L) : GX p l e R s m args below meth c (MQ below (gxQ D cl ca ks lay ad s.heap.size post) args s 0 0 (gxA ks ad s.heap.size)) nL A D cl ca ks lay ad 0 0 pc ls [] F L := fun H locs la hl hP hS =>
  W.vret X.1.1 X.1.2.1 hr (fun t ht hW => ⟨⟨none, F, L, rfl, hp, by rw [ht]; exact hP⟩, by rw [ht]; exact hS.1, fun q h1 h2 => by rw [ht]; exact hS.2.1 q h1 (fun z => h2 (hA q z))⟩) (fun q hq => hA _ (hS.2.2 q hq)) d X.2.2.2.2
theorem gx_iret (X : GC p s m args meth c cc nL own Ts A D cl ca ks ad) {v : Int32} (hr : meth.sig.returnType = some .int) (hA : ∀ q, A q → gxA ks ad s.heap.size q) (d : decode cc pc = .ok (.ireturn, 1)) (hp : post (some (xI v)) F L) : GX p l e R s m args below meth c (MQ below (gxQ D cl ca ks lay ad s.heap.size post) args s 0 0 (gxA ks ad s.heap.size)) nL A D cl ca ks lay ad 0 0 pc ls [xI v] F L := fun H locs la hl hP hS =>
  W.iret X.1.1 X.1.2.1 hr (fun t ht hW => ⟨⟨(some (xI v)), F, L, rfl, hp, by rw [ht]; exact hP⟩, by rw [ht]; exact hS.1, fun q h1 h2 => by rw [ht]; exact hS.2.1 q h1 (fun z => h2 (hA q z))⟩) (fun q hq => hA _ (hS.2.2 q hq)) d X.2.2.2.2
theorem gx_lret (X : GC p s m args meth c cc nL own Ts A D cl ca ks ad) {v : Int64} (hr : meth.sig.returnType = some .long) (hA : ∀ q, A q → gxA ks ad s.heap.size q) (d : decode cc pc = .ok (.lreturn, 1)) (hp : post (some (xL v)) F L) : GX p l e R s m args below meth c (MQ below (gxQ D cl ca ks lay ad s.heap.size post) args s 0 0 (gxA ks ad s.heap.size)) nL A D cl ca ks lay ad 0 0 pc ls [xL v] F L := fun H locs la hl hP hS =>
  W.lret X.1.1 X.1.2.1 hr (fun t ht hW => ⟨⟨(some (xL v)), F, L, rfl, hp, by rw [ht]; exact hP⟩, by rw [ht]; exact hS.1, fun q h1 h2 => by rw [ht]; exact hS.2.1 q h1 (fun z => h2 (hA q z))⟩) (fun q hq => hA _ (hS.2.2 q hq)) d X.2.2.2.2
theorem gx_zret (X : GC p s m args meth c cc nL own Ts A D cl ca ks ad) {v : Int32} {ty : FieldType} (hr : meth.sig.returnType = some ty) (hn : narrow ty (.int v) = .int v) (hA : ∀ q, A q → gxA ks ad s.heap.size q) (d : decode cc pc = .ok (.ireturn, 1)) (hp : post (some (xI v)) F L) : GX p l e R s m args below meth c (MQ below (gxQ D cl ca ks lay ad s.heap.size post) args s 0 0 (gxA ks ad s.heap.size)) nL A D cl ca ks lay ad 0 0 pc ls [xI v] F L := fun H locs la hl hP hS =>
  W.zret X.1.1 X.1.2.1 hr hn (fun t ht hW => ⟨⟨some (xI v), F, L, rfl, hp, by rw [ht]; exact hP⟩, by rw [ht]; exact hS.1, fun q h1 h2 => by rw [ht]; exact hS.2.1 q h1 (fun z => h2 (hA q z))⟩) (fun q hq => hA _ (hS.2.2 q hq)) d X.2.2.2.2
/-- a call that has come back: the world with its new contents, the answer on the stack -/
theorem gx_go (X : GC p s m args meth c cc nL own Ts A D cl ca ks ad) {a : Array Value} {st0 rest : List xV} (hr : ∀ (H : Heap) (locs : List Loc) (la : Array Slot), la.size = nL → va_P D cl (gxw ks lay ca ad F L) H → va_Run p l e R s m args below meth c H locs cells slots 0 0 (F0 m pc la (st0.map (gxv ad))) (rest.map (gxv ad)) (gxQ D cl ca ks lay ad H.size post a) (gxA ks ad H.size))
    (kk : ∀ (r : Option xV) (F' : Nat → Nat → Int32) (L' : Nat → Nat → Int64), post r F' L' → GX p l e R s m args below meth c Q nL A D cl ca ks lay ad cells slots (pc + 3) ls (r.toList ++ rest) F' L') : GX p l e R s m args below meth c Q nL A D cl ca ks lay ad cells slots pc ls st0 F L := by
  intro H locs la hl hP hS T hT Z
  obtain ⟨v, st₀, t, T', L2, h0, Z', hL, e1, e2, ⟨⟨r, F', L', hv, hp, hP'⟩, hz, hk⟩, stp⟩ := hr H locs la hl.1 hP T hT Z
  rw [h0] at hz hk
  have hA1 : ∀ q, gxA ks ad H.size q → A q := by
    intro q hq
    rcases hq with ⟨k, h1, rfl⟩ | h1
    · exact X.2.2.1.2 k h1
    · exact X.2.2.2.1 q (Nat.le_trans hS.1 h1)
  have hv2 : v = r.map (gxv ad) := by cases hv; rfl
  subst hv2
  obtain ⟨t2, a1, b1⟩ := kk r F' L' hp T'.heap (locs ++ L2) la hl (by rw [e1]; exact hP')
    ⟨Nat.le_trans hS.1 (by rw [e1]; exact hz), fun q h1 h2 => by rw [e1, hk q (Nat.lt_of_lt_of_le h1 hS.1) (fun z => h2 (hA1 q z))]; exact hS.2.1 q h1 h2, fun q hq => by
      rcases List.mem_append.mp hq with h | h
      · exact hS.2.2 q h
      · exact hA1 _ (hL q h)⟩ T' rfl Z'
  refine ⟨t2, stp t2 ?_, b1⟩
  have e3 : (r.toList ++ rest).map (gxv ad) = (r.map (gxv ad)).toList ++ rest.map (gxv ad) := by cases r <;> simp
  rw [e3] at a1
  exact a1
theorem gxP_blind {av : List xV} {sz : Nat} : FrameBlind (va_Pc (av.map (gxv ad)) (gxP D cl ca ks lay ad sz F L)) := by
  intro a U g mk ⟨q0, q1, qP, qK, qD⟩
  exact ⟨q0, q1, qP, va_K.moved (u := U) (U := U.calling g mk a) (Vm.Alike.refl U.vm) qK, qD⟩
theorem gxP_at (X : GC p s m args meth c cc nL own Ts A D cl ca ks ad) {av : List xV} {H : Heap} (hP : va_P D cl (gxw ks lay ca ad F L) H) (U : State) (hU : U.heap = H) (hW : s.WarmedH U.vm) : va_Pc (av.map (gxv ad)) (gxP D cl ca ks lay ad H.size F L) (av.map (gxv ad)).toArray U :=
  ⟨rfl, by rw [hU], by rw [hU]; exact hP, va_K.moved hW.alike X.2.1, ⟨X.2.2.1.1, fun _ _ => trivial⟩⟩
theorem gx_cat8 {rest : List xV} {la : Array Slot} {st0 : List Value} (h : (rest.map (fun v => cond (gxis v) 2 1)).sum ≤ 8) : 2 * (F0 m pc la st0).monitorRoom + ((rest.map (gxv ad)).map fun v => v.category).sum ≤ 8 := by
  have e : ((rest.map (gxv ad)).map fun v => v.category) = rest.map (fun v => cond (gxis v) 2 1) := by
    rw [List.map_map]
    apply List.map_congr_left
    intro v _
    exact gxv_cat ad v
  exact lv_room (by rw [e]; exact h)
end GXR
end
section
/-! rooms, by the graph of calls; what a call needs to know of its callee -/
abbrev rm_PP_init : Room := { frames := 17, cells := 0, slots := 0, locals := 10518 }
abbrev rm_Sp_init : Room := { frames := 1, cells := 0, slots := 0, locals := 20 }
abbrev rm_Li_init : Room := { frames := 1, cells := 0, slots := 0, locals := 20 }
abbrev rm_Fo_init : Room := { frames := 1, cells := 0, slots := 0, locals := 20 }
abbrev rm_Pr_init : Room := { frames := 1, cells := 0, slots := 0, locals := 20 }
abbrev rm_Gr_init : Room := { frames := 16, cells := 0, slots := 0, locals := 10497 }
abbrev rm_Gr_numberGroups : Room := { frames := 15, cells := 0, slots := 0, locals := 10475 }
abbrev rm_Ar_fill_aIIII : Room := { frames := 14, cells := 0, slots := 0, locals := 10451 }
abbrev rm_Ar_rangeCheck : Room := { frames := 13, cells := 0, slots := 0, locals := 10429 }
abbrev rm_Gr_placeStates : Room := { frames := 1, cells := 0, slots := 0, locals := 23 }
abbrev rm_Ar_fill_aII : Room := { frames := 0, cells := 0, slots := 0, locals := 0 }
abbrev rm_Se_init : Room := { frames := 1, cells := 0, slots := 0, locals := 20 }
abbrev rm_Pa_init : Room := { frames := 1, cells := 0, slots := 0, locals := 20 }
abbrev rm_Re_init : Room := { frames := 1, cells := 0, slots := 0, locals := 20 }
abbrev rm_Rf_init : Room := { frames := 1, cells := 0, slots := 0, locals := 20 }
abbrev rm_PP_type : Room := { frames := 1, cells := 0, slots := 0, locals := 21 }
abbrev rm_Li_append : Room := { frames := 0, cells := 0, slots := 0, locals := 0 }
abbrev rm_PP_wipe : Room := { frames := 1, cells := 0, slots := 0, locals := 20 }
abbrev rm_Li_makeEmpty : Room := { frames := 0, cells := 0, slots := 0, locals := 0 }
abbrev rm_PP_clear : Room := { frames := 17, cells := 0, slots := 0, locals := 10517 }
abbrev rm_Gr_dropPredicates : Room := { frames := 16, cells := 0, slots := 0, locals := 10497 }
abbrev rm_PP_forgetSearch : Room := { frames := 1, cells := 0, slots := 0, locals := 20 }
abbrev rm_Se_forget : Room := { frames := 0, cells := 0, slots := 0, locals := 0 }
abbrev rm_Re_forget : Room := { frames := 0, cells := 0, slots := 0, locals := 0 }
abbrev rm_PP_outcome : Room := { frames := 0, cells := 0, slots := 0, locals := 0 }
abbrev rm_PP_edges : Room := { frames := 0, cells := 0, slots := 0, locals := 0 }
abbrev rm_PP_predicates : Room := { frames := 0, cells := 0, slots := 0, locals := 0 }
abbrev rm_PP_nodes : Room := { frames := 0, cells := 0, slots := 0, locals := 0 }
abbrev rm_PP_length : Room := { frames := 0, cells := 0, slots := 0, locals := 0 }
abbrev rm_Lw_cell : Room := { frames := 0, cells := 0, slots := 0, locals := 0 }
abbrev rm_Lw_edge : Room := { frames := 29, cells := 0, slots := 0, locals := 10451 }
abbrev rm_PP_edge : Room := { frames := 28, cells := 0, slots := 0, locals := 10429 }
abbrev rm_Pa_readEdge : Room := { frames := 27, cells := 0, slots := 0, locals := 1026 }
abbrev rm_Li_at : Room := { frames := 0, cells := 0, slots := 0, locals := 0 }
abbrev rm_Pa_isLocation : Room := { frames := 0, cells := 0, slots := 0, locals := 0 }
abbrev rm_Fo_isVariable : Room := { frames := 0, cells := 0, slots := 0, locals := 0 }
abbrev rm_Pa_readTerm : Room := { frames := 26, cells := 0, slots := 0, locals := 1004 }
abbrev rm_Fo_begin : Room := { frames := 0, cells := 0, slots := 0, locals := 0 }
abbrev rm_Pa_passTerm : Room := { frames := 25, cells := 0, slots := 0, locals := 981 }
abbrev rm_Pa_passPart : Room := { frames := 25, cells := 0, slots := 0, locals := 981 }
abbrev rm_Fo_isDigit : Room := { frames := 0, cells := 0, slots := 0, locals := 0 }
abbrev rm_Fo_add : Room := { frames := 0, cells := 0, slots := 0, locals := 0 }
abbrev rm_Pa_isOperator : Room := { frames := 0, cells := 0, slots := 0, locals := 0 }
abbrev rm_Pa_readAtom : Room := { frames := 26, cells := 0, slots := 0, locals := 1004 }
abbrev rm_Pa_isComparison : Room := { frames := 0, cells := 0, slots := 0, locals := 0 }
abbrev rm_Pr_isFull : Room := { frames := 0, cells := 0, slots := 0, locals := 0 }
abbrev rm_Pr_add : Room := { frames := 3, cells := 0, slots := 0, locals := 70 }
abbrev rm_Pr_targetOf : Room := { frames := 2, cells := 0, slots := 0, locals := 46 }
abbrev rm_Sp_write : Room := { frames := 0, cells := 0, slots := 0, locals := 0 }
abbrev rm_Fo_valueIn : Room := { frames := 1, cells := 0, slots := 0, locals := 22 }
abbrev rm_Sp_read : Room := { frames := 0, cells := 0, slots := 0, locals := 0 }
abbrev rm_Fo_combine : Room := { frames := 0, cells := 0, slots := 0, locals := 0 }
abbrev rm_Lw_predicate : Room := { frames := 28, cells := 0, slots := 0, locals := 10539 }
abbrev rm_PP_predicate : Room := { frames := 27, cells := 0, slots := 0, locals := 10517 }
abbrev rm_Gr_isFull : Room := { frames := 0, cells := 0, slots := 0, locals := 0 }
abbrev rm_Gr_include : Room := { frames := 0, cells := 0, slots := 0, locals := 0 }
abbrev rm_Gr_endPredicate : Room := { frames := 16, cells := 0, slots := 0, locals := 10497 }
abbrev rm_Lw_prove : Room := { frames := 22, cells := 0, slots := 0, locals := 10628 }
abbrev rm_PP_prove : Room := { frames := 21, cells := 0, slots := 0, locals := 10606 }
abbrev rm_PP_makeRound : Room := { frames := 20, cells := 0, slots := 0, locals := 10586 }
abbrev rm_Se_run : Room := { frames := 17, cells := 0, slots := 0, locals := 10525 }
abbrev rm_Ar_fill_aBB : Room := { frames := 0, cells := 0, slots := 0, locals := 0 }
abbrev rm_Se_addNode : Room := { frames := 1, cells := 0, slots := 0, locals := 21 }
abbrev rm_Gr_signatureOf : Room := { frames := 0, cells := 0, slots := 0, locals := 0 }
abbrev rm_Se_take : Room := { frames := 16, cells := 0, slots := 0, locals := 10501 }
abbrev rm_Se_markReached : Room := { frames := 15, cells := 0, slots := 0, locals := 10475 }
abbrev rm_Ar_fill_aBIIB : Room := { frames := 14, cells := 0, slots := 0, locals := 10451 }
abbrev rm_Pr_choices : Room := { frames := 0, cells := 0, slots := 0, locals := 0 }
abbrev rm_Pr_step : Room := { frames := 1, cells := 0, slots := 0, locals := 24 }
abbrev rm_Se_tracePath : Room := { frames := 0, cells := 0, slots := 0, locals := 0 }
abbrev rm_Re_succeeds : Room := { frames := 4, cells := 0, slots := 0, locals := 98 }
abbrev rm_Ar_fill_aJJ : Room := { frames := 0, cells := 0, slots := 0, locals := 0 }
abbrev rm_Re_openBefore : Room := { frames := 3, cells := 0, slots := 0, locals := 74 }
abbrev rm_Re_leastInput : Room := { frames := 2, cells := 0, slots := 0, locals := 48 }
abbrev rm_Re_isOpen : Room := { frames := 0, cells := 0, slots := 0, locals := 0 }
abbrev rm_Re_collectInputs : Room := { frames := 3, cells := 0, slots := 0, locals := 74 }
abbrev rm_Rf_refine : Room := { frames := 19, cells := 0, slots := 0, locals := 10564 }
abbrev rm_Rf_passEdge : Room := { frames := 2, cells := 0, slots := 0, locals := 62 }
abbrev rm_Rf_takeAlong : Room := { frames := 1, cells := 0, slots := 0, locals := 24 }
abbrev rm_Rf_rowsInUse : Room := { frames := 0, cells := 0, slots := 0, locals := 0 }
abbrev rm_Rf_pullBack : Room := { frames := 1, cells := 0, slots := 0, locals := 39 }
abbrev rm_Rf_leaveBehind : Room := { frames := 0, cells := 0, slots := 0, locals := 0 }
abbrev rm_Rf_adoptTaken : Room := { frames := 18, cells := 0, slots := 0, locals := 10540 }
abbrev rm_Gr_splitting : Room := { frames := 0, cells := 0, slots := 0, locals := 0 }
abbrev rm_Rf_adopt : Room := { frames := 17, cells := 0, slots := 0, locals := 10517 }
abbrev rm_Rf_adoptVariableBit : Room := { frames := 18, cells := 0, slots := 0, locals := 10540 }
abbrev rm_Lw_holds : Room := { frames := 14, cells := 0, slots := 0, locals := 10451 }
abbrev rm_PP_holds : Room := { frames := 13, cells := 0, slots := 0, locals := 10429 }
abbrev rm_Sp_contains : Room := { frames := 0, cells := 0, slots := 0, locals := 0 }
abbrev rm_Lw_signature : Room := { frames := 14, cells := 0, slots := 0, locals := 10450 }
abbrev rm_PP_signature : Room := { frames := 13, cells := 0, slots := 0, locals := 10429 }
abbrev rm_Lw_follow : Room := { frames := 14, cells := 0, slots := 0, locals := 10452 }
abbrev rm_PP_follow : Room := { frames := 13, cells := 0, slots := 0, locals := 10429 }
abbrev rm_Lw_node : Room := { frames := 14, cells := 0, slots := 0, locals := 10451 }
abbrev rm_PP_node : Room := { frames := 13, cells := 0, slots := 0, locals := 10429 }
abbrev rm_Lw_path : Room := { frames := 14, cells := 0, slots := 0, locals := 10450 }
abbrev rm_PP_path : Room := { frames := 13, cells := 0, slots := 0, locals := 10429 }
abbrev rm_Lw_input : Room := { frames := 14, cells := 0, slots := 0, locals := 10450 }
abbrev rm_PP_input : Room := { frames := 13, cells := 0, slots := 0, locals := 10429 }
abbrev rm_Mo_init : Room := { frames := 1, cells := 0, slots := 0, locals := 20 }
abbrev rm_Mo_thrown : Room := { frames := 0, cells := 0, slots := 0, locals := 0 }
abbrev rm_Mo_type : Room := { frames := 0, cells := 0, slots := 0, locals := 0 }
abbrev rm_Mo_wipe : Room := { frames := 0, cells := 0, slots := 0, locals := 0 }
abbrev rm_Mo_edge : Room := { frames := 4, cells := 0, slots := 0, locals := 96 }
abbrev rm_Mo_at : Room := { frames := 0, cells := 0, slots := 0, locals := 0 }
abbrev rm_Mo_isLocation : Room := { frames := 0, cells := 0, slots := 0, locals := 0 }
abbrev rm_Mo_fail : Room := { frames := 0, cells := 0, slots := 0, locals := 0 }
abbrev rm_Mo_isVariable : Room := { frames := 0, cells := 0, slots := 0, locals := 0 }
abbrev rm_Mo_relationAt : Room := { frames := 2, cells := 0, slots := 0, locals := 47 }
abbrev rm_Mo_termEnd : Room := { frames := 1, cells := 0, slots := 0, locals := 21 }
abbrev rm_Mo_isSign : Room := { frames := 0, cells := 0, slots := 0, locals := 0 }
abbrev rm_Mo_isRelation : Room := { frames := 0, cells := 0, slots := 0, locals := 0 }
abbrev rm_Mo_worked : Room := { frames := 2, cells := 0, slots := 0, locals := 44 }
abbrev rm_Mo_join : Room := { frames := 0, cells := 0, slots := 0, locals := 0 }
abbrev rm_Mo_part : Room := { frames := 1, cells := 0, slots := 0, locals := 22 }
abbrev rm_Mo_valueOf : Room := { frames := 0, cells := 0, slots := 0, locals := 0 }
abbrev rm_Mo_atom : Room := { frames := 3, cells := 0, slots := 0, locals := 71 }
abbrev rm_Mo_forget : Room := { frames := 0, cells := 0, slots := 0, locals := 0 }
abbrev rm_Mo_predicate : Room := { frames := 4, cells := 0, slots := 0, locals := 96 }
abbrev rm_Mo_addWork : Room := { frames := 0, cells := 0, slots := 0, locals := 0 }
abbrev rm_Mo_clear : Room := { frames := 1, cells := 0, slots := 0, locals := 20 }
abbrev rm_Mo_prove : Room := { frames := 6, cells := 0, slots := 0, locals := 138 }
abbrev rm_Mo_search : Room := { frames := 4, cells := 0, slots := 0, locals := 91 }
abbrev rm_Mo_spread : Room := { frames := 3, cells := 0, slots := 0, locals := 68 }
abbrev rm_Mo_mark : Room := { frames := 2, cells := 0, slots := 0, locals := 45 }
abbrev rm_Mo_led : Room := { frames := 1, cells := 0, slots := 0, locals := 23 }
abbrev rm_Mo_bit : Room := { frames := 0, cells := 0, slots := 0, locals := 0 }
abbrev rm_Mo_with : Room := { frames := 0, cells := 0, slots := 0, locals := 0 }
abbrev rm_Mo_isOn : Room := { frames := 1, cells := 0, slots := 0, locals := 22 }
abbrev rm_Mo_known : Room := { frames := 0, cells := 0, slots := 0, locals := 0 }
abbrev rm_Mo_isTrue : Room := { frames := 4, cells := 0, slots := 0, locals := 91 }
abbrev rm_Mo_store : Room := { frames := 0, cells := 0, slots := 0, locals := 0 }
abbrev rm_Mo_before : Room := { frames := 3, cells := 0, slots := 0, locals := 69 }
abbrev rm_Mo_leadsIn : Room := { frames := 2, cells := 0, slots := 0, locals := 45 }
abbrev rm_Mo_isIn : Room := { frames := 1, cells := 0, slots := 0, locals := 22 }
abbrev rm_Mo_refine : Room := { frames := 5, cells := 0, slots := 0, locals := 114 }
abbrev rm_Mo_along : Room := { frames := 4, cells := 0, slots := 0, locals := 91 }
abbrev rm_Mo_fetch : Room := { frames := 2, cells := 0, slots := 0, locals := 44 }
abbrev rm_Mo_hangsOn : Room := { frames := 1, cells := 0, slots := 0, locals := 23 }
abbrev rm_Mo_offer : Room := { frames := 1, cells := 0, slots := 0, locals := 22 }
abbrev rm_Mo_splits : Room := { frames := 0, cells := 0, slots := 0, locals := 0 }
abbrev rm_Mo_outcome : Room := { frames := 0, cells := 0, slots := 0, locals := 0 }
abbrev rm_Mo_edges : Room := { frames := 0, cells := 0, slots := 0, locals := 0 }
abbrev rm_Mo_predicates : Room := { frames := 0, cells := 0, slots := 0, locals := 0 }
abbrev rm_Mo_holds : Room := { frames := 1, cells := 0, slots := 0, locals := 22 }
abbrev rm_Mo_isState : Room := { frames := 0, cells := 0, slots := 0, locals := 0 }
abbrev rm_Mo_signature : Room := { frames := 1, cells := 0, slots := 0, locals := 21 }
abbrev rm_Mo_follow : Room := { frames := 2, cells := 0, slots := 0, locals := 45 }
abbrev rm_Mo_nodes : Room := { frames := 0, cells := 0, slots := 0, locals := 0 }
abbrev rm_Mo_node : Room := { frames := 1, cells := 0, slots := 0, locals := 21 }
abbrev rm_Mo_length : Room := { frames := 0, cells := 0, slots := 0, locals := 0 }
abbrev rm_Mo_path : Room := { frames := 1, cells := 0, slots := 0, locals := 21 }
abbrev rm_Mo_input : Room := { frames := 1, cells := 0, slots := 0, locals := 21 }
theorem gG {c0 : Cond} {y : MethodName} {bytes : ByteArray} {maxL : Nat} {ret : Option FieldType} (h : Cond.code y bytes maxL ret ∈ WT) : GoodIn (c0 :: WT) (Cond.code y bytes maxL ret :: WT) := fun w hw => by
  rcases List.mem_cons.mp hw with h1 | h2
  · rw [h1]; exact ⟨List.mem_cons_of_mem _ h, WT_good _ h⟩
  · exact ⟨List.mem_cons_of_mem _ h2, WT_good _ h2⟩
def gMV (y : MethodName) (bytes : ByteArray) (maxL : Nat) (ret : Option FieldType) (n : Nat) : Prop := Cond.code y bytes maxL ret ∈ WT ∧ Cond.instanceMethod y ∈ WT ∧ Cond.selects y.cls y y ∈ WT ∧ Cond.initialized y.cls ∈ WT ∧ y.cls ≠ "java/lang/invoke/MethodHandle" ∧ y.cls ≠ "java/lang/invoke/VarHandle" ∧ (parseMethodDescriptor y.desc).map (fun d => d.parameters.length) = some n
def gMS (y : MethodName) (bytes : ByteArray) (maxL : Nat) (ret : Option FieldType) (n : Nat) : Prop := Cond.code y bytes maxL ret ∈ WT ∧ Cond.static y ∈ WT ∧ Cond.initialized y.cls ∈ WT ∧ y.cls ≠ "java/lang/invoke/MethodHandle" ∧ y.cls ≠ "java/lang/invoke/VarHandle" ∧ (parseMethodDescriptor y.desc).map (fun d => d.parameters.length) = some n
section GXC
variable {p : Program} {l : Launch} {e : Env} {R : Room} {s : State} {m : MethodId} {args : Array Value} {below : List Frame} {meth : Method} {c : Code} {Q : State → Prop} {nL cells slots pc : Nat} {A : Nat → Prop} {D : va_G} {cl : List vw_C} {ca : Nat → ClassId} {ks : List Nat} {lay : Nat → gxE} {ad : Nat → Nat}
variable {ls : List (Nat × xV)} {st : List xV} {F : Nat → Nat → Int32} {L : Nat → Nat → Int64} {cc : ByteArray} {own : String} {c0 : Cond} {post : Option xV → (Nat → Nat → Int32) → (Nat → Nat → Int64) → Prop}
/-- a call of an instance method of ours, private or not -/
theorem gx_callV (X : GC p s m args meth c cc nL own (c0 :: WT) A D cl ca ks ad) {index n maxL k N ci : Nat} {y : MethodName} {bytes : ByteArray} {ret : Option FieldType} {rm : Room} {av rest st0 : List xV} {T : u_T} {fs : List (Option Nat)}
    (d : decode cc pc = .ok (.invokevirtual index, 3)) (hm : gMV y bytes maxL ret n) (hlink : Cond.methodLink own index y ∈ WT) (hcon : Con l y (Cond.code y bytes maxL ret :: WT) rm D cl ca ks lay ad (xR k :: av) F L post)
    (hk : k ∈ ks) (hlay : lay k = Sum.inl (ci, fs)) (hc : cl[ci]? = some (y.cls, T, N)) (hn : av.length = n) (hst : st0 = av.reverse ++ xR k :: rest) (h8 : (rest.map (fun v => cond (gxis v) 2 1)).sum ≤ 8) (hR : rm.frames + 1 ≤ R.frames ∧ 8 + (maxL + 11) + rm.locals ≤ R.locals) (hrc : rm.cells = 0 ∧ rm.slots = 0) (hcs : cells ≤ R.cells ∧ slots ≤ R.slots)
    (kk : ∀ (r : Option xV) (F' : Nat → Nat → Int32) (L' : Nat → Nat → Int64), post r F' L' → GX p l e R s m args below meth c Q nL A D cl ca ks lay ad cells slots (pc + 3) ls (r.toList ++ rest) F' L') : GX p l e R s m args below meth c Q nL A D cl ca ks lay ad cells slots pc ls st0 F L := by
  subst hst
  obtain ⟨hcode, him, hsel, hini, hd1, hd2, hd3⟩ := hm
  have hts := X.1.2.2.2.2
  have ok : ∀ w, w ∈ WT → w.before args s = true := fun w h => hts w (List.mem_cons_of_mem _ h)
  refine gx_go X (post := post) (a := (Value.ref (ad k) :: av.map (gxv ad)).toArray) (rest := rest) (fun H locs la hsz hP => ?_) kk
  obtain ⟨q, hq⟩ := List.getElem?_of_mem hk
  have ha := gxw_at (lay := lay) (ca := ca) (ad := ad) (F := F) (L := L) hq
  rw [hlay] at ha
  have ha : (gxw ks lay ca ad F L)[q]? = some (ad k, .inr (ci, gxfl ad (F k) 0 fs)) := ha
  have hrecv := va_recv X.2.1 hP hc ha
  have cw : CallW R s args own y.cls index y bytes maxL ret (Cond.code y bytes maxL ret :: WT) rm 0 0 n := ⟨callB_of n hts (gG hcode) rfl hrc.1 hrc.2 (ok _ hini) (ok _ hlink) ⟨hd1, hd2, hd3⟩ hR, ok _ him, ok _ hsel⟩
  exact va_runV (g := F0 m pc la ((av.reverse ++ xR k :: rest).map (gxv ad))) X.1 (hcon H.size) cw ⟨gxP_blind (av := xR k :: av), hrecv, fun U hU hW => gxP_at X (av := xR k :: av) hP U hU hW⟩ rfl (by rw [List.length_map]; exact hn) hsz (by simp [gxv]) (gx_cat8 h8) d (by simpa using hcs)
/-- a call of a static method -/
theorem gx_callS (X : GC p s m args meth c cc nL own (c0 :: WT) A D cl ca ks ad) {index n maxL : Nat} {y : MethodName} {bytes : ByteArray} {ret : Option FieldType} {rm : Room} {av rest st0 : List xV}
    (d : decode cc pc = .ok (.invokestatic index, 3)) (hm : gMS y bytes maxL ret n) (hlink : Cond.methodLink own index y ∈ WT) (hcon : Con l y (Cond.code y bytes maxL ret :: WT) rm D cl ca ks lay ad av F L post)
    (hn : av.length = n) (hst : st0 = av.reverse ++ rest) (h8 : (rest.map (fun v => cond (gxis v) 2 1)).sum ≤ 8) (hR : rm.frames + 1 ≤ R.frames ∧ 8 + (maxL + 11) + rm.locals ≤ R.locals) (hrc : rm.cells = 0 ∧ rm.slots = 0) (hcs : cells ≤ R.cells ∧ slots ≤ R.slots)
    (kk : ∀ (r : Option xV) (F' : Nat → Nat → Int32) (L' : Nat → Nat → Int64), post r F' L' → GX p l e R s m args below meth c Q nL A D cl ca ks lay ad cells slots (pc + 3) ls (r.toList ++ rest) F' L') : GX p l e R s m args below meth c Q nL A D cl ca ks lay ad cells slots pc ls st0 F L := by
  subst hst
  obtain ⟨hcode, hstt, hini, hd1, hd2, hd3⟩ := hm
  have hts := X.1.2.2.2.2
  have ok : ∀ w, w ∈ WT → w.before args s = true := fun w h => hts w (List.mem_cons_of_mem _ h)
  refine gx_go X (post := post) (a := (av.map (gxv ad)).toArray) (rest := rest) (fun H locs la hsz hP => ?_) kk
  have cw : CallB R s args own index y bytes maxL ret (Cond.code y bytes maxL ret :: WT) rm 0 0 n ∧ (Cond.static y).before args s = true := ⟨callB_of n hts (gG hcode) rfl hrc.1 hrc.2 (ok _ hini) (ok _ hlink) ⟨hd1, hd2, hd3⟩ hR, ok _ hstt⟩
  exact va_runS (g := F0 m pc la ((av.reverse ++ rest).map (gxv ad))) X.1 (hcon H.size) cw ⟨gxP_blind (av := av), fun U hU hW => gxP_at X (av := av) hP U hU hW⟩ rfl (by rw [List.length_map]; exact hn) hsz (by simp) (gx_cat8 h8) d (by simpa using hcs)
end GXC
theorem mf_Gr_numberGroups : gMV y_Gr_numberGroups b_Gr_numberGroups 3 none 0 := ⟨wc_Gr_numberGroups, wm_Gr_numberGroups, ws_Gr_numberGroups, wi_Gr, by decide, by decide, by decide +kernel⟩
theorem mf_Ar_fill_aIIII : gMS y_Ar_fill_aIIII b_Ar_fill_aIIII 5 none 4 := ⟨wc_Ar_fill_aIIII, wt_Ar_fill_aIIII, wi_Ar, by decide, by decide, by decide +kernel⟩
theorem mf_Ar_rangeCheck : gMS y_Ar_rangeCheck b_Ar_rangeCheck 3 none 3 := ⟨wc_Ar_rangeCheck, wt_Ar_rangeCheck, wi_Ar, by decide, by decide, by decide +kernel⟩
theorem mf_Gr_placeStates : gMV y_Gr_placeStates b_Gr_placeStates 3 none 0 := ⟨wc_Gr_placeStates, wm_Gr_placeStates, ws_Gr_placeStates, wi_Gr, by decide, by decide, by decide +kernel⟩
theorem mf_Ar_fill_aII : gMS y_Ar_fill_aII b_Ar_fill_aII 4 none 2 := ⟨wc_Ar_fill_aII, wt_Ar_fill_aII, wi_Ar, by decide, by decide, by decide +kernel⟩
theorem mf_PP_type : gMV y_PP_type b_PP_type 2 (some .int) 1 := ⟨wc_PP_type, wm_PP_type, ws_PP_type, wi_PP, by decide, by decide, by decide +kernel⟩
theorem mf_Li_append : gMV y_Li_append b_Li_append 2 (some .int) 1 := ⟨wc_Li_append, wm_Li_append, ws_Li_append, wi_Li, by decide, by decide, by decide +kernel⟩
theorem mf_PP_wipe : gMV y_PP_wipe b_PP_wipe 1 none 0 := ⟨wc_PP_wipe, wm_PP_wipe, ws_PP_wipe, wi_PP, by decide, by decide, by decide +kernel⟩
theorem mf_Li_makeEmpty : gMV y_Li_makeEmpty b_Li_makeEmpty 1 none 0 := ⟨wc_Li_makeEmpty, wm_Li_makeEmpty, ws_Li_makeEmpty, wi_Li, by decide, by decide, by decide +kernel⟩
theorem mf_PP_clear : gMV y_PP_clear b_PP_clear 1 none 0 := ⟨wc_PP_clear, wm_PP_clear, ws_PP_clear, wi_PP, by decide, by decide, by decide +kernel⟩
theorem mf_Gr_dropPredicates : gMV y_Gr_dropPredicates b_Gr_dropPredicates 1 none 0 := ⟨wc_Gr_dropPredicates, wm_Gr_dropPredicates, ws_Gr_dropPredicates, wi_Gr, by decide, by decide, by decide +kernel⟩
theorem mf_PP_forgetSearch : gMV y_PP_forgetSearch b_PP_forgetSearch 1 none 0 := ⟨wc_PP_forgetSearch, wm_PP_forgetSearch, ws_PP_forgetSearch, wi_PP, by decide, by decide, by decide +kernel⟩
theorem mf_Se_forget : gMV y_Se_forget b_Se_forget 1 none 0 := ⟨wc_Se_forget, wm_Se_forget, ws_Se_forget, wi_Se, by decide, by decide, by decide +kernel⟩
theorem mf_Re_forget : gMV y_Re_forget b_Re_forget 1 none 0 := ⟨wc_Re_forget, wm_Re_forget, ws_Re_forget, wi_Re, by decide, by decide, by decide +kernel⟩
theorem mf_PP_outcome : gMV y_PP_outcome b_PP_outcome 1 (some .int) 0 := ⟨wc_PP_outcome, wm_PP_outcome, ws_PP_outcome, wi_PP, by decide, by decide, by decide +kernel⟩
theorem mf_PP_edges : gMV y_PP_edges b_PP_edges 1 (some .int) 0 := ⟨wc_PP_edges, wm_PP_edges, ws_PP_edges, wi_PP, by decide, by decide, by decide +kernel⟩
theorem mf_PP_predicates : gMV y_PP_predicates b_PP_predicates 1 (some .int) 0 := ⟨wc_PP_predicates, wm_PP_predicates, ws_PP_predicates, wi_PP, by decide, by decide, by decide +kernel⟩
theorem mf_PP_nodes : gMV y_PP_nodes b_PP_nodes 1 (some .int) 0 := ⟨wc_PP_nodes, wm_PP_nodes, ws_PP_nodes, wi_PP, by decide, by decide, by decide +kernel⟩
theorem mf_PP_length : gMV y_PP_length b_PP_length 1 (some .int) 0 := ⟨wc_PP_length, wm_PP_length, ws_PP_length, wi_PP, by decide, by decide, by decide +kernel⟩
theorem mf_Lw_cell : gMS y_Lw_cell b_Lw_cell 2 (some .int) 2 := ⟨wc_Lw_cell, wt_Lw_cell, wi_Lw, by decide, by decide, by decide +kernel⟩
theorem mf_PP_edge : gMV y_PP_edge b_PP_edge 3 (some .int) 0 := ⟨wc_PP_edge, wm_PP_edge, ws_PP_edge, wi_PP, by decide, by decide, by decide +kernel⟩
theorem mf_Pa_readEdge : gMV y_Pa_readEdge b_Pa_readEdge 1 (some .int) 0 := ⟨wc_Pa_readEdge, wm_Pa_readEdge, ws_Pa_readEdge, wi_Pa, by decide, by decide, by decide +kernel⟩
theorem mf_Li_at : gMV y_Li_at b_Li_at 2 (some .char) 1 := ⟨wc_Li_at, wm_Li_at, ws_Li_at, wi_Li, by decide, by decide, by decide +kernel⟩
theorem mf_Pa_isLocation : gMS y_Pa_isLocation b_Pa_isLocation 1 (some .boolean) 1 := ⟨wc_Pa_isLocation, wt_Pa_isLocation, wi_Pa, by decide, by decide, by decide +kernel⟩
theorem mf_Fo_isVariable : gMS y_Fo_isVariable b_Fo_isVariable 1 (some .boolean) 1 := ⟨wc_Fo_isVariable, wt_Fo_isVariable, wi_Fo, by decide, by decide, by decide +kernel⟩
theorem mf_Pa_readTerm : gMV y_Pa_readTerm b_Pa_readTerm 2 (some .boolean) 1 := ⟨wc_Pa_readTerm, wm_Pa_readTerm, ws_Pa_readTerm, wi_Pa, by decide, by decide, by decide +kernel⟩
theorem mf_Fo_begin : gMV y_Fo_begin b_Fo_begin 1 none 0 := ⟨wc_Fo_begin, wm_Fo_begin, ws_Fo_begin, wi_Fo, by decide, by decide, by decide +kernel⟩
theorem mf_Pa_passTerm : gMV y_Pa_passTerm b_Pa_passTerm 4 (some .boolean) 1 := ⟨wc_Pa_passTerm, wm_Pa_passTerm, ws_Pa_passTerm, wi_Pa, by decide, by decide, by decide +kernel⟩
theorem mf_Pa_passPart : gMV y_Pa_passPart b_Pa_passPart 3 (some .boolean) 1 := ⟨wc_Pa_passPart, wm_Pa_passPart, ws_Pa_passPart, wi_Pa, by decide, by decide, by decide +kernel⟩
theorem mf_Fo_isDigit : gMS y_Fo_isDigit b_Fo_isDigit 1 (some .boolean) 1 := ⟨wc_Fo_isDigit, wt_Fo_isDigit, wi_Fo, by decide, by decide, by decide +kernel⟩
theorem mf_Fo_add : gMV y_Fo_add b_Fo_add 2 none 1 := ⟨wc_Fo_add, wm_Fo_add, ws_Fo_add, wi_Fo, by decide, by decide, by decide +kernel⟩
theorem mf_Pa_isOperator : gMS y_Pa_isOperator b_Pa_isOperator 1 (some .boolean) 1 := ⟨wc_Pa_isOperator, wt_Pa_isOperator, wi_Pa, by decide, by decide, by decide +kernel⟩
theorem mf_Pa_readAtom : gMV y_Pa_readAtom b_Pa_readAtom 3 (some .boolean) 1 := ⟨wc_Pa_readAtom, wm_Pa_readAtom, ws_Pa_readAtom, wi_Pa, by decide, by decide, by decide +kernel⟩
theorem mf_Pa_isComparison : gMS y_Pa_isComparison b_Pa_isComparison 1 (some .boolean) 1 := ⟨wc_Pa_isComparison, wt_Pa_isComparison, wi_Pa, by decide, by decide, by decide +kernel⟩
theorem mf_Pr_isFull : gMV y_Pr_isFull b_Pr_isFull 1 (some .boolean) 0 := ⟨wc_Pr_isFull, wm_Pr_isFull, ws_Pr_isFull, wi_Pr, by decide, by decide, by decide +kernel⟩
theorem mf_Pr_add : gMV y_Pr_add b_Pr_add 6 (some .int) 3 := ⟨wc_Pr_add, wm_Pr_add, ws_Pr_add, wi_Pr, by decide, by decide, by decide +kernel⟩
theorem mf_Pr_targetOf : gMV y_Pr_targetOf b_Pr_targetOf 5 (some .int) 3 := ⟨wc_Pr_targetOf, wm_Pr_targetOf, ws_Pr_targetOf, wi_Pr, by decide, by decide, by decide +kernel⟩
theorem mf_Sp_write : gMV y_Sp_write b_Sp_write 5 (some .int) 3 := ⟨wc_Sp_write, wm_Sp_write, ws_Sp_write, wi_Sp, by decide, by decide, by decide +kernel⟩
theorem mf_Fo_valueIn : gMV y_Fo_valueIn b_Fo_valueIn 5 (some .int) 1 := ⟨wc_Fo_valueIn, wm_Fo_valueIn, ws_Fo_valueIn, wi_Fo, by decide, by decide, by decide +kernel⟩
theorem mf_Sp_read : gMV y_Sp_read b_Sp_read 3 (some .int) 2 := ⟨wc_Sp_read, wm_Sp_read, ws_Sp_read, wi_Sp, by decide, by decide, by decide +kernel⟩
theorem mf_Fo_combine : gMS y_Fo_combine b_Fo_combine 3 (some .int) 3 := ⟨wc_Fo_combine, wt_Fo_combine, wi_Fo, by decide, by decide, by decide +kernel⟩
theorem mf_PP_predicate : gMV y_PP_predicate b_PP_predicate 3 (some .int) 0 := ⟨wc_PP_predicate, wm_PP_predicate, ws_PP_predicate, wi_PP, by decide, by decide, by decide +kernel⟩
theorem mf_Gr_isFull : gMV y_Gr_isFull b_Gr_isFull 1 (some .boolean) 0 := ⟨wc_Gr_isFull, wm_Gr_isFull, ws_Gr_isFull, wi_Gr, by decide, by decide, by decide +kernel⟩
theorem mf_Gr_include : gMV y_Gr_include b_Gr_include 2 none 1 := ⟨wc_Gr_include, wm_Gr_include, ws_Gr_include, wi_Gr, by decide, by decide, by decide +kernel⟩
theorem mf_Gr_endPredicate : gMV y_Gr_endPredicate b_Gr_endPredicate 1 none 0 := ⟨wc_Gr_endPredicate, wm_Gr_endPredicate, ws_Gr_endPredicate, wi_Gr, by decide, by decide, by decide +kernel⟩
theorem mf_PP_prove : gMV y_PP_prove b_PP_prove 3 (some .int) 1 := ⟨wc_PP_prove, wm_PP_prove, ws_PP_prove, wi_PP, by decide, by decide, by decide +kernel⟩
theorem mf_PP_makeRound : gMV y_PP_makeRound b_PP_makeRound 1 (some .int) 0 := ⟨wc_PP_makeRound, wm_PP_makeRound, ws_PP_makeRound, wi_PP, by decide, by decide, by decide +kernel⟩
theorem mf_Se_run : gMV y_Se_run b_Se_run 4 none 0 := ⟨wc_Se_run, wm_Se_run, ws_Se_run, wi_Se, by decide, by decide, by decide +kernel⟩
theorem mf_Ar_fill_aBB : gMS y_Ar_fill_aBB b_Ar_fill_aBB 4 none 2 := ⟨wc_Ar_fill_aBB, wt_Ar_fill_aBB, wi_Ar, by decide, by decide, by decide +kernel⟩
theorem mf_Se_addNode : gMV y_Se_addNode b_Se_addNode 5 none 4 := ⟨wc_Se_addNode, wm_Se_addNode, ws_Se_addNode, wi_Se, by decide, by decide, by decide +kernel⟩
theorem mf_Gr_signatureOf : gMV y_Gr_signatureOf b_Gr_signatureOf 2 (some .int) 1 := ⟨wc_Gr_signatureOf, wm_Gr_signatureOf, ws_Gr_signatureOf, wi_Gr, by decide, by decide, by decide +kernel⟩
theorem mf_Se_take : gMV y_Se_take b_Se_take 5 (some .boolean) 2 := ⟨wc_Se_take, wm_Se_take, ws_Se_take, wi_Se, by decide, by decide, by decide +kernel⟩
theorem mf_Se_markReached : gMV y_Se_markReached b_Se_markReached 7 none 2 := ⟨wc_Se_markReached, wm_Se_markReached, ws_Se_markReached, wi_Se, by decide, by decide, by decide +kernel⟩
theorem mf_Ar_fill_aBIIB : gMS y_Ar_fill_aBIIB b_Ar_fill_aBIIB 5 none 4 := ⟨wc_Ar_fill_aBIIB, wt_Ar_fill_aBIIB, wi_Ar, by decide, by decide, by decide +kernel⟩
theorem mf_Pr_choices : gMV y_Pr_choices b_Pr_choices 2 (some .int) 1 := ⟨wc_Pr_choices, wm_Pr_choices, ws_Pr_choices, wi_Pr, by decide, by decide, by decide +kernel⟩
theorem mf_Pr_step : gMV y_Pr_step b_Pr_step 5 (some .int) 3 := ⟨wc_Pr_step, wm_Pr_step, ws_Pr_step, wi_Pr, by decide, by decide, by decide +kernel⟩
theorem mf_Se_tracePath : gMV y_Se_tracePath b_Se_tracePath 4 none 1 := ⟨wc_Se_tracePath, wm_Se_tracePath, ws_Se_tracePath, wi_Se, by decide, by decide, by decide +kernel⟩
theorem mf_Re_succeeds : gMV y_Re_succeeds b_Re_succeeds 2 (some .boolean) 0 := ⟨wc_Re_succeeds, wm_Re_succeeds, ws_Re_succeeds, wi_Re, by decide, by decide, by decide +kernel⟩
theorem mf_Ar_fill_aJJ : gMS y_Ar_fill_aJJ b_Ar_fill_aJJ 5 none 2 := ⟨wc_Ar_fill_aJJ, wt_Ar_fill_aJJ, wi_Ar, by decide, by decide, by decide +kernel⟩
theorem mf_Re_openBefore : gMV y_Re_openBefore b_Re_openBefore 3 none 1 := ⟨wc_Re_openBefore, wm_Re_openBefore, ws_Re_openBefore, wi_Re, by decide, by decide, by decide +kernel⟩
theorem mf_Re_leastInput : gMV y_Re_leastInput b_Re_leastInput 7 (some .int) 2 := ⟨wc_Re_leastInput, wm_Re_leastInput, ws_Re_leastInput, wi_Re, by decide, by decide, by decide +kernel⟩
theorem mf_Re_isOpen : gMV y_Re_isOpen b_Re_isOpen 3 (some .boolean) 2 := ⟨wc_Re_isOpen, wm_Re_isOpen, ws_Re_isOpen, wi_Re, by decide, by decide, by decide +kernel⟩
theorem mf_Re_collectInputs : gMV y_Re_collectInputs b_Re_collectInputs 5 none 0 := ⟨wc_Re_collectInputs, wm_Re_collectInputs, ws_Re_collectInputs, wi_Re, by decide, by decide, by decide +kernel⟩
theorem mf_Rf_refine : gMV y_Rf_refine b_Rf_refine 3 (some .boolean) 0 := ⟨wc_Rf_refine, wm_Rf_refine, ws_Rf_refine, wi_Rf, by decide, by decide, by decide +kernel⟩
theorem mf_Rf_passEdge : gMV y_Rf_passEdge b_Rf_passEdge 4 none 1 := ⟨wc_Rf_passEdge, wm_Rf_passEdge, ws_Rf_passEdge, wi_Rf, by decide, by decide, by decide +kernel⟩
theorem mf_Rf_takeAlong : gMV y_Rf_takeAlong b_Rf_takeAlong 5 none 1 := ⟨wc_Rf_takeAlong, wm_Rf_takeAlong, ws_Rf_takeAlong, wi_Rf, by decide, by decide, by decide +kernel⟩
theorem mf_Rf_rowsInUse : gMV y_Rf_rowsInUse b_Rf_rowsInUse 1 (some .int) 0 := ⟨wc_Rf_rowsInUse, wm_Rf_rowsInUse, ws_Rf_rowsInUse, wi_Rf, by decide, by decide, by decide +kernel⟩
theorem mf_Rf_pullBack : gMV y_Rf_pullBack b_Rf_pullBack 4 none 2 := ⟨wc_Rf_pullBack, wm_Rf_pullBack, ws_Rf_pullBack, wi_Rf, by decide, by decide, by decide +kernel⟩
theorem mf_Rf_leaveBehind : gMV y_Rf_leaveBehind b_Rf_leaveBehind 6 none 2 := ⟨wc_Rf_leaveBehind, wm_Rf_leaveBehind, ws_Rf_leaveBehind, wi_Rf, by decide, by decide, by decide +kernel⟩
theorem mf_Rf_adoptTaken : gMV y_Rf_adoptTaken b_Rf_adoptTaken 5 (some .boolean) 0 := ⟨wc_Rf_adoptTaken, wm_Rf_adoptTaken, ws_Rf_adoptTaken, wi_Rf, by decide, by decide, by decide +kernel⟩
theorem mf_Gr_splitting : gMV y_Gr_splitting b_Gr_splitting 5 (some .long) 1 := ⟨wc_Gr_splitting, wm_Gr_splitting, ws_Gr_splitting, wi_Gr, by decide, by decide, by decide +kernel⟩
theorem mf_Rf_adopt : gMV y_Rf_adopt b_Rf_adopt 4 none 2 := ⟨wc_Rf_adopt, wm_Rf_adopt, ws_Rf_adopt, wi_Rf, by decide, by decide, by decide +kernel⟩
theorem mf_Rf_adoptVariableBit : gMV y_Rf_adoptVariableBit b_Rf_adoptVariableBit 4 (some .boolean) 0 := ⟨wc_Rf_adoptVariableBit, wm_Rf_adoptVariableBit, ws_Rf_adoptVariableBit, wi_Rf, by decide, by decide, by decide +kernel⟩
theorem mf_PP_holds : gMV y_PP_holds b_PP_holds 3 (some .boolean) 2 := ⟨wc_PP_holds, wm_PP_holds, ws_PP_holds, wi_PP, by decide, by decide, by decide +kernel⟩
theorem mf_Sp_contains : gMV y_Sp_contains b_Sp_contains 2 (some .boolean) 1 := ⟨wc_Sp_contains, wm_Sp_contains, ws_Sp_contains, wi_Sp, by decide, by decide, by decide +kernel⟩
theorem mf_PP_signature : gMV y_PP_signature b_PP_signature 2 (some .short) 1 := ⟨wc_PP_signature, wm_PP_signature, ws_PP_signature, wi_PP, by decide, by decide, by decide +kernel⟩
theorem mf_PP_follow : gMV y_PP_follow b_PP_follow 4 (some .int) 3 := ⟨wc_PP_follow, wm_PP_follow, ws_PP_follow, wi_PP, by decide, by decide, by decide +kernel⟩
theorem mf_PP_node : gMV y_PP_node b_PP_node 3 (some .int) 2 := ⟨wc_PP_node, wm_PP_node, ws_PP_node, wi_PP, by decide, by decide, by decide +kernel⟩
theorem mf_PP_path : gMV y_PP_path b_PP_path 2 (some .int) 1 := ⟨wc_PP_path, wm_PP_path, ws_PP_path, wi_PP, by decide, by decide, by decide +kernel⟩
theorem mf_PP_input : gMV y_PP_input b_PP_input 2 (some .int) 1 := ⟨wc_PP_input, wm_PP_input, ws_PP_input, wi_PP, by decide, by decide, by decide +kernel⟩
theorem mf_Mo_thrown : gMV y_Mo_thrown b_Mo_thrown 1 (some .int) 0 := ⟨wc_Mo_thrown, wm_Mo_thrown, ws_Mo_thrown, wi_Mo, by decide, by decide, by decide +kernel⟩
theorem mf_Mo_type : gMV y_Mo_type b_Mo_type 2 (some .int) 1 := ⟨wc_Mo_type, wm_Mo_type, ws_Mo_type, wi_Mo, by decide, by decide, by decide +kernel⟩
theorem mf_Mo_wipe : gMV y_Mo_wipe b_Mo_wipe 1 none 0 := ⟨wc_Mo_wipe, wm_Mo_wipe, ws_Mo_wipe, wi_Mo, by decide, by decide, by decide +kernel⟩
theorem mf_Mo_edge : gMV y_Mo_edge b_Mo_edge 9 (some .int) 0 := ⟨wc_Mo_edge, wm_Mo_edge, ws_Mo_edge, wi_Mo, by decide, by decide, by decide +kernel⟩
theorem mf_Mo_at : gMV y_Mo_at b_Mo_at 2 (some .int) 1 := ⟨wc_Mo_at, wm_Mo_at, ws_Mo_at, wi_Mo, by decide, by decide, by decide +kernel⟩
theorem mf_Mo_isLocation : gMS y_Mo_isLocation b_Mo_isLocation 1 (some .boolean) 1 := ⟨wc_Mo_isLocation, wt_Mo_isLocation, wi_Mo, by decide, by decide, by decide +kernel⟩
theorem mf_Mo_fail : gMV y_Mo_fail b_Mo_fail 2 (some .int) 1 := ⟨wc_Mo_fail, wm_Mo_fail, ws_Mo_fail, wi_Mo, by decide, by decide, by decide +kernel⟩
theorem mf_Mo_isVariable : gMS y_Mo_isVariable b_Mo_isVariable 1 (some .boolean) 1 := ⟨wc_Mo_isVariable, wt_Mo_isVariable, wi_Mo, by decide, by decide, by decide +kernel⟩
theorem mf_Mo_relationAt : gMV y_Mo_relationAt b_Mo_relationAt 3 (some .int) 1 := ⟨wc_Mo_relationAt, wm_Mo_relationAt, ws_Mo_relationAt, wi_Mo, by decide, by decide, by decide +kernel⟩
theorem mf_Mo_termEnd : gMV y_Mo_termEnd b_Mo_termEnd 7 (some .int) 1 := ⟨wc_Mo_termEnd, wm_Mo_termEnd, ws_Mo_termEnd, wi_Mo, by decide, by decide, by decide +kernel⟩
theorem mf_Mo_isSign : gMS y_Mo_isSign b_Mo_isSign 1 (some .boolean) 1 := ⟨wc_Mo_isSign, wt_Mo_isSign, wi_Mo, by decide, by decide, by decide +kernel⟩
theorem mf_Mo_isRelation : gMS y_Mo_isRelation b_Mo_isRelation 1 (some .boolean) 1 := ⟨wc_Mo_isRelation, wt_Mo_isRelation, wi_Mo, by decide, by decide, by decide +kernel⟩
theorem mf_Mo_worked : gMV y_Mo_worked b_Mo_worked 8 (some .int) 3 := ⟨wc_Mo_worked, wm_Mo_worked, ws_Mo_worked, wi_Mo, by decide, by decide, by decide +kernel⟩
theorem mf_Mo_join : gMV y_Mo_join b_Mo_join 5 none 2 := ⟨wc_Mo_join, wm_Mo_join, ws_Mo_join, wi_Mo, by decide, by decide, by decide +kernel⟩
theorem mf_Mo_part : gMV y_Mo_part b_Mo_part 3 (some .int) 2 := ⟨wc_Mo_part, wm_Mo_part, ws_Mo_part, wi_Mo, by decide, by decide, by decide +kernel⟩
theorem mf_Mo_valueOf : gMV y_Mo_valueOf b_Mo_valueOf 3 (some .int) 2 := ⟨wc_Mo_valueOf, wm_Mo_valueOf, ws_Mo_valueOf, wi_Mo, by decide, by decide, by decide +kernel⟩
theorem mf_Mo_atom : gMV y_Mo_atom b_Mo_atom 6 (some .boolean) 3 := ⟨wc_Mo_atom, wm_Mo_atom, ws_Mo_atom, wi_Mo, by decide, by decide, by decide +kernel⟩
theorem mf_Mo_forget : gMV y_Mo_forget b_Mo_forget 1 none 0 := ⟨wc_Mo_forget, wm_Mo_forget, ws_Mo_forget, wi_Mo, by decide, by decide, by decide +kernel⟩
theorem mf_Mo_predicate : gMV y_Mo_predicate b_Mo_predicate 3 (some .int) 0 := ⟨wc_Mo_predicate, wm_Mo_predicate, ws_Mo_predicate, wi_Mo, by decide, by decide, by decide +kernel⟩
theorem mf_Mo_addWork : gMV y_Mo_addWork b_Mo_addWork 2 none 0 := ⟨wc_Mo_addWork, wm_Mo_addWork, ws_Mo_addWork, wi_Mo, by decide, by decide, by decide +kernel⟩
theorem mf_Mo_clear : gMV y_Mo_clear b_Mo_clear 2 none 0 := ⟨wc_Mo_clear, wm_Mo_clear, ws_Mo_clear, wi_Mo, by decide, by decide, by decide +kernel⟩
theorem mf_Mo_prove : gMV y_Mo_prove b_Mo_prove 5 (some .int) 1 := ⟨wc_Mo_prove, wm_Mo_prove, ws_Mo_prove, wi_Mo, by decide, by decide, by decide +kernel⟩
theorem mf_Mo_search : gMV y_Mo_search b_Mo_search 4 none 0 := ⟨wc_Mo_search, wm_Mo_search, ws_Mo_search, wi_Mo, by decide, by decide, by decide +kernel⟩
theorem mf_Mo_spread : gMV y_Mo_spread b_Mo_spread 4 (some .boolean) 2 := ⟨wc_Mo_spread, wm_Mo_spread, ws_Mo_spread, wi_Mo, by decide, by decide, by decide +kernel⟩
theorem mf_Mo_mark : gMV y_Mo_mark b_Mo_mark 4 none 2 := ⟨wc_Mo_mark, wm_Mo_mark, ws_Mo_mark, wi_Mo, by decide, by decide, by decide +kernel⟩
theorem mf_Mo_led : gMV y_Mo_led b_Mo_led 3 (some .int) 2 := ⟨wc_Mo_led, wm_Mo_led, ws_Mo_led, wi_Mo, by decide, by decide, by decide +kernel⟩
theorem mf_Mo_bit : gMS y_Mo_bit b_Mo_bit 3 (some .int) 3 := ⟨wc_Mo_bit, wt_Mo_bit, wi_Mo, by decide, by decide, by decide +kernel⟩
theorem mf_Mo_with : gMV y_Mo_with b_Mo_with 4 (some .int) 3 := ⟨wc_Mo_with, wm_Mo_with, ws_Mo_with, wi_Mo, by decide, by decide, by decide +kernel⟩
theorem mf_Mo_isOn : gMV y_Mo_isOn b_Mo_isOn 3 (some .boolean) 2 := ⟨wc_Mo_isOn, wm_Mo_isOn, ws_Mo_isOn, wi_Mo, by decide, by decide, by decide +kernel⟩
theorem mf_Mo_known : gMV y_Mo_known b_Mo_known 4 (some .boolean) 2 := ⟨wc_Mo_known, wm_Mo_known, ws_Mo_known, wi_Mo, by decide, by decide, by decide +kernel⟩
theorem mf_Mo_isTrue : gMV y_Mo_isTrue b_Mo_isTrue 5 (some .boolean) 0 := ⟨wc_Mo_isTrue, wm_Mo_isTrue, ws_Mo_isTrue, wi_Mo, by decide, by decide, by decide +kernel⟩
theorem mf_Mo_store : gMV y_Mo_store b_Mo_store 3 none 1 := ⟨wc_Mo_store, wm_Mo_store, ws_Mo_store, wi_Mo, by decide, by decide, by decide +kernel⟩
theorem mf_Mo_before : gMV y_Mo_before b_Mo_before 3 none 1 := ⟨wc_Mo_before, wm_Mo_before, ws_Mo_before, wi_Mo, by decide, by decide, by decide +kernel⟩
theorem mf_Mo_leadsIn : gMV y_Mo_leadsIn b_Mo_leadsIn 5 (some .boolean) 2 := ⟨wc_Mo_leadsIn, wm_Mo_leadsIn, ws_Mo_leadsIn, wi_Mo, by decide, by decide, by decide +kernel⟩
theorem mf_Mo_isIn : gMV y_Mo_isIn b_Mo_isIn 3 (some .boolean) 2 := ⟨wc_Mo_isIn, wm_Mo_isIn, ws_Mo_isIn, wi_Mo, by decide, by decide, by decide +kernel⟩
theorem mf_Mo_refine : gMV y_Mo_refine b_Mo_refine 5 (some .int) 0 := ⟨wc_Mo_refine, wm_Mo_refine, ws_Mo_refine, wi_Mo, by decide, by decide, by decide +kernel⟩
theorem mf_Mo_along : gMV y_Mo_along b_Mo_along 4 none 1 := ⟨wc_Mo_along, wm_Mo_along, ws_Mo_along, wi_Mo, by decide, by decide, by decide +kernel⟩
theorem mf_Mo_fetch : gMV y_Mo_fetch b_Mo_fetch 3 none 1 := ⟨wc_Mo_fetch, wm_Mo_fetch, ws_Mo_fetch, wi_Mo, by decide, by decide, by decide +kernel⟩
theorem mf_Mo_hangsOn : gMV y_Mo_hangsOn b_Mo_hangsOn 4 (some .boolean) 1 := ⟨wc_Mo_hangsOn, wm_Mo_hangsOn, ws_Mo_hangsOn, wi_Mo, by decide, by decide, by decide +kernel⟩
theorem mf_Mo_offer : gMV y_Mo_offer b_Mo_offer 1 (some .int) 0 := ⟨wc_Mo_offer, wm_Mo_offer, ws_Mo_offer, wi_Mo, by decide, by decide, by decide +kernel⟩
theorem mf_Mo_splits : gMV y_Mo_splits b_Mo_splits 3 (some .boolean) 0 := ⟨wc_Mo_splits, wm_Mo_splits, ws_Mo_splits, wi_Mo, by decide, by decide, by decide +kernel⟩
theorem mf_Mo_outcome : gMV y_Mo_outcome b_Mo_outcome 1 (some .int) 0 := ⟨wc_Mo_outcome, wm_Mo_outcome, ws_Mo_outcome, wi_Mo, by decide, by decide, by decide +kernel⟩
theorem mf_Mo_edges : gMV y_Mo_edges b_Mo_edges 1 (some .int) 0 := ⟨wc_Mo_edges, wm_Mo_edges, ws_Mo_edges, wi_Mo, by decide, by decide, by decide +kernel⟩
theorem mf_Mo_predicates : gMV y_Mo_predicates b_Mo_predicates 1 (some .int) 0 := ⟨wc_Mo_predicates, wm_Mo_predicates, ws_Mo_predicates, wi_Mo, by decide, by decide, by decide +kernel⟩
theorem mf_Mo_holds : gMV y_Mo_holds b_Mo_holds 3 (some .boolean) 2 := ⟨wc_Mo_holds, wm_Mo_holds, ws_Mo_holds, wi_Mo, by decide, by decide, by decide +kernel⟩
theorem mf_Mo_isState : gMV y_Mo_isState b_Mo_isState 2 (some .boolean) 1 := ⟨wc_Mo_isState, wm_Mo_isState, ws_Mo_isState, wi_Mo, by decide, by decide, by decide +kernel⟩
theorem mf_Mo_signature : gMV y_Mo_signature b_Mo_signature 2 (some .short) 1 := ⟨wc_Mo_signature, wm_Mo_signature, ws_Mo_signature, wi_Mo, by decide, by decide, by decide +kernel⟩
theorem mf_Mo_follow : gMV y_Mo_follow b_Mo_follow 4 (some .int) 3 := ⟨wc_Mo_follow, wm_Mo_follow, ws_Mo_follow, wi_Mo, by decide, by decide, by decide +kernel⟩
theorem mf_Mo_nodes : gMV y_Mo_nodes b_Mo_nodes 1 (some .int) 0 := ⟨wc_Mo_nodes, wm_Mo_nodes, ws_Mo_nodes, wi_Mo, by decide, by decide, by decide +kernel⟩
theorem mf_Mo_node : gMV y_Mo_node b_Mo_node 3 (some .int) 2 := ⟨wc_Mo_node, wm_Mo_node, ws_Mo_node, wi_Mo, by decide, by decide, by decide +kernel⟩
theorem mf_Mo_length : gMV y_Mo_length b_Mo_length 1 (some .int) 0 := ⟨wc_Mo_length, wm_Mo_length, ws_Mo_length, wi_Mo, by decide, by decide, by decide +kernel⟩
theorem mf_Mo_path : gMV y_Mo_path b_Mo_path 2 (some .int) 1 := ⟨wc_Mo_path, wm_Mo_path, ws_Mo_path, wi_Mo, by decide, by decide, by decide +kernel⟩
theorem mf_Mo_input : gMV y_Mo_input b_Mo_input 2 (some .int) 1 := ⟨wc_Mo_input, wm_Mo_input, ws_Mo_input, wi_Mo, by decide, by decide, by decide +kernel⟩
end
