section
-- ===== PART A: goes FIRST, ahead of the names: the tables' words, and 'selects' of the private methods out of them =====
/-- a private method of a class that the tables say can be made, by its rows of tables_1 -/
def lw_okq (q : MethodName × Nat) : Prop := (q.1.cls ≠ "java/lang/invoke/MethodHandle" ∧ q.1.cls ≠ "java/lang/invoke/VarHandle") ∧ Cond.instantiable q.1.cls q.2 ∈ tables_1 ∧ Cond.privateMethod q.1 ∈ tables_1 ∧ Cond.instanceMethod q.1 ∈ tables_1
theorem lw_p0 : lw_okq (⟨"BeansOnTheOtherSide", "refusalUnless", "(II)I"⟩, 9) := ⟨⟨by decide +kernel, by decide +kernel⟩, List.mem_of_getElem? (i := 23) (by decide +kernel), List.mem_of_getElem? (i := 215) (by decide +kernel), List.mem_of_getElem? (i := 216) (by decide +kernel)⟩
theorem lw_p1 : lw_okq (⟨"BeansOnTheOtherSide$Camp", "turnsOver", "(I)Z"⟩, 14) := ⟨⟨by decide +kernel, by decide +kernel⟩, List.mem_of_getElem? (i := 88) (by decide +kernel), List.mem_of_getElem? (i := 279) (by decide +kernel), List.mem_of_getElem? (i := 280) (by decide +kernel)⟩
theorem lw_p2 : lw_okq (⟨"BeansOnTheOtherSide$Camp", "restSleepers", "()V"⟩, 14) := ⟨⟨by decide +kernel, by decide +kernel⟩, List.mem_of_getElem? (i := 88) (by decide +kernel), List.mem_of_getElem? (i := 289) (by decide +kernel), List.mem_of_getElem? (i := 290) (by decide +kernel)⟩
theorem lw_p3 : lw_okq (⟨"BeansOnTheOtherSide$Camp", "pour", "(I)V"⟩, 14) := ⟨⟨by decide +kernel, by decide +kernel⟩, List.mem_of_getElem? (i := 88) (by decide +kernel), List.mem_of_getElem? (i := 300) (by decide +kernel), List.mem_of_getElem? (i := 301) (by decide +kernel)⟩
theorem lw_p4 : lw_okq (⟨"BeansOnTheOtherSide$Camp", "endDay", "()V"⟩, 14) := ⟨⟨by decide +kernel, by decide +kernel⟩, List.mem_of_getElem? (i := 88) (by decide +kernel), List.mem_of_getElem? (i := 390) (by decide +kernel), List.mem_of_getElem? (i := 391) (by decide +kernel)⟩
theorem lw_p5 : lw_okq (⟨"BeansOnTheOtherSide", "thinkDaysOn", "(I)V"⟩, 9) := ⟨⟨by decide +kernel, by decide +kernel⟩, List.mem_of_getElem? (i := 23) (by decide +kernel), List.mem_of_getElem? (i := 448) (by decide +kernel), List.mem_of_getElem? (i := 449) (by decide +kernel)⟩
theorem lw_p6 : lw_okq (⟨"BeansOnTheOtherSide", "owedBehindWithWaker", "(III)I"⟩, 9) := ⟨⟨by decide +kernel, by decide +kernel⟩, List.mem_of_getElem? (i := 23) (by decide +kernel), List.mem_of_getElem? (i := 472) (by decide +kernel), List.mem_of_getElem? (i := 473) (by decide +kernel)⟩
theorem lw_p7 : lw_okq (⟨"BeansOnTheOtherSide", "fillMostWoken", "()V"⟩, 9) := ⟨⟨by decide +kernel, by decide +kernel⟩, List.mem_of_getElem? (i := 23) (by decide +kernel), List.mem_of_getElem? (i := 480) (by decide +kernel), List.mem_of_getElem? (i := 481) (by decide +kernel)⟩
theorem lw_p8 : lw_okq (⟨"BeansOnTheOtherSide", "mostWokenFrom", "(II)I"⟩, 9) := ⟨⟨by decide +kernel, by decide +kernel⟩, List.mem_of_getElem? (i := 23) (by decide +kernel), List.mem_of_getElem? (i := 485) (by decide +kernel), List.mem_of_getElem? (i := 486) (by decide +kernel)⟩
theorem lw_p9 : lw_okq (⟨"BeansOnTheOtherSide", "firstMatchOf", "(II)I"⟩, 9) := ⟨⟨by decide +kernel, by decide +kernel⟩, List.mem_of_getElem? (i := 23) (by decide +kernel), List.mem_of_getElem? (i := 493) (by decide +kernel), List.mem_of_getElem? (i := 494) (by decide +kernel)⟩
theorem lw_p10 : lw_okq (⟨"BeansOnTheOtherSide", "owedBehindWithMilk", "(II)I"⟩, 9) := ⟨⟨by decide +kernel, by decide +kernel⟩, List.mem_of_getElem? (i := 23) (by decide +kernel), List.mem_of_getElem? (i := 501) (by decide +kernel), List.mem_of_getElem? (i := 502) (by decide +kernel)⟩
theorem lw_p11 : lw_okq (⟨"BeansOnTheOtherSide", "owedBehindKeeping", "(II)I"⟩, 9) := ⟨⟨by decide +kernel, by decide +kernel⟩, List.mem_of_getElem? (i := 23) (by decide +kernel), List.mem_of_getElem? (i := 515) (by decide +kernel), List.mem_of_getElem? (i := 516) (by decide +kernel)⟩
theorem lw_p12 : lw_okq (⟨"BeansOnTheOtherSide", "owedBehindWithout", "(II)I"⟩, 9) := ⟨⟨by decide +kernel, by decide +kernel⟩, List.mem_of_getElem? (i := 23) (by decide +kernel), List.mem_of_getElem? (i := 549) (by decide +kernel), List.mem_of_getElem? (i := 550) (by decide +kernel)⟩
theorem lw_p13 : lw_okq (⟨"BeansOnTheOtherSide", "mindOwesAsTold", "(ILBeansOnTheOtherSide$Shelf;)Z"⟩, 9) := ⟨⟨by decide +kernel, by decide +kernel⟩, List.mem_of_getElem? (i := 23) (by decide +kernel), List.mem_of_getElem? (i := 557) (by decide +kernel), List.mem_of_getElem? (i := 558) (by decide +kernel)⟩
theorem lw_p14 : lw_okq (⟨"BeansOnTheOtherSide$Shelf", "leastOfSort", "()I"⟩, 6) := ⟨⟨by decide +kernel, by decide +kernel⟩, List.mem_of_getElem? (i := 152) (by decide +kernel), List.mem_of_getElem? (i := 565) (by decide +kernel), List.mem_of_getElem? (i := 566) (by decide +kernel)⟩
theorem lw_p15 : lw_okq (⟨"BeansOnTheOtherSide", "fillDrunkBehind", "()V"⟩, 9) := ⟨⟨by decide +kernel, by decide +kernel⟩, List.mem_of_getElem? (i := 23) (by decide +kernel), List.mem_of_getElem? (i := 574) (by decide +kernel), List.mem_of_getElem? (i := 575) (by decide +kernel)⟩
def lw_privs_1 : List (MethodName × Nat) := [(⟨"BeansOnTheOtherSide", "refusalUnless", "(II)I"⟩, 9), (⟨"BeansOnTheOtherSide$Camp", "turnsOver", "(I)Z"⟩, 14), (⟨"BeansOnTheOtherSide$Camp", "restSleepers", "()V"⟩, 14), (⟨"BeansOnTheOtherSide$Camp", "pour", "(I)V"⟩, 14), (⟨"BeansOnTheOtherSide$Camp", "endDay", "()V"⟩, 14), (⟨"BeansOnTheOtherSide", "thinkDaysOn", "(I)V"⟩, 9), (⟨"BeansOnTheOtherSide", "owedBehindWithWaker", "(III)I"⟩, 9), (⟨"BeansOnTheOtherSide", "fillMostWoken", "()V"⟩, 9), (⟨"BeansOnTheOtherSide", "mostWokenFrom", "(II)I"⟩, 9), (⟨"BeansOnTheOtherSide", "firstMatchOf", "(II)I"⟩, 9), (⟨"BeansOnTheOtherSide", "owedBehindWithMilk", "(II)I"⟩, 9), (⟨"BeansOnTheOtherSide", "owedBehindKeeping", "(II)I"⟩, 9), (⟨"BeansOnTheOtherSide", "owedBehindWithout", "(II)I"⟩, 9), (⟨"BeansOnTheOtherSide", "mindOwesAsTold", "(ILBeansOnTheOtherSide$Shelf;)Z"⟩, 9), (⟨"BeansOnTheOtherSide$Shelf", "leastOfSort", "()I"⟩, 6), (⟨"BeansOnTheOtherSide", "fillDrunkBehind", "()V"⟩, 9)]
theorem lw_r1 : ∀ q ∈ lw_privs_1, lw_okq q := List.forall_mem_cons.mpr ⟨lw_p0, List.forall_mem_cons.mpr ⟨lw_p1, List.forall_mem_cons.mpr ⟨lw_p2, List.forall_mem_cons.mpr ⟨lw_p3, List.forall_mem_cons.mpr ⟨lw_p4, List.forall_mem_cons.mpr ⟨lw_p5, List.forall_mem_cons.mpr ⟨lw_p6, List.forall_mem_cons.mpr ⟨lw_p7, List.forall_mem_cons.mpr ⟨lw_p8, List.forall_mem_cons.mpr ⟨lw_p9, List.forall_mem_cons.mpr ⟨lw_p10, List.forall_mem_cons.mpr ⟨lw_p11, List.forall_mem_cons.mpr ⟨lw_p12, List.forall_mem_cons.mpr ⟨lw_p13, List.forall_mem_cons.mpr ⟨lw_p14, List.forall_mem_cons.mpr ⟨lw_p15, fun _ h => absurd h List.not_mem_nil⟩⟩⟩⟩⟩⟩⟩⟩⟩⟩⟩⟩⟩⟩⟩⟩
theorem lw_p16 : lw_okq (⟨"BeansOnTheOtherSide", "bagsGoAsTold", "(ILBeansOnTheOtherSide$Shelf;)Z"⟩, 9) := ⟨⟨by decide +kernel, by decide +kernel⟩, List.mem_of_getElem? (i := 23) (by decide +kernel), List.mem_of_getElem? (i := 578) (by decide +kernel), List.mem_of_getElem? (i := 579) (by decide +kernel)⟩
theorem lw_p17 : lw_okq (⟨"BeansOnTheOtherSide", "gainInMind", "(I)I"⟩, 9) := ⟨⟨by decide +kernel, by decide +kernel⟩, List.mem_of_getElem? (i := 23) (by decide +kernel), List.mem_of_getElem? (i := 586) (by decide +kernel), List.mem_of_getElem? (i := 587) (by decide +kernel)⟩
theorem lw_p18 : lw_okq (⟨"BeansOnTheOtherSide", "owedBehindFalls", "(II)I"⟩, 9) := ⟨⟨by decide +kernel, by decide +kernel⟩, List.mem_of_getElem? (i := 23) (by decide +kernel), List.mem_of_getElem? (i := 598) (by decide +kernel), List.mem_of_getElem? (i := 599) (by decide +kernel)⟩
theorem lw_p19 : lw_okq (⟨"java/lang/Throwable", "fillInStackTrace", "(I)Ljava/lang/Throwable;"⟩, 6) := ⟨⟨by decide +kernel, by decide +kernel⟩, List.mem_of_getElem? (i := 773) (by decide +kernel), List.mem_of_getElem? (i := 771) (by decide +kernel), List.mem_of_getElem? (i := 772) (by decide +kernel)⟩
theorem lw_p20 : lw_okq (⟨"BeansOnTheOtherSideModel", "wrongRow", "(II)I"⟩, 19) := ⟨⟨by decide +kernel, by decide +kernel⟩, List.mem_of_getElem? (i := 848) (by decide +kernel), List.mem_of_getElem? (i := 916) (by decide +kernel), List.mem_of_getElem? (i := 917) (by decide +kernel)⟩
theorem lw_p21 : lw_okq (⟨"BeansOnTheOtherSideModel", "readsStatement", "()Z"⟩, 19) := ⟨⟨by decide +kernel, by decide +kernel⟩, List.mem_of_getElem? (i := 848) (by decide +kernel), List.mem_of_getElem? (i := 926) (by decide +kernel), List.mem_of_getElem? (i := 927) (by decide +kernel)⟩
theorem lw_p22 : lw_okq (⟨"BeansOnTheOtherSideModel", "here", "()I"⟩, 19) := ⟨⟨by decide +kernel, by decide +kernel⟩, List.mem_of_getElem? (i := 848) (by decide +kernel), List.mem_of_getElem? (i := 930) (by decide +kernel), List.mem_of_getElem? (i := 931) (by decide +kernel)⟩
theorem lw_p23 : lw_okq (⟨"BeansOnTheOtherSideModel", "readsNumber", "(II)Z"⟩, 19) := ⟨⟨by decide +kernel, by decide +kernel⟩, List.mem_of_getElem? (i := 848) (by decide +kernel), List.mem_of_getElem? (i := 934) (by decide +kernel), List.mem_of_getElem? (i := 935) (by decide +kernel)⟩
theorem lw_p24 : lw_okq (⟨"BeansOnTheOtherSideModel", "isDone", "(I)Z"⟩, 19) := ⟨⟨by decide +kernel, by decide +kernel⟩, List.mem_of_getElem? (i := 848) (by decide +kernel), List.mem_of_getElem? (i := 941) (by decide +kernel), List.mem_of_getElem? (i := 942) (by decide +kernel)⟩
theorem lw_p25 : lw_okq (⟨"BeansOnTheOtherSideModel", "adds", "(III)V"⟩, 19) := ⟨⟨by decide +kernel, by decide +kernel⟩, List.mem_of_getElem? (i := 848) (by decide +kernel), List.mem_of_getElem? (i := 951) (by decide +kernel), List.mem_of_getElem? (i := 952) (by decide +kernel)⟩
theorem lw_p26 : lw_okq (⟨"BeansOnTheOtherSideModel", "isDrinker", "(I)Z"⟩, 19) := ⟨⟨by decide +kernel, by decide +kernel⟩, List.mem_of_getElem? (i := 848) (by decide +kernel), List.mem_of_getElem? (i := 958) (by decide +kernel), List.mem_of_getElem? (i := 959) (by decide +kernel)⟩
theorem lw_p27 : lw_okq (⟨"BeansOnTheOtherSideModel", "daysOn", "([II)V"⟩, 19) := ⟨⟨by decide +kernel, by decide +kernel⟩, List.mem_of_getElem? (i := 848) (by decide +kernel), List.mem_of_getElem? (i := 962) (by decide +kernel), List.mem_of_getElem? (i := 963) (by decide +kernel)⟩
theorem lw_p28 : lw_okq (⟨"BeansOnTheOtherSideModel", "day", "([I)V"⟩, 19) := ⟨⟨by decide +kernel, by decide +kernel⟩, List.mem_of_getElem? (i := 848) (by decide +kernel), List.mem_of_getElem? (i := 966) (by decide +kernel), List.mem_of_getElem? (i := 967) (by decide +kernel)⟩
theorem lw_p29 : lw_okq (⟨"BeansOnTheOtherSideModel", "drinks", "([II)V"⟩, 19) := ⟨⟨by decide +kernel, by decide +kernel⟩, List.mem_of_getElem? (i := 848) (by decide +kernel), List.mem_of_getElem? (i := 982) (by decide +kernel), List.mem_of_getElem? (i := 983) (by decide +kernel)⟩
theorem lw_p30 : lw_okq (⟨"BeansOnTheOtherSideModel", "nextOf", "(I)I"⟩, 19) := ⟨⟨by decide +kernel, by decide +kernel⟩, List.mem_of_getElem? (i := 848) (by decide +kernel), List.mem_of_getElem? (i := 1005) (by decide +kernel), List.mem_of_getElem? (i := 1006) (by decide +kernel)⟩
theorem lw_p31 : lw_okq (⟨"BeansOnTheOtherSideModel", "manyOf", "(I)I"⟩, 19) := ⟨⟨by decide +kernel, by decide +kernel⟩, List.mem_of_getElem? (i := 848) (by decide +kernel), List.mem_of_getElem? (i := 1013) (by decide +kernel), List.mem_of_getElem? (i := 1014) (by decide +kernel)⟩
def lw_privs_2 : List (MethodName × Nat) := [(⟨"BeansOnTheOtherSide", "bagsGoAsTold", "(ILBeansOnTheOtherSide$Shelf;)Z"⟩, 9), (⟨"BeansOnTheOtherSide", "gainInMind", "(I)I"⟩, 9), (⟨"BeansOnTheOtherSide", "owedBehindFalls", "(II)I"⟩, 9), (⟨"java/lang/Throwable", "fillInStackTrace", "(I)Ljava/lang/Throwable;"⟩, 6), (⟨"BeansOnTheOtherSideModel", "wrongRow", "(II)I"⟩, 19), (⟨"BeansOnTheOtherSideModel", "readsStatement", "()Z"⟩, 19), (⟨"BeansOnTheOtherSideModel", "here", "()I"⟩, 19), (⟨"BeansOnTheOtherSideModel", "readsNumber", "(II)Z"⟩, 19), (⟨"BeansOnTheOtherSideModel", "isDone", "(I)Z"⟩, 19), (⟨"BeansOnTheOtherSideModel", "adds", "(III)V"⟩, 19), (⟨"BeansOnTheOtherSideModel", "isDrinker", "(I)Z"⟩, 19), (⟨"BeansOnTheOtherSideModel", "daysOn", "([II)V"⟩, 19), (⟨"BeansOnTheOtherSideModel", "day", "([I)V"⟩, 19), (⟨"BeansOnTheOtherSideModel", "drinks", "([II)V"⟩, 19), (⟨"BeansOnTheOtherSideModel", "nextOf", "(I)I"⟩, 19), (⟨"BeansOnTheOtherSideModel", "manyOf", "(I)I"⟩, 19)]
theorem lw_r2 : ∀ q ∈ lw_privs_2, lw_okq q := List.forall_mem_cons.mpr ⟨lw_p16, List.forall_mem_cons.mpr ⟨lw_p17, List.forall_mem_cons.mpr ⟨lw_p18, List.forall_mem_cons.mpr ⟨lw_p19, List.forall_mem_cons.mpr ⟨lw_p20, List.forall_mem_cons.mpr ⟨lw_p21, List.forall_mem_cons.mpr ⟨lw_p22, List.forall_mem_cons.mpr ⟨lw_p23, List.forall_mem_cons.mpr ⟨lw_p24, List.forall_mem_cons.mpr ⟨lw_p25, List.forall_mem_cons.mpr ⟨lw_p26, List.forall_mem_cons.mpr ⟨lw_p27, List.forall_mem_cons.mpr ⟨lw_p28, List.forall_mem_cons.mpr ⟨lw_p29, List.forall_mem_cons.mpr ⟨lw_p30, List.forall_mem_cons.mpr ⟨lw_p31, fun _ h => absurd h List.not_mem_nil⟩⟩⟩⟩⟩⟩⟩⟩⟩⟩⟩⟩⟩⟩⟩⟩
theorem lw_p32 : lw_okq (⟨"BeansOnTheOtherSideModel", "wrongKept", "(I)I"⟩, 19) := ⟨⟨by decide +kernel, by decide +kernel⟩, List.mem_of_getElem? (i := 848) (by decide +kernel), List.mem_of_getElem? (i := 1021) (by decide +kernel), List.mem_of_getElem? (i := 1022) (by decide +kernel)⟩
theorem lw_p33 : lw_okq (⟨"BeansOnTheOtherSideModel", "sets", "(II)I"⟩, 19) := ⟨⟨by decide +kernel, by decide +kernel⟩, List.mem_of_getElem? (i := 848) (by decide +kernel), List.mem_of_getElem? (i := 1029) (by decide +kernel), List.mem_of_getElem? (i := 1030) (by decide +kernel)⟩
theorem lw_p34 : lw_okq (⟨"BeansOnTheOtherSideModel", "takes", "(I)V"⟩, 19) := ⟨⟨by decide +kernel, by decide +kernel⟩, List.mem_of_getElem? (i := 848) (by decide +kernel), List.mem_of_getElem? (i := 1059) (by decide +kernel), List.mem_of_getElem? (i := 1060) (by decide +kernel)⟩
theorem lw_p35 : lw_okq (⟨"BeansOnTheOtherSideModel", "matches", "()V"⟩, 19) := ⟨⟨by decide +kernel, by decide +kernel⟩, List.mem_of_getElem? (i := 848) (by decide +kernel), List.mem_of_getElem? (i := 1088) (by decide +kernel), List.mem_of_getElem? (i := 1089) (by decide +kernel)⟩
theorem lw_p36 : lw_okq (⟨"BeansOnTheOtherSideModel", "canWake", "(II)Z"⟩, 19) := ⟨⟨by decide +kernel, by decide +kernel⟩, List.mem_of_getElem? (i := 848) (by decide +kernel), List.mem_of_getElem? (i := 1092) (by decide +kernel), List.mem_of_getElem? (i := 1093) (by decide +kernel)⟩
theorem lw_p37 : lw_okq (⟨"BeansOnTheOtherSideModel", "wakerOf", "(II)I"⟩, 19) := ⟨⟨by decide +kernel, by decide +kernel⟩, List.mem_of_getElem? (i := 848) (by decide +kernel), List.mem_of_getElem? (i := 1096) (by decide +kernel), List.mem_of_getElem? (i := 1097) (by decide +kernel)⟩
theorem lw_p38 : lw_okq (⟨"BeansOnTheOtherSideModel", "owedNow", "(I)I"⟩, 19) := ⟨⟨by decide +kernel, by decide +kernel⟩, List.mem_of_getElem? (i := 848) (by decide +kernel), List.mem_of_getElem? (i := 1104) (by decide +kernel), List.mem_of_getElem? (i := 1105) (by decide +kernel)⟩
theorem lw_p39 : lw_okq (⟨"BeansOnTheOtherSideModel", "isTold", "(III)Z"⟩, 19) := ⟨⟨by decide +kernel, by decide +kernel⟩, List.mem_of_getElem? (i := 848) (by decide +kernel), List.mem_of_getElem? (i := 1131) (by decide +kernel), List.mem_of_getElem? (i := 1132) (by decide +kernel)⟩
theorem lw_p40 : lw_okq (⟨"BeansOnTheOtherSideModel", "isShedSo", "(II)Z"⟩, 19) := ⟨⟨by decide +kernel, by decide +kernel⟩, List.mem_of_getElem? (i := 848) (by decide +kernel), List.mem_of_getElem? (i := 1143) (by decide +kernel), List.mem_of_getElem? (i := 1144) (by decide +kernel)⟩
theorem lw_p41 : lw_okq (⟨"BeansOnTheOtherSideModel", "hasBy", "(IIIIII)I"⟩, 19) := ⟨⟨by decide +kernel, by decide +kernel⟩, List.mem_of_getElem? (i := 848) (by decide +kernel), List.mem_of_getElem? (i := 1151) (by decide +kernel), List.mem_of_getElem? (i := 1152) (by decide +kernel)⟩
theorem lw_p42 : lw_okq (⟨"BeansOnTheOtherSideModel", "drawn", "(I)I"⟩, 19) := ⟨⟨by decide +kernel, by decide +kernel⟩, List.mem_of_getElem? (i := 848) (by decide +kernel), List.mem_of_getElem? (i := 1186) (by decide +kernel), List.mem_of_getElem? (i := 1187) (by decide +kernel)⟩
def lw_privs_3 : List (MethodName × Nat) := [(⟨"BeansOnTheOtherSideModel", "wrongKept", "(I)I"⟩, 19), (⟨"BeansOnTheOtherSideModel", "sets", "(II)I"⟩, 19), (⟨"BeansOnTheOtherSideModel", "takes", "(I)V"⟩, 19), (⟨"BeansOnTheOtherSideModel", "matches", "()V"⟩, 19), (⟨"BeansOnTheOtherSideModel", "canWake", "(II)Z"⟩, 19), (⟨"BeansOnTheOtherSideModel", "wakerOf", "(II)I"⟩, 19), (⟨"BeansOnTheOtherSideModel", "owedNow", "(I)I"⟩, 19), (⟨"BeansOnTheOtherSideModel", "isTold", "(III)Z"⟩, 19), (⟨"BeansOnTheOtherSideModel", "isShedSo", "(II)Z"⟩, 19), (⟨"BeansOnTheOtherSideModel", "hasBy", "(IIIIII)I"⟩, 19), (⟨"BeansOnTheOtherSideModel", "drawn", "(I)I"⟩, 19)]
theorem lw_r3 : ∀ q ∈ lw_privs_3, lw_okq q := List.forall_mem_cons.mpr ⟨lw_p32, List.forall_mem_cons.mpr ⟨lw_p33, List.forall_mem_cons.mpr ⟨lw_p34, List.forall_mem_cons.mpr ⟨lw_p35, List.forall_mem_cons.mpr ⟨lw_p36, List.forall_mem_cons.mpr ⟨lw_p37, List.forall_mem_cons.mpr ⟨lw_p38, List.forall_mem_cons.mpr ⟨lw_p39, List.forall_mem_cons.mpr ⟨lw_p40, List.forall_mem_cons.mpr ⟨lw_p41, List.forall_mem_cons.mpr ⟨lw_p42, fun _ h => absurd h List.not_mem_nil⟩⟩⟩⟩⟩⟩⟩⟩⟩⟩⟩
def lw_privs : List (MethodName × Nat) := lw_privs_1 ++ (lw_privs_2 ++ (lw_privs_3))
def lw_tbl : List Cond := k2_sels lw_privs ++ tables_1
theorem lw_privs_ok : ∀ q ∈ lw_privs, lw_okq q := by
  show ∀ q ∈ lw_privs_1 ++ (lw_privs_2 ++ (lw_privs_3)), lw_okq q
  exact List.forall_mem_append.mpr ⟨lw_r1, List.forall_mem_append.mpr ⟨lw_r2, lw_r3⟩⟩
def RX0 : String := "BeansOnTheOtherSide$Banker"
def TX0 : u_T := fun k => match k with
  | _ => ("", "", "", false)
def tyX0 : Nat → FieldType := fun k => match k with
  | _ => .int
abbrev wsX00 : List Cond := u_ws RX0 TX0 0
theorem nmX0 : ∀ a, a < 0 → ∀ b, b < 0 → a ≠ b → (TX0 a).2.1 ≠ (TX0 b).2.1 := by decide +kernel
theorem tyX0_ok : ∀ k, k < 0 → parseFieldDescriptor (TX0 k).2.2.1 = some (tyX0 k) := by decide +kernel
def RX1 : String := "BeansOnTheOtherSide$Camp"
def TX1 : u_T := fun k => match k with
  | 0 => ("BeansOnTheOtherSide$Camp", "kinds", "[LBeansOnTheOtherSide$Drinker;", true)
  | 1 => ("BeansOnTheOtherSide$Camp", "kind", "[I", true)
  | 2 => ("BeansOnTheOtherSide$Camp", "figure", "[I", true)
  | 3 => ("BeansOnTheOtherSide$Camp", "waker", "[I", true)
  | 4 => ("BeansOnTheOtherSide$Camp", "owes", "[I", true)
  | 5 => ("BeansOnTheOtherSide$Camp", "tired", "[I", true)
  | 6 => ("BeansOnTheOtherSide$Camp", "people", "I", false)
  | 7 => ("BeansOnTheOtherSide$Camp", "asleep", "I", false)
  | 8 => ("BeansOnTheOtherSide$Camp", "bagsLeft", "I", false)
  | 9 => ("BeansOnTheOtherSide$Camp", "day", "I", false)
  | 10 => ("BeansOnTheOtherSide$Camp", "drunk", "[I", true)
  | 11 => ("BeansOnTheOtherSide$Camp", "halved", "I", false)
  | 12 => ("BeansOnTheOtherSide$Camp", "dry", "I", false)
  | _ => ("BeansOnTheOtherSide$Camp", "asleepForEver", "I", false)
def tyX1 : Nat → FieldType := fun k => match k with
  | 0 => .array (.object "BeansOnTheOtherSide$Drinker")
  | 1 => .array .int
  | 2 => .array .int
  | 3 => .array .int
  | 4 => .array .int
  | 5 => .array .int
  | 6 => .int
  | 7 => .int
  | 8 => .int
  | 9 => .int
  | 10 => .array .int
  | 11 => .int
  | 12 => .int
  | _ => .int
abbrev wsX10 : List Cond := u_ws RX1 TX1 14
theorem nmX1 : ∀ a, a < 14 → ∀ b, b < 14 → a ≠ b → (TX1 a).2.1 ≠ (TX1 b).2.1 := by decide +kernel
theorem tyX1_ok : ∀ k, k < 14 → parseFieldDescriptor (TX1 k).2.2.1 = some (tyX1 k) := by decide +kernel
def RX2 : String := "BeansOnTheOtherSide$Captain"
def TX2 : u_T := fun k => match k with
  | _ => ("", "", "", false)
def tyX2 : Nat → FieldType := fun k => match k with
  | _ => .int
abbrev wsX20 : List Cond := u_ws RX2 TX2 0
theorem nmX2 : ∀ a, a < 0 → ∀ b, b < 0 → a ≠ b → (TX2 a).2.1 ≠ (TX2 b).2.1 := by decide +kernel
theorem tyX2_ok : ∀ k, k < 0 → parseFieldDescriptor (TX2 k).2.2.1 = some (tyX2 k) := by decide +kernel
def RX3 : String := "BeansOnTheOtherSide$Clerk"
def TX3 : u_T := fun k => match k with
  | _ => ("", "", "", false)
def tyX3 : Nat → FieldType := fun k => match k with
  | _ => .int
abbrev wsX30 : List Cond := u_ws RX3 TX3 0
theorem nmX3 : ∀ a, a < 0 → ∀ b, b < 0 → a ≠ b → (TX3 a).2.1 ≠ (TX3 b).2.1 := by decide +kernel
theorem tyX3_ok : ∀ k, k < 0 → parseFieldDescriptor (TX3 k).2.2.1 = some (tyX3 k) := by decide +kernel
def RX4 : String := "BeansOnTheOtherSide$Drinker"
def TX4 : u_T := fun k => match k with
  | _ => ("", "", "", false)
def tyX4 : Nat → FieldType := fun k => match k with
  | _ => .int
abbrev wsX40 : List Cond := u_ws RX4 TX4 0
theorem nmX4 : ∀ a, a < 0 → ∀ b, b < 0 → a ≠ b → (TX4 a).2.1 ≠ (TX4 b).2.1 := by decide +kernel
theorem tyX4_ok : ∀ k, k < 0 → parseFieldDescriptor (TX4 k).2.2.1 = some (tyX4 k) := by decide +kernel
def RX5 : String := "BeansOnTheOtherSide$Lover"
def TX5 : u_T := fun k => match k with
  | _ => ("", "", "", false)
def tyX5 : Nat → FieldType := fun k => match k with
  | _ => .int
abbrev wsX50 : List Cond := u_ws RX5 TX5 0
theorem nmX5 : ∀ a, a < 0 → ∀ b, b < 0 → a ≠ b → (TX5 a).2.1 ≠ (TX5 b).2.1 := by decide +kernel
theorem tyX5_ok : ∀ k, k < 0 → parseFieldDescriptor (TX5 k).2.2.1 = some (tyX5 k) := by decide +kernel
def RX6 : String := "BeansOnTheOtherSide$Nurse"
def TX6 : u_T := fun k => match k with
  | _ => ("", "", "", false)
def tyX6 : Nat → FieldType := fun k => match k with
  | _ => .int
abbrev wsX60 : List Cond := u_ws RX6 TX6 0
theorem nmX6 : ∀ a, a < 0 → ∀ b, b < 0 → a ≠ b → (TX6 a).2.1 ≠ (TX6 b).2.1 := by decide +kernel
theorem tyX6_ok : ∀ k, k < 0 → parseFieldDescriptor (TX6 k).2.2.1 = some (tyX6 k) := by decide +kernel
def RX7 : String := "BeansOnTheOtherSide$Saint"
def TX7 : u_T := fun k => match k with
  | _ => ("", "", "", false)
def tyX7 : Nat → FieldType := fun k => match k with
  | _ => .int
abbrev wsX70 : List Cond := u_ws RX7 TX7 0
theorem nmX7 : ∀ a, a < 0 → ∀ b, b < 0 → a ≠ b → (TX7 a).2.1 ≠ (TX7 b).2.1 := by decide +kernel
theorem tyX7_ok : ∀ k, k < 0 → parseFieldDescriptor (TX7 k).2.2.1 = some (tyX7 k) := by decide +kernel
def RX8 : String := "BeansOnTheOtherSide$Shelf"
def TX8 : u_T := fun k => match k with
  | 0 => ("BeansOnTheOtherSide$Shelf", "holds", "I", false)
  | 1 => ("BeansOnTheOtherSide$Shelf", "kind", "I", false)
  | 2 => ("BeansOnTheOtherSide$Shelf", "figure", "I", false)
  | 3 => ("BeansOnTheOtherSide$Shelf", "sort", "I", false)
  | 4 => ("BeansOnTheOtherSide$Shelf", "size", "I", false)
  | _ => ("BeansOnTheOtherSide$Shelf", "elements", "[I", true)
def tyX8 : Nat → FieldType := fun k => match k with
  | 0 => .int
  | 1 => .int
  | 2 => .int
  | 3 => .int
  | 4 => .int
  | _ => .array .int
abbrev wsX80 : List Cond := u_ws RX8 TX8 6
theorem nmX8 : ∀ a, a < 6 → ∀ b, b < 6 → a ≠ b → (TX8 a).2.1 ≠ (TX8 b).2.1 := by decide +kernel
theorem tyX8_ok : ∀ k, k < 6 → parseFieldDescriptor (TX8 k).2.2.1 = some (tyX8 k) := by decide +kernel
def RX9 : String := "BeansOnTheOtherSide$Smuggler"
def TX9 : u_T := fun k => match k with
  | _ => ("", "", "", false)
def tyX9 : Nat → FieldType := fun k => match k with
  | _ => .int
abbrev wsX90 : List Cond := u_ws RX9 TX9 0
theorem nmX9 : ∀ a, a < 0 → ∀ b, b < 0 → a ≠ b → (TX9 a).2.1 ≠ (TX9 b).2.1 := by decide +kernel
theorem tyX9_ok : ∀ k, k < 0 → parseFieldDescriptor (TX9 k).2.2.1 = some (tyX9 k) := by decide +kernel
def RX10 : String := "BeansOnTheOtherSide"
def TX10 : u_T := fun k => match k with
  | 0 => ("BeansOnTheOtherSide", "kinds", "[LBeansOnTheOtherSide$Drinker;", true)
  | 1 => ("BeansOnTheOtherSide", "now", "LBeansOnTheOtherSide$Camp;", true)
  | 2 => ("BeansOnTheOtherSide", "image", "LBeansOnTheOtherSide$Camp;", true)
  | 3 => ("BeansOnTheOtherSide", "mind", "LBeansOnTheOtherSide$Camp;", true)
  | 4 => ("BeansOnTheOtherSide", "shelves", "[LBeansOnTheOtherSide$Shelf;", true)
  | 5 => ("BeansOnTheOtherSide", "mostWoken", "[I", true)
  | 6 => ("BeansOnTheOtherSide", "drunkBehind", "[I", true)
  | 7 => ("BeansOnTheOtherSide", "gains", "[I", true)
  | _ => ("BeansOnTheOtherSide", "imageTaken", "Z", false)
def tyX10 : Nat → FieldType := fun k => match k with
  | 0 => .array (.object "BeansOnTheOtherSide$Drinker")
  | 1 => .object "BeansOnTheOtherSide$Camp"
  | 2 => .object "BeansOnTheOtherSide$Camp"
  | 3 => .object "BeansOnTheOtherSide$Camp"
  | 4 => .array (.object "BeansOnTheOtherSide$Shelf")
  | 5 => .array .int
  | 6 => .array .int
  | 7 => .array .int
  | _ => .boolean
abbrev wsX100 : List Cond := u_ws RX10 TX10 9
theorem nmX10 : ∀ a, a < 9 → ∀ b, b < 9 → a ≠ b → (TX10 a).2.1 ≠ (TX10 b).2.1 := by decide +kernel
theorem tyX10_ok : ∀ k, k < 9 → parseFieldDescriptor (TX10 k).2.2.1 = some (tyX10 k) := by decide +kernel
def RX11 : String := "BeansOnTheOtherSideModel"
def TX11 : u_T := fun k => match k with
  | 0 => ("BeansOnTheOtherSideModel", "s", "[I", true)
  | 1 => ("BeansOnTheOtherSideModel", "m", "[I", true)
  | 2 => ("BeansOnTheOtherSideModel", "image", "[I", true)
  | 3 => ("BeansOnTheOtherSideModel", "was", "[I", true)
  | 4 => ("BeansOnTheOtherSideModel", "drunk", "[I", true)
  | 5 => ("BeansOnTheOtherSideModel", "hasImage", "Z", false)
  | 6 => ("BeansOnTheOtherSideModel", "place", "I", false)
  | 7 => ("BeansOnTheOtherSideModel", "rowAt", "I", false)
  | 8 => ("BeansOnTheOtherSideModel", "rowEnd", "I", false)
  | 9 => ("BeansOnTheOtherSideModel", "numbers", "[I", true)
  | 10 => ("BeansOnTheOtherSideModel", "most", "[I", true)
  | 11 => ("BeansOnTheOtherSideModel", "seed", "I", false)
  | 12 => ("BeansOnTheOtherSideModel", "kept", "[I", true)
  | 13 => ("BeansOnTheOtherSideModel", "keptKind", "[I", true)
  | 14 => ("BeansOnTheOtherSideModel", "keptFigure", "[I", true)
  | 15 => ("BeansOnTheOtherSideModel", "sort", "[I", true)
  | 16 => ("BeansOnTheOtherSideModel", "size", "[I", true)
  | 17 => ("BeansOnTheOtherSideModel", "element", "[I", true)
  | _ => ("BeansOnTheOtherSideModel", "thrown", "I", false)
def tyX11 : Nat → FieldType := fun k => match k with
  | 0 => .array .int
  | 1 => .array .int
  | 2 => .array .int
  | 3 => .array .int
  | 4 => .array .int
  | 5 => .boolean
  | 6 => .int
  | 7 => .int
  | 8 => .int
  | 9 => .array .int
  | 10 => .array .int
  | 11 => .int
  | 12 => .array .int
  | 13 => .array .int
  | 14 => .array .int
  | 15 => .array .int
  | 16 => .array .int
  | 17 => .array .int
  | _ => .int
abbrev wsX110 : List Cond := u_ws RX11 TX11 19
theorem nmX11 : ∀ a, a < 19 → ∀ b, b < 19 → a ≠ b → (TX11 a).2.1 ≠ (TX11 b).2.1 := by decide +kernel
theorem tyX11_ok : ∀ k, k < 19 → parseFieldDescriptor (TX11 k).2.2.1 = some (tyX11 k) := by decide +kernel
abbrev mm_cls : List vw_C := [(RX0, TX0, 0), (RX1, TX1, 14), (RX2, TX2, 0), (RX3, TX3, 0), (RX4, TX4, 0), (RX5, TX5, 0), (RX6, TX6, 0), (RX7, TX7, 0), (RX8, TX8, 6), (RX9, TX9, 0), (RX10, TX10, 9), (RX11, TX11, 19)]
def yX0_cupsOn : MethodName := ⟨RX0, "cupsOn", "(II)I"⟩
def yX0_tiringFor : MethodName := ⟨RX0, "tiringFor", "(II)I"⟩
def yX0_debtFor : MethodName := ⟨RX0, "debtFor", "(II)I"⟩
def yX0_priceOf : MethodName := ⟨RX0, "priceOf", "(I)I"⟩
def yX0_failureOf : MethodName := ⟨RX0, "failureOf", "(I)I"⟩
def yX1_becomeLike : MethodName := ⟨RX1, "becomeLike", "(LBeansOnTheOtherSide$Camp;)V"⟩
def yX1_has : MethodName := ⟨RX1, "has", "(I)Z"⟩
def yX1_isAwake : MethodName := ⟨RX1, "isAwake", "(I)Z"⟩
def yX1_joins : MethodName := ⟨RX1, "joins", "(III)Z"⟩
def yX1_thirstOf : MethodName := ⟨RX1, "thirstOf", "(II)I"⟩
def yX1_thirstOfAll : MethodName := ⟨RX1, "thirstOfAll", "(I)I"⟩
def yX1_goDays : MethodName := ⟨RX1, "goDays", "(I)V"⟩
def yX1_restSleepers : MethodName := ⟨RX1, "restSleepers", "()V"⟩
def yX1_pour : MethodName := ⟨RX1, "pour", "(I)V"⟩
def yX1_endDay : MethodName := ⟨RX1, "endDay", "()V"⟩
def yX1_obeys : MethodName := ⟨RX1, "obeys", "(LBeansOnTheOtherSide$Shelf;I)Z"⟩
def yX1_turnsOver : MethodName := ⟨RX1, "turnsOver", "(I)Z"⟩
def yX1_setIn : MethodName := ⟨RX1, "setIn", "([III)Z"⟩
def yX1_owedInAll : MethodName := ⟨RX1, "owedInAll", "()I"⟩
def yX1_tiredInAll : MethodName := ⟨RX1, "tiredInAll", "()I"⟩
def yX1_drinkersOf : MethodName := ⟨RX1, "drinkersOf", "(I)I"⟩
def yX1_heaviestWaker : MethodName := ⟨RX1, "heaviestWaker", "()I"⟩
def yX1_deepestDrinker : MethodName := ⟨RX1, "deepestDrinker", "()I"⟩
def yX1_aloneBits : MethodName := ⟨RX1, "aloneBits", "()I"⟩
def yX2_cupsOn : MethodName := ⟨RX2, "cupsOn", "(II)I"⟩
def yX2_priceOf : MethodName := ⟨RX2, "priceOf", "(I)I"⟩
def yX3_cupsOn : MethodName := ⟨RX3, "cupsOn", "(II)I"⟩
def yX3_tiringFor : MethodName := ⟨RX3, "tiringFor", "(II)I"⟩
def yX3_priceOf : MethodName := ⟨RX3, "priceOf", "(I)I"⟩
def yX4_cupsOn : MethodName := ⟨RX4, "cupsOn", "(II)I"⟩
def yX4_tiringFor : MethodName := ⟨RX4, "tiringFor", "(II)I"⟩
def yX4_debtFor : MethodName := ⟨RX4, "debtFor", "(II)I"⟩
def yX4_priceOf : MethodName := ⟨RX4, "priceOf", "(I)I"⟩
def yX4_failureOf : MethodName := ⟨RX4, "failureOf", "(I)I"⟩
def yX5_cupsOn : MethodName := ⟨RX5, "cupsOn", "(II)I"⟩
def yX5_tiringFor : MethodName := ⟨RX5, "tiringFor", "(II)I"⟩
def yX6_cupsOn : MethodName := ⟨RX6, "cupsOn", "(II)I"⟩
def yX6_tiringFor : MethodName := ⟨RX6, "tiringFor", "(II)I"⟩
def yX6_priceOf : MethodName := ⟨RX6, "priceOf", "(I)I"⟩
def yX7_cupsOn : MethodName := ⟨RX7, "cupsOn", "(II)I"⟩
def yX7_tiringFor : MethodName := ⟨RX7, "tiringFor", "(II)I"⟩
def yX7_debtFor : MethodName := ⟨RX7, "debtFor", "(II)I"⟩
def yX7_priceOf : MethodName := ⟨RX7, "priceOf", "(I)I"⟩
def yX8_becomeRow : MethodName := ⟨RX8, "becomeRow", "(II)V"⟩
def yX8_hasPlace : MethodName := ⟨RX8, "hasPlace", "(I)Z"⟩
def yX8_hasPlaces : MethodName := ⟨RX8, "hasPlaces", "(II)Z"⟩
def yX8_at : MethodName := ⟨RX8, "at", "(I)I"⟩
def yX8_setAt : MethodName := ⟨RX8, "setAt", "(II)V"⟩
def yX8_numberAt : MethodName := ⟨RX8, "numberAt", "(II)I"⟩
def yX8_leastOfSort : MethodName := ⟨RX8, "leastOfSort", "()I"⟩
def yX8_allows : MethodName := ⟨RX8, "allows", "(II)Z"⟩
def yX9_cupsOn : MethodName := ⟨RX9, "cupsOn", "(II)I"⟩
def yX9_tiringFor : MethodName := ⟨RX9, "tiringFor", "(II)I"⟩
def yX9_debtFor : MethodName := ⟨RX9, "debtFor", "(II)I"⟩
def yX9_priceOf : MethodName := ⟨RX9, "priceOf", "(I)I"⟩
def yX9_failureOf : MethodName := ⟨RX9, "failureOf", "(I)I"⟩
def yX10_treaty : MethodName := ⟨RX10, "treaty", "(I)I"⟩
def yX10_drinker : MethodName := ⟨RX10, "drinker", "(II)I"⟩
def yX10_waker : MethodName := ⟨RX10, "waker", "(II)I"⟩
def yX10_comes : MethodName := ⟨RX10, "comes", "(II)I"⟩
def yX10_wakes : MethodName := ⟨RX10, "wakes", "(II)I"⟩
def yX10_tires : MethodName := ⟨RX10, "tires", "(II)I"⟩
def yX10_sleeps : MethodName := ⟨RX10, "sleeps", "(I)I"⟩
def yX10_bags : MethodName := ⟨RX10, "bags", "(I)I"⟩
def yX10_days : MethodName := ⟨RX10, "days", "(I)I"⟩
def yX10_owesThen : MethodName := ⟨RX10, "owesThen", "(II)I"⟩
def yX10_tiredThen : MethodName := ⟨RX10, "tiredThen", "(II)I"⟩
def yX10_then : MethodName := ⟨RX10, "then", "(II)I"⟩
def yX10_firstAsleep : MethodName := ⟨RX10, "firstAsleep", "(I)I"⟩
def yX10_out : MethodName := ⟨RX10, "out", "()I"⟩
def yX10_bestWaker : MethodName := ⟨RX10, "bestWaker", "(III)I"⟩
def yX10_match : MethodName := ⟨RX10, "match", "(I)I"⟩
def yX10_milk : MethodName := ⟨RX10, "milk", "(I)I"⟩
def yX10_fewest : MethodName := ⟨RX10, "fewest", "(I)I"⟩
def yX10_store : MethodName := ⟨RX10, "store", "(I)I"⟩
def yX10_heaviest : MethodName := ⟨RX10, "heaviest", "(I)I"⟩
def yX10_rest : MethodName := ⟨RX10, "rest", "(II)I"⟩
def yX10_whatIs : MethodName := ⟨RX10, "whatIs", "(III)I"⟩
def yX10_shed : MethodName := ⟨RX10, "shed", "(II)I"⟩
def yX10_two : MethodName := ⟨RX10, "two", "(III)I"⟩
def yX10_falls : MethodName := ⟨RX10, "falls", "(IIII)J"⟩
def yX10_mean : MethodName := ⟨RX10, "mean", "(I)J"⟩
def yX10_forged : MethodName := ⟨RX10, "forged", "(I)I"⟩
def yX10_judge : MethodName := ⟨RX10, "judge", "(I)I"⟩
def yX10_years : MethodName := ⟨RX10, "years", "(III)I"⟩
def yX10_image : MethodName := ⟨RX10, "image", "()I"⟩
def yX10_restore : MethodName := ⟨RX10, "restore", "()I"⟩
def yX10_count : MethodName := ⟨RX10, "count", "(I)I"⟩
def yX10_keep : MethodName := ⟨RX10, "keep", "(IIII)I"⟩
def yX10_row : MethodName := ⟨RX10, "row", "(III)I"⟩
def yX10_put : MethodName := ⟨RX10, "put", "(III)I"⟩
def yX10_copy : MethodName := ⟨RX10, "copy", "(IIIII)I"⟩
def yX10_cost : MethodName := ⟨RX10, "cost", "(I)I"⟩
def yX10_isBetween : MethodName := ⟨RX10, "isBetween", "(III)Z"⟩
def yX10_isWaker : MethodName := ⟨RX10, "isWaker", "(I)Z"⟩
def yX10_isWakerOrNobody : MethodName := ⟨RX10, "isWakerOrNobody", "(I)Z"⟩
def yX10_isShelf : MethodName := ⟨RX10, "isShelf", "(I)Z"⟩
def yX10_kindNumbered : MethodName := ⟨RX10, "kindNumbered", "([LBeansOnTheOtherSide$Drinker;I)LBeansOnTheOtherSide$Drinker;"⟩
def yX10_refusalUnless : MethodName := ⟨RX10, "refusalUnless", "(II)I"⟩
def yX10_refusedLong : MethodName := ⟨RX10, "refusedLong", "(I)J"⟩
def yX10_digitsBehind : MethodName := ⟨RX10, "digitsBehind", "(I)I"⟩
def yX10_isLetter : MethodName := ⟨RX10, "isLetter", "(I)Z"⟩
def yX10_firstBadByte : MethodName := ⟨RX10, "firstBadByte", "(LBeansOnTheOtherSide$Shelf;)I"⟩
def yX10_thinkDaysOn : MethodName := ⟨RX10, "thinkDaysOn", "(I)V"⟩
def yX10_owedBehindWithWaker : MethodName := ⟨RX10, "owedBehindWithWaker", "(III)I"⟩
def yX10_owedBehindWithMilk : MethodName := ⟨RX10, "owedBehindWithMilk", "(II)I"⟩
def yX10_owedBehindWithout : MethodName := ⟨RX10, "owedBehindWithout", "(II)I"⟩
def yX10_owedBehindKeeping : MethodName := ⟨RX10, "owedBehindKeeping", "(II)I"⟩
def yX10_owedBehindFalls : MethodName := ⟨RX10, "owedBehindFalls", "(II)I"⟩
def yX10_mindOwesAsTold : MethodName := ⟨RX10, "mindOwesAsTold", "(ILBeansOnTheOtherSide$Shelf;)Z"⟩
def yX10_gainInMind : MethodName := ⟨RX10, "gainInMind", "(I)I"⟩
def yX10_fillDrunkBehind : MethodName := ⟨RX10, "fillDrunkBehind", "()V"⟩
def yX10_bagsGoAsTold : MethodName := ⟨RX10, "bagsGoAsTold", "(ILBeansOnTheOtherSide$Shelf;)Z"⟩
def yX10_matchCell : MethodName := ⟨RX10, "matchCell", "(II)I"⟩
def yX10_mostWokenFrom : MethodName := ⟨RX10, "mostWokenFrom", "(II)I"⟩
def yX10_fillMostWoken : MethodName := ⟨RX10, "fillMostWoken", "()V"⟩
def yX10_firstMatchOf : MethodName := ⟨RX10, "firstMatchOf", "(II)I"⟩
def yX10_power : MethodName := ⟨RX10, "power", "(JI)J"⟩
def yX10_partOfFraction : MethodName := ⟨RX10, "partOfFraction", "(JJI)J"⟩
def yX10_nextSeed : MethodName := ⟨RX10, "nextSeed", "(I)I"⟩
def yX10_drawOf : MethodName := ⟨RX10, "drawOf", "(II)I"⟩
def yX11_isIn : MethodName := ⟨RX11, "isIn", "(III)Z"⟩
def yX11_least : MethodName := ⟨RX11, "least", "(II)I"⟩
def yX11_lessBy : MethodName := ⟨RX11, "lessBy", "(II)I"⟩
def yX11_copies : MethodName := ⟨RX11, "copies", "([I[I)V"⟩
def yX11_of : MethodName := ⟨RX11, "of", "(II)I"⟩
def yX11_isDrinker : MethodName := ⟨RX11, "isDrinker", "(I)Z"⟩
def yX11_isWaker : MethodName := ⟨RX11, "isWaker", "(I)Z"⟩
def yX11_isWakerOrNone : MethodName := ⟨RX11, "isWakerOrNone", "(I)Z"⟩
def yX11_has : MethodName := ⟨RX11, "has", "(II)Z"⟩
def yX11_bits : MethodName := ⟨RX11, "bits", "(I)I"⟩
def yX11_drinksBy : MethodName := ⟨RX11, "drinksBy", "(III)I"⟩
def yX11_tiresBy : MethodName := ⟨RX11, "tiresBy", "(III)I"⟩
def yX11_owesBy : MethodName := ⟨RX11, "owesBy", "(III)I"⟩
def yX11_isAwake : MethodName := ⟨RX11, "isAwake", "([II)Z"⟩
def yX11_wakesUp : MethodName := ⟨RX11, "wakesUp", "([II)V"⟩
def yX11_drinks : MethodName := ⟨RX11, "drinks", "([II)V"⟩
def yX11_liesDown : MethodName := ⟨RX11, "liesDown", "([II)V"⟩
def yX11_day : MethodName := ⟨RX11, "day", "([I)V"⟩
def yX11_daysOn : MethodName := ⟨RX11, "daysOn", "([II)V"⟩
def yX11_allOwed : MethodName := ⟨RX11, "allOwed", "([I)I"⟩
def yX11_allTired : MethodName := ⟨RX11, "allTired", "([I)I"⟩
def yX11_here : MethodName := ⟨RX11, "here", "()I"⟩
def yX11_readsNumber : MethodName := ⟨RX11, "readsNumber", "(II)Z"⟩
def yX11_readsStatement : MethodName := ⟨RX11, "readsStatement", "()Z"⟩
def yX11_adds : MethodName := ⟨RX11, "adds", "(III)V"⟩
def yX11_isDone : MethodName := ⟨RX11, "isDone", "(I)Z"⟩
def yX11_treaty : MethodName := ⟨RX11, "treaty", "(I)I"⟩
def yX11_nextOf : MethodName := ⟨RX11, "nextOf", "(I)I"⟩
def yX11_drinker : MethodName := ⟨RX11, "drinker", "(II)I"⟩
def yX11_manyOf : MethodName := ⟨RX11, "manyOf", "(I)I"⟩
def yX11_waker : MethodName := ⟨RX11, "waker", "(II)I"⟩
def yX11_comes : MethodName := ⟨RX11, "comes", "(II)I"⟩
def yX11_sets : MethodName := ⟨RX11, "sets", "(II)I"⟩
def yX11_wakes : MethodName := ⟨RX11, "wakes", "(II)I"⟩
def yX11_tires : MethodName := ⟨RX11, "tires", "(II)I"⟩
def yX11_sleeps : MethodName := ⟨RX11, "sleeps", "(I)I"⟩
def yX11_bags : MethodName := ⟨RX11, "bags", "(I)I"⟩
def yX11_days : MethodName := ⟨RX11, "days", "(I)I"⟩
def yX11_isLate : MethodName := ⟨RX11, "isLate", "(I)Z"⟩
def yX11_takes : MethodName := ⟨RX11, "takes", "(I)V"⟩
def yX11_owesThen : MethodName := ⟨RX11, "owesThen", "(II)I"⟩
def yX11_tiredThen : MethodName := ⟨RX11, "tiredThen", "(II)I"⟩
def yX11_then : MethodName := ⟨RX11, "then", "(II)I"⟩
def yX11_firstAsleep : MethodName := ⟨RX11, "firstAsleep", "(I)I"⟩
def yX11_out : MethodName := ⟨RX11, "out", "()I"⟩
def yX11_owedNow : MethodName := ⟨RX11, "owedNow", "(I)I"⟩
def yX11_bestWaker : MethodName := ⟨RX11, "bestWaker", "(III)I"⟩
def yX11_canWake : MethodName := ⟨RX11, "canWake", "(II)Z"⟩
def yX11_matches : MethodName := ⟨RX11, "matches", "()V"⟩
def yX11_wakerOf : MethodName := ⟨RX11, "wakerOf", "(II)I"⟩
def yX11_match : MethodName := ⟨RX11, "match", "(I)I"⟩
def yX11_milk : MethodName := ⟨RX11, "milk", "(I)I"⟩
def yX11_fewest : MethodName := ⟨RX11, "fewest", "(I)I"⟩
def yX11_store : MethodName := ⟨RX11, "store", "(I)I"⟩
def yX11_heaviest : MethodName := ⟨RX11, "heaviest", "(I)I"⟩
def yX11_rest : MethodName := ⟨RX11, "rest", "(II)I"⟩
def yX11_leastOf : MethodName := ⟨RX11, "leastOf", "(I)I"⟩
def yX11_isTold : MethodName := ⟨RX11, "isTold", "(III)Z"⟩
def yX11_whatIs : MethodName := ⟨RX11, "whatIs", "(III)I"⟩
def yX11_isShedSo : MethodName := ⟨RX11, "isShedSo", "(II)Z"⟩
def yX11_shed : MethodName := ⟨RX11, "shed", "(II)I"⟩
def yX11_hasBy : MethodName := ⟨RX11, "hasBy", "(IIIIII)I"⟩
def yX11_two : MethodName := ⟨RX11, "two", "(III)I"⟩
def yX11_gcd : MethodName := ⟨RX11, "gcd", "(JJ)J"⟩
def yX11_partOf : MethodName := ⟨RX11, "partOf", "(JJI)J"⟩
def yX11_falls : MethodName := ⟨RX11, "falls", "(IIII)J"⟩
def yX11_mean : MethodName := ⟨RX11, "mean", "(I)J"⟩
def yX11_forged : MethodName := ⟨RX11, "forged", "(I)I"⟩
def yX11_judge : MethodName := ⟨RX11, "judge", "(I)I"⟩
def yX11_drawn : MethodName := ⟨RX11, "drawn", "(I)I"⟩
def yX11_years : MethodName := ⟨RX11, "years", "(III)I"⟩
def yX11_image : MethodName := ⟨RX11, "image", "()I"⟩
def yX11_restore : MethodName := ⟨RX11, "restore", "()I"⟩
def yX11_count : MethodName := ⟨RX11, "count", "(I)I"⟩
def yX11_thrown : MethodName := ⟨RX11, "thrown", "()I"⟩
def yX11_isShelf : MethodName := ⟨RX11, "isShelf", "(I)Z"⟩
def yX11_wrongRow : MethodName := ⟨RX11, "wrongRow", "(II)I"⟩
def yX11_wrongKept : MethodName := ⟨RX11, "wrongKept", "(I)I"⟩
def yX11_keep : MethodName := ⟨RX11, "keep", "(IIII)I"⟩
def yX11_row : MethodName := ⟨RX11, "row", "(III)I"⟩
def yX11_put : MethodName := ⟨RX11, "put", "(III)I"⟩
def yX11_element : MethodName := ⟨RX11, "element", "(II)J"⟩
def yX11_copy : MethodName := ⟨RX11, "copy", "(IIIII)I"⟩
def yX11_costBy : MethodName := ⟨RX11, "costBy", "(II)I"⟩
def yX11_cost : MethodName := ⟨RX11, "cost", "(I)I"⟩
def yX11_toss : MethodName := ⟨RX11, "toss", "(I)I"⟩
def yJ6_bitCount_0f7a4 : MethodName := ⟨"java/lang/Integer", "bitCount", "(I)I"⟩
def yJ7_fill_53178 : MethodName := ⟨"java/util/Arrays", "fill", "([II)V"⟩
end
section
/-! THE SMALL MACHINE: what a frame of the claim's own classes does over a heap of one shape. A cell is named by its place (0 .. 64), a reference is a place, the heap is σ: σ q k the number in cell q at k. -/
abbrev mm_Sg : Type := Nat → Nat → Int32
abbrev mm_St : Type := Nat × List Value × List Value × mm_Sg
abbrev mm_En : Type := Nat × Instr × List Nat × Value
abbrev mm_Me : Type := MethodName × ByteArray × Nat × Option FieldType × Nat × List mm_En × List Nat
def mm_u (σ : mm_Sg) (q k : Nat) (x : Int32) : mm_Sg := fun a j => if a = q then (if j = k then x else σ a j) else σ a j
/-- the class of a place (12: no object) -/
def mm_cl (q : Nat) : Nat := ([10, 12, 4, 3, 0, 6, 2, 5, 9, 7, 1, 12, 12, 12, 12, 12, 12, 1, 12, 12, 12, 12, 12, 12, 1, 12, 12, 12, 12, 12, 12, 12, 8, 12, 8, 12, 8, 12, 8, 12, 8, 12, 8, 12, 8, 12, 8, 12, 12, 12, 12, 11, 12, 12, 12, 12, 12, 12, 12, 12, 12, 12, 12, 12, 12] : List Nat).getD q 12
/-- how long the row of numbers at a place is -/
def mm_len (q : Nat) : Nat := ([0, 0, 0, 0, 0, 0, 0, 0, 0, 0, 0, 7, 7, 7, 7, 5, 7, 0, 7, 7, 7, 7, 5, 7, 0, 7, 7, 7, 7, 5, 7, 0, 0, 100, 0, 100, 0, 100, 0, 100, 0, 100, 0, 100, 0, 100, 0, 100, 256, 100, 8, 0, 40, 40, 40, 40, 7, 3, 256, 8, 8, 8, 8, 8, 800] : List Nat).getD q 0
def mm_el (q i : Nat) : Nat := bif Nat.beq q 1 then 2 + i else 32 + 2 * i
def mm_rf (ci k q : Nat) : Option Nat := match ci, k with
  | 10, 0 => some 1 | 10, 1 => some 10 | 10, 2 => some 17 | 10, 3 => some 24 | 10, 4 => some 31 | 10, 5 => some 48 | 10, 6 => some 49 | 10, 7 => some 50
  | 1, 0 => some 1 | 1, 1 => some (q + 1) | 1, 2 => some (q + 2) | 1, 3 => some (q + 3) | 1, 4 => some (q + 4) | 1, 5 => some (q + 5) | 1, 10 => some (q + 6)
  | 8, 5 => some (q + 1)
  | 11, 0 => some 52 | 11, 1 => some 53 | 11, 2 => some 54 | 11, 3 => some 55 | 11, 4 => some 56 | 11, 9 => some 57 | 11, 10 => some 58 | 11, 12 => some 59 | 11, 13 => some 60 | 11, 14 => some 61 | 11, 15 => some 62 | 11, 16 => some 63 | 11, 17 => some 64
  | _, _ => none
def mm_fv (ci k q : Nat) (σ : mm_Sg) : Value := match mm_rf ci k q with
  | some r => .ref r
  | none => .int (σ q k)
def mm_fz (ci k : Nat) : Bool := (ci == 10 && k == 8) || (ci == 11 && k == 5)
def mm_pl (lv : List Value) (i : Nat) : Bool := match i with
  | 0 => false
  | j + 1 => match lv[j]? with
    | some (.long _) => true
    | some (.double _) => true
    | _ => false
def mm_ss (st : List Value) : Nat := (st.map fun v => v.category).sum
def mm_tsw (y : Int32) (d : Nat) : Nat → List Nat → Nat
  | _, [] => d
  | lo, t :: r => if y = nI lo then t else mm_tsw y d (lo + 1) r
def mm_lsw (y : Int32) (d : Nat) : List Nat → Nat
  | k :: t :: r => if y = nI k then t else mm_lsw y d r
  | _ => d
def mm_cp (σ : mm_Sg) (a0 sp a dp n : Nat) : mm_Sg := fun q => if q = a then va_cpy (σ a0) (σ a) sp dp n else σ q
def mm_ex (i : Instr) (x : List Nat) (v : Value) (pc : Nat) (lv st : List Value) (σ : mm_Sg) : Option (mm_St × List Prop) :=
  match i with
  | .iconst _ => some ((pc + 1, lv, v :: st, σ), [])
  | .lconst _ => some ((pc + 1, lv, v :: st, σ), [])
  | .bipush _ => some ((pc + 2, lv, v :: st, σ), [])
  | .sipush _ => some ((pc + 3, lv, v :: st, σ), [])
  | .ldc _ => some ((pc + 2, lv, v :: st, σ), [])
  | .ldc_w _ => some ((pc + 3, lv, v :: st, σ), [])
  | .ldc2_w _ => some ((pc + 3, lv, v :: st, σ), [])
  | .iload_n _ => match x with
    | [i] => match lv[i]? with
      | some (.int y) => some ((pc + 1, lv, .int y :: st, σ), [])
      | _ => none
    | _ => none
  | .iload _ => match x with
    | [i] => match lv[i]? with
      | some (.int y) => some ((pc + 2, lv, .int y :: st, σ), [])
      | _ => none
    | _ => none
  | .lload_n _ => match x with
    | [i] => match lv[i]? with
      | some (.long y) => some ((pc + 1, lv, .long y :: st, σ), [])
      | _ => none
    | _ => none
  | .lload _ => match x with
    | [i] => match lv[i]? with
      | some (.long y) => some ((pc + 2, lv, .long y :: st, σ), [])
      | _ => none
    | _ => none
  | .aload_n _ => match x with
    | [i] => match lv[i]? with
      | some (.ref y) => some ((pc + 1, lv, .ref y :: st, σ), [])
      | _ => none
    | _ => none
  | .aload _ => match x with
    | [i] => match lv[i]? with
      | some (.ref y) => some ((pc + 2, lv, .ref y :: st, σ), [])
      | _ => none
    | _ => none
  | .istore_n _ => match x, st with
    | [i], .int y :: r => bif Nat.blt i lv.length && !(mm_pl lv i) then some ((pc + 1, lv.set i (.int y), r, σ), []) else none
    | _, _ => none
  | .istore _ => match x, st with
    | [i], .int y :: r => bif Nat.blt i lv.length && !(mm_pl lv i) then some ((pc + 2, lv.set i (.int y), r, σ), []) else none
    | _, _ => none
  | .astore_n _ => match x, st with
    | [i], .ref y :: r => bif Nat.blt i lv.length && !(mm_pl lv i) then some ((pc + 1, lv.set i (.ref y), r, σ), []) else none
    | _, _ => none
  | .astore _ => match x, st with
    | [i], .ref y :: r => bif Nat.blt i lv.length && !(mm_pl lv i) then some ((pc + 2, lv.set i (.ref y), r, σ), []) else none
    | _, _ => none
  | .lstore_n _ => match x, st with
    | [i], .long y :: r => bif Nat.blt (i + 1) lv.length && !(mm_pl lv i) then some ((pc + 1, (lv.set i (.long y)).set (i + 1) .null, r, σ), []) else none
    | _, _ => none
  | .lstore _ => match x, st with
    | [i], .long y :: r => bif Nat.blt (i + 1) lv.length && !(mm_pl lv i) then some ((pc + 2, (lv.set i (.long y)).set (i + 1) .null, r, σ), []) else none
    | _, _ => none
  | .iinc _ _ => match x, v with
    | [i], .int c => match lv[i]? with
      | some (.int y) => bif !(mm_pl lv i) then some ((pc + 3, lv.set i (.int (y + c)), st, σ), []) else none
      | _ => none
    | _, _ => none
  | .iadd => match st with
    | .int b :: .int a :: r => some ((pc + 1, lv, .int (a + b) :: r, σ), [])
    | _ => none
  | .isub => match st with
    | .int b :: .int a :: r => some ((pc + 1, lv, .int (a - b) :: r, σ), [])
    | _ => none
  | .imul => match st with
    | .int b :: .int a :: r => some ((pc + 1, lv, .int (a * b) :: r, σ), [])
    | _ => none
  | .iand => match st with
    | .int b :: .int a :: r => some ((pc + 1, lv, .int (a &&& b) :: r, σ), [])
    | _ => none
  | .ior => match st with
    | .int b :: .int a :: r => some ((pc + 1, lv, .int (a ||| b) :: r, σ), [])
    | _ => none
  | .ixor => match st with
    | .int b :: .int a :: r => some ((pc + 1, lv, .int (a ^^^ b) :: r, σ), [])
    | _ => none
  | .ishl => match st with
    | .int b :: .int a :: r => some ((pc + 1, lv, .int (a <<< (b &&& 31)) :: r, σ), [])
    | _ => none
  | .ishr => match st with
    | .int b :: .int a :: r => some ((pc + 1, lv, .int (a >>> (b &&& 31)) :: r, σ), [])
    | _ => none
  | .iushr => match st with
    | .int b :: .int a :: r => some ((pc + 1, lv, .int ((a.toUInt32 >>> (b.toUInt32 &&& Int32.toUInt32 31)).toInt32) :: r, σ), [])
    | _ => none
  | .idiv => match st with
    | .int b :: .int a :: r => some ((pc + 1, lv, .int (a / b) :: r, σ), [¬ b = 0])
    | _ => none
  | .irem => match st with
    | .int b :: .int a :: r => some ((pc + 1, lv, .int (a - a / b * b) :: r, σ), [¬ b = 0])
    | _ => none
  | .ladd => match st with
    | .long b :: .long a :: r => some ((pc + 1, lv, .long (a + b) :: r, σ), [])
    | _ => none
  | .lsub => match st with
    | .long b :: .long a :: r => some ((pc + 1, lv, .long (a - b) :: r, σ), [])
    | _ => none
  | .lmul => match st with
    | .long b :: .long a :: r => some ((pc + 1, lv, .long (a * b) :: r, σ), [])
    | _ => none
  | .ldiv => match st with
    | .long b :: .long a :: r => some ((pc + 1, lv, .long (a / b) :: r, σ), [¬ b = 0])
    | _ => none
  | .lrem => match st with
    | .long b :: .long a :: r => some ((pc + 1, lv, .long (a - a / b * b) :: r, σ), [¬ b = 0])
    | _ => none
  | .lcmp => match st with
    | .long b :: .long a :: r => some ((pc + 1, lv, .int (lg_cmp a b) :: r, σ), [])
    | _ => none
  | .i2l => match st with
    | .int a :: r => some ((pc + 1, lv, .long a.toInt64 :: r, σ), [])
    | _ => none
  | .i2b => match st with
    | .int a :: r => some ((pc + 1, lv, .int a.toInt8.toInt32 :: r, σ), [])
    | _ => none
  | .i2s => match st with
    | .int a :: r => some ((pc + 1, lv, .int a.toInt16.toInt32 :: r, σ), [])
    | _ => none
  | .dup => match st with
    | .int a :: r => some ((pc + 1, lv, .int a :: .int a :: r, σ), [])
    | .ref a :: r => some ((pc + 1, lv, .ref a :: .ref a :: r, σ), [])
    | _ => none
  | .dup2 => match st with
    | .int a :: .int b :: r => some ((pc + 1, lv, .int a :: .int b :: .int a :: .int b :: r, σ), [])
    | .int a :: .ref b :: r => some ((pc + 1, lv, .int a :: .ref b :: .int a :: .ref b :: r, σ), [])
    | _ => none
  | .goto _ => match x with
    | [t] => some ((t, lv, st, σ), [])
    | _ => none
  | .ifCond .eq _ => match x, st with
    | [t], .int a :: r => some ((if a = 0 then t else pc + 3, lv, r, σ), [])
    | _, _ => none
  | .ifCond .ne _ => match x, st with
    | [t], .int a :: r => some ((if ¬ a = 0 then t else pc + 3, lv, r, σ), [])
    | _, _ => none
  | .ifCond .lt _ => match x, st with
    | [t], .int a :: r => some ((if a < 0 then t else pc + 3, lv, r, σ), [])
    | _, _ => none
  | .ifCond .ge _ => match x, st with
    | [t], .int a :: r => some ((if 0 ≤ a then t else pc + 3, lv, r, σ), [])
    | _, _ => none
  | .ifCond .gt _ => match x, st with
    | [t], .int a :: r => some ((if 0 < a then t else pc + 3, lv, r, σ), [])
    | _, _ => none
  | .ifCond .le _ => match x, st with
    | [t], .int a :: r => some ((if a ≤ 0 then t else pc + 3, lv, r, σ), [])
    | _, _ => none
  | .if_icmp .eq _ => match x, st with
    | [t], .int b :: .int a :: r => some ((if a = b then t else pc + 3, lv, r, σ), [])
    | _, _ => none
  | .if_icmp .ne _ => match x, st with
    | [t], .int b :: .int a :: r => some ((if ¬ a = b then t else pc + 3, lv, r, σ), [])
    | _, _ => none
  | .if_icmp .lt _ => match x, st with
    | [t], .int b :: .int a :: r => some ((if a < b then t else pc + 3, lv, r, σ), [])
    | _, _ => none
  | .if_icmp .ge _ => match x, st with
    | [t], .int b :: .int a :: r => some ((if b ≤ a then t else pc + 3, lv, r, σ), [])
    | _, _ => none
  | .if_icmp .gt _ => match x, st with
    | [t], .int b :: .int a :: r => some ((if b < a then t else pc + 3, lv, r, σ), [])
    | _, _ => none
  | .if_icmp .le _ => match x, st with
    | [t], .int b :: .int a :: r => some ((if a ≤ b then t else pc + 3, lv, r, σ), [])
    | _, _ => none
  | .tableswitch _ _ _ _ => match x, st with
    | _ :: lo :: d :: ts, .int a :: r => some ((mm_tsw a d lo ts, lv, r, σ), [])
    | _, _ => none
  | .lookupswitch _ _ => match x, st with
    | _ :: d :: ts, .int a :: r => some ((mm_lsw a d ts, lv, r, σ), [])
    | _, _ => none
  | .getfield _ => match x, st with
    | [_, ci, k, _], .ref q :: r => some ((pc + 3, lv, mm_fv ci k q σ :: r, σ), [mm_cl q = ci])
    | _, _ => none
  | .putfield _ => match x, st with
    | [_, ci, k, _], .int y :: .ref q :: r => match mm_rf ci k 0 with
      | none => some ((pc + 3, lv, r, mm_u σ q k y), bif mm_fz ci k then [mm_cl q = ci, y = 0 ∨ y = 1] else [mm_cl q = ci])
      | some _ => none
    | _, _ => none
  | .iaload => match st with
    | .int j :: .ref q :: r => some ((pc + 1, lv, .int (σ q j.toNatClampNeg) :: r, σ), [vp_in j (mm_len q)])
    | _ => none
  | .iastore => match st with
    | .int y :: .int j :: .ref q :: r => some ((pc + 1, lv, r, mm_u σ q j.toNatClampNeg y), [vp_in j (mm_len q)])
    | _ => none
  | .aaload => match st with
    | .int j :: .ref q :: r => some ((pc + 1, lv, .ref (mm_el q j.toNatClampNeg) :: r, σ), [vp_in j 8, q = 1 ∨ q = 31])
    | _ => none
  | .arraylength => match st with
    | .ref q :: r => some ((pc + 1, lv, .int (nI (mm_len q)) :: r, σ), [0 < mm_len q])
    | _ => none
  | .invokestatic _ => match x, st with
    | [90, _], .int b :: .int a :: r => bif Nat.ble (mm_ss r) 8 then some ((pc + 3, lv, .int (if b < a then b else a) :: r, σ), []) else none
    | [91, _], .int b :: .int a :: r => bif Nat.ble (mm_ss r) 8 then some ((pc + 3, lv, .int (if a < b then b else a) :: r, σ), []) else none
    | [92, _], .int n :: .int dp :: .ref a :: .int sp :: .ref a0 :: r => bif Nat.ble (mm_ss r) 8 then some ((pc + 3, lv, r, mm_cp σ a0 sp.toNatClampNeg a dp.toNatClampNeg n.toNatClampNeg), [¬ sp < 0, ¬ dp < 0, ¬ n < 0, sp.toNatClampNeg + n.toNatClampNeg ≤ mm_len a0, dp.toNatClampNeg + n.toNatClampNeg ≤ mm_len a, 0 < mm_len a0, 0 < mm_len a]) else none
    | _, _ => none
  | _ => none
def mm_fnd : List mm_En → Nat → Option (Instr × List Nat × Value)
  | [], _ => none
  | e :: r, pc => bif Nat.beq e.1 pc then some e.2 else mm_fnd r pc
def mm_stp (cl : List mm_En) (S : mm_St) : Option (mm_St × List Prop) := match mm_fnd cl S.1 with
  | none => none
  | some (i, x, v) => mm_ex i x v S.1 S.2.1 S.2.2.1 S.2.2.2
def mm_all : List Prop → Prop
  | [] => True
  | p :: r => p ∧ mm_all r
def mm_stps (cl : List mm_En) : Nat → mm_St → Option (mm_St × List Prop)
  | 0, S => some (S, [])
  | n + 1, S => match mm_stp cl S with
    | none => none
    | some (S', c) => match mm_stps cl n S' with
      | none => none
      | some (S2, d) => some (S2, c ++ d)
def mm_slots : List Value → List Value
  | [] => []
  | .long y :: r => .long y :: .null :: mm_slots r
  | .double y :: r => .double y :: .null :: mm_slots r
  | v :: r => v :: mm_slots r
def mm_ini (nL : Nat) (as : List Value) : List Value := mm_slots as ++ List.replicate (nL - (mm_slots as).length) .null
end
section
/-! the methods of the small machine -/
def mm_c_X0_cupsOn : List mm_En := [
  (0, .aload_n 0, [0], .null),
  (1, .iload_n 1, [1], .null),
  (2, .iload_n 2, [2], .null),
  (3, .invokespecial 7, [5, 356, 3, 29, 352, 94], .null),
  (6, .iload_n 2, [2], .null),
  (7, .iconst 2, [], .int 2),
  (8, .idiv, [], .null),
  (9, .iadd, [], .null),
  (10, .ireturn, [], .null)]
def mm_c_X0_tiringFor : List mm_En := [
  (0, .aload_n 0, [0], .null),
  (1, .iload_n 1, [1], .null),
  (2, .iload_n 2, [2], .null),
  (3, .invokespecial 11, [5, 390, 3, 30, 386, 94], .null),
  (6, .iload_n 1, [1], .null),
  (7, .iadd, [], .null),
  (8, .ireturn, [], .null)]
def mm_c_X0_debtFor : List mm_En := [
  (0, .iconst 2, [], .int 2),
  (1, .aload_n 0, [0], .null),
  (2, .iload_n 1, [1], .null),
  (3, .iload_n 2, [2], .null),
  (4, .invokespecial 14, [5, 417, 3, 31, 413, 94], .null),
  (7, .imul, [], .null),
  (8, .ireturn, [], .null)]
def mm_c_X0_priceOf : List mm_En := [
  (0, .aload_n 0, [0], .null),
  (1, .iload_n 1, [1], .null),
  (2, .invokespecial 17, [5, 737, 2, 32, 733, 94], .null),
  (5, .iload_n 1, [1], .null),
  (6, .iadd, [], .null),
  (7, .ireturn, [], .null)]
def mm_c_X0_failureOf : List mm_En := [
  (0, .aload_n 0, [0], .null),
  (1, .iload_n 1, [1], .null),
  (2, .invokespecial 21, [5, 852, 2, 33, 848, 94], .null),
  (5, .bipush 100, [], .int 100),
  (7, .iadd, [], .null),
  (8, .ireturn, [], .null)]
def mm_c_X1_becomeLike : List mm_En := [
  (0, .aload_n 1, [1], .null),
  (1, .getfield 9, [137, 1, 1, 0], .null),
  (4, .iconst 0, [], .int 0),
  (5, .aload_n 0, [0], .null),
  (6, .getfield 9, [137, 1, 1, 0], .null),
  (9, .iconst 0, [], .int 0),
  (10, .bipush 7, [], .int 7),
  (12, .invokestatic 56, [92, 288], .null),
  (15, .aload_n 1, [1], .null),
  (16, .getfield 15, [139, 1, 2, 0], .null),
  (19, .iconst 0, [], .int 0),
  (20, .aload_n 0, [0], .null),
  (21, .getfield 15, [139, 1, 2, 0], .null),
  (24, .iconst 0, [], .int 0),
  (25, .bipush 7, [], .int 7),
  (27, .invokestatic 56, [92, 288], .null),
  (30, .aload_n 1, [1], .null),
  (31, .getfield 18, [141, 1, 3, 0], .null),
  (34, .iconst 0, [], .int 0),
  (35, .aload_n 0, [0], .null),
  (36, .getfield 18, [141, 1, 3, 0], .null),
  (39, .iconst 0, [], .int 0),
  (40, .bipush 7, [], .int 7),
  (42, .invokestatic 56, [92, 288], .null),
  (45, .aload_n 1, [1], .null),
  (46, .getfield 21, [143, 1, 4, 0], .null),
  (49, .iconst 0, [], .int 0),
  (50, .aload_n 0, [0], .null),
  (51, .getfield 21, [143, 1, 4, 0], .null),
  (54, .iconst 0, [], .int 0),
  (55, .bipush 7, [], .int 7),
  (57, .invokestatic 56, [92, 288], .null),
  (60, .aload_n 1, [1], .null),
  (61, .getfield 24, [145, 1, 5, 0], .null),
  (64, .iconst 0, [], .int 0),
  (65, .aload_n 0, [0], .null),
  (66, .getfield 24, [145, 1, 5, 0], .null),
  (69, .iconst 0, [], .int 0),
  (70, .iconst 5, [], .int 5),
  (71, .invokestatic 56, [92, 288], .null),
  (74, .aload_n 0, [0], .null),
  (75, .aload_n 1, [1], .null),
  (76, .getfield 27, [147, 1, 6, 0], .null),
  (79, .putfield 27, [147, 1, 6, 0], .null),
  (82, .aload_n 0, [0], .null),
  (83, .aload_n 1, [1], .null),
  (84, .getfield 31, [149, 1, 7, 0], .null),
  (87, .putfield 31, [149, 1, 7, 0], .null),
  (90, .aload_n 0, [0], .null),
  (91, .aload_n 1, [1], .null),
  (92, .getfield 34, [151, 1, 8, 0], .null),
  (95, .putfield 34, [151, 1, 8, 0], .null),
  (98, .aload_n 0, [0], .null),
  (99, .aload_n 1, [1], .null),
  (100, .getfield 37, [153, 1, 9, 0], .null),
  (103, .putfield 37, [153, 1, 9, 0], .null),
  (106, .aload_n 0, [0], .null),
  (107, .getfield 40, [155, 1, 10, 0], .null),
  (110, .iconst 0, [], .int 0),
  (111, .invokestatic 62, [0, 291, 2, 208], .null),
  (114, .aload_n 0, [0], .null),
  (115, .iconst (-1), [], .int (-1)),
  (116, .putfield 43, [157, 1, 11, 0], .null),
  (119, .aload_n 0, [0], .null),
  (120, .iconst 0, [], .int 0),
  (121, .putfield 46, [159, 1, 12, 0], .null),
  (124, .aload_n 0, [0], .null),
  (125, .iconst 0, [], .int 0),
  (126, .putfield 49, [161, 1, 13, 0], .null),
  (129, .return_, [], .null)]
def mm_c_X1_has : List mm_En := [
  (0, .iload_n 1, [1], .null),
  (1, .ifCond .lt 21, [22], .null),
  (4, .iload_n 1, [1], .null),
  (5, .aload_n 0, [0], .null),
  (6, .getfield 27, [147, 1, 6, 0], .null),
  (9, .if_icmp .ge 13, [22], .null),
  (12, .iload_n 1, [1], .null),
  (13, .bipush 7, [], .int 7),
  (15, .if_icmp .ge 7, [22], .null),
  (18, .iconst 1, [], .int 1),
  (19, .goto 4, [23], .null),
  (22, .iconst 0, [], .int 0),
  (23, .ireturn, [], .null)]
def mm_c_X1_isAwake : List mm_En := [
  (0, .iload_n 1, [1], .null),
  (1, .invokestatic 68, [1, 325, 1, 94], .null),
  (4, .ifCond .eq 18, [22], .null),
  (7, .aload_n 0, [0], .null),
  (8, .getfield 31, [149, 1, 7, 0], .null),
  (11, .iload_n 1, [1], .null),
  (12, .ishr, [], .null),
  (13, .iconst 1, [], .int 1),
  (14, .iand, [], .null),
  (15, .ifCond .ne 7, [22], .null),
  (18, .iconst 1, [], .int 1),
  (19, .goto 4, [23], .null),
  (22, .iconst 0, [], .int 0),
  (23, .ireturn, [], .null)]
def mm_c_X1_joins : List mm_En := [
  (0, .aload_n 0, [0], .null),
  (1, .getfield 27, [147, 1, 6, 0], .null),
  (4, .ifCond .lt 12, [16], .null),
  (7, .aload_n 0, [0], .null),
  (8, .getfield 27, [147, 1, 6, 0], .null),
  (11, .bipush 7, [], .int 7),
  (13, .if_icmp .lt 5, [18], .null),
  (16, .iconst 0, [], .int 0),
  (17, .ireturn, [], .null),
  (18, .aload_n 0, [0], .null),
  (19, .getfield 9, [137, 1, 1, 0], .null),
  (22, .aload_n 0, [0], .null),
  (23, .getfield 27, [147, 1, 6, 0], .null),
  (26, .iload_n 1, [1], .null),
  (27, .iastore, [], .null),
  (28, .aload_n 0, [0], .null),
  (29, .getfield 15, [139, 1, 2, 0], .null),
  (32, .aload_n 0, [0], .null),
  (33, .getfield 27, [147, 1, 6, 0], .null),
  (36, .iload_n 2, [2], .null),
  (37, .iastore, [], .null),
  (38, .aload_n 0, [0], .null),
  (39, .getfield 18, [141, 1, 3, 0], .null),
  (42, .aload_n 0, [0], .null),
  (43, .getfield 27, [147, 1, 6, 0], .null),
  (46, .iload_n 3, [3], .null),
  (47, .iastore, [], .null),
  (48, .aload_n 0, [0], .null),
  (49, .getfield 21, [143, 1, 4, 0], .null),
  (52, .aload_n 0, [0], .null),
  (53, .getfield 27, [147, 1, 6, 0], .null),
  (56, .iconst 0, [], .int 0),
  (57, .iastore, [], .null),
  (58, .aload_n 0, [0], .null),
  (59, .dup, [], .null),
  (60, .getfield 27, [147, 1, 6, 0], .null),
  (63, .iconst 1, [], .int 1),
  (64, .iadd, [], .null),
  (65, .putfield 27, [147, 1, 6, 0], .null),
  (68, .iconst 1, [], .int 1),
  (69, .ireturn, [], .null)]
def mm_c_X1_thirstOf : List mm_En := [
  (0, .aload_n 0, [0], .null),
  (1, .iload_n 1, [1], .null),
  (2, .invokevirtual 72, [2, 314, 2, 6, 316, 1], .null),
  (5, .ifCond .eq 29, [34], .null),
  (8, .aload_n 0, [0], .null),
  (9, .getfield 52, [136, 1, 0, 0], .null),
  (12, .aload_n 0, [0], .null),
  (13, .getfield 9, [137, 1, 1, 0], .null),
  (16, .iload_n 1, [1], .null),
  (17, .iaload, [], .null),
  (18, .invokestatic 75, [1, 346, 2, 97], .null),
  (21, .iload_n 2, [2], .null),
  (22, .aload_n 0, [0], .null),
  (23, .getfield 15, [139, 1, 2, 0], .null),
  (26, .iload_n 1, [1], .null),
  (27, .iaload, [], .null),
  (28, .invokevirtual 79, [4, 349, 3, 0], .null),
  (31, .goto 4, [35], .null),
  (34, .iconst 0, [], .int 0),
  (35, .ireturn, [], .null)]
def mm_c_X1_thirstOfAll : List mm_En := [
  (0, .iconst 0, [], .int 0),
  (1, .istore_n 2, [2], .null),
  (2, .iconst 0, [], .int 0),
  (3, .istore_n 3, [3], .null),
  (4, .iload_n 3, [3], .null),
  (5, .aload_n 0, [0], .null),
  (6, .getfield 27, [147, 1, 6, 0], .null),
  (9, .if_icmp .ge 18, [27], .null),
  (12, .iload_n 2, [2], .null),
  (13, .aload_n 0, [0], .null),
  (14, .iload_n 3, [3], .null),
  (15, .iload_n 1, [1], .null),
  (16, .invokevirtual 85, [2, 569, 3, 9, 443, 1], .null),
  (19, .iadd, [], .null),
  (20, .istore_n 2, [2], .null),
  (21, .iinc 3 1, [3], .int 1),
  (24, .goto (-20), [4], .null),
  (27, .iload_n 2, [2], .null),
  (28, .ireturn, [], .null)]
def mm_c_X1_goDays : List mm_En := [
  (0, .iconst 0, [], .int 0),
  (1, .istore_n 2, [2], .null),
  (2, .iload_n 2, [2], .null),
  (3, .iload_n 1, [1], .null),
  (4, .if_icmp .ge 48, [52], .null),
  (7, .aload_n 0, [0], .null),
  (8, .dup, [], .null),
  (9, .getfield 37, [153, 1, 9, 0], .null),
  (12, .iconst 1, [], .int 1),
  (13, .iadd, [], .null),
  (14, .putfield 37, [153, 1, 9, 0], .null),
  (17, .aload_n 0, [0], .null),
  (18, .invokevirtual 88, [2, 331, 1, 12, 2, 1], .null),
  (21, .iconst 0, [], .int 0),
  (22, .istore_n 3, [3], .null),
  (23, .iload_n 3, [3], .null),
  (24, .aload_n 0, [0], .null),
  (25, .getfield 27, [147, 1, 6, 0], .null),
  (28, .if_icmp .ge 14, [42], .null),
  (31, .aload_n 0, [0], .null),
  (32, .iload_n 3, [3], .null),
  (33, .invokevirtual 91, [2, 342, 2, 13, 3, 1], .null),
  (36, .iinc 3 1, [3], .int 1),
  (39, .goto (-16), [23], .null),
  (42, .aload_n 0, [0], .null),
  (43, .invokevirtual 95, [2, 432, 1, 14, 4, 1], .null),
  (46, .iinc 2 1, [2], .int 1),
  (49, .goto (-47), [2], .null),
  (52, .return_, [], .null)]
def mm_c_X1_restSleepers : List mm_En := [
  (0, .iconst 0, [], .int 0),
  (1, .istore_n 1, [1], .null),
  (2, .iload_n 1, [1], .null),
  (3, .iconst 5, [], .int 5),
  (4, .if_icmp .ge 72, [76], .null),
  (7, .aload_n 0, [0], .null),
  (8, .iload_n 1, [1], .null),
  (9, .invokevirtual 98, [2, 335, 2, 7, 337, 1], .null),
  (12, .ifCond .ne 58, [70], .null),
  (15, .aload_n 0, [0], .null),
  (16, .getfield 24, [145, 1, 5, 0], .null),
  (19, .iload_n 1, [1], .null),
  (20, .iconst 0, [], .int 0),
  (21, .aload_n 0, [0], .null),
  (22, .getfield 24, [145, 1, 5, 0], .null),
  (25, .iload_n 1, [1], .null),
  (26, .iaload, [], .null),
  (27, .bipush 15, [], .int 15),
  (29, .isub, [], .null),
  (30, .invokestatic 101, [91, 339], .null),
  (33, .iastore, [], .null),
  (34, .aload_n 0, [0], .null),
  (35, .getfield 24, [145, 1, 5, 0], .null),
  (38, .iload_n 1, [1], .null),
  (39, .iaload, [], .null),
  (40, .bipush 20, [], .int 20),
  (42, .if_icmp .ge 28, [70], .null),
  (45, .aload_n 0, [0], .null),
  (46, .getfield 49, [161, 1, 13, 0], .null),
  (49, .iload_n 1, [1], .null),
  (50, .ishr, [], .null),
  (51, .iconst 1, [], .int 1),
  (52, .iand, [], .null),
  (53, .ifCond .ne 17, [70], .null),
  (56, .aload_n 0, [0], .null),
  (57, .dup, [], .null),
  (58, .getfield 31, [149, 1, 7, 0], .null),
  (61, .iconst 1, [], .int 1),
  (62, .iload_n 1, [1], .null),
  (63, .ishl, [], .null),
  (64, .iconst (-1), [], .int (-1)),
  (65, .ixor, [], .null),
  (66, .iand, [], .null),
  (67, .putfield 31, [149, 1, 7, 0], .null),
  (70, .iinc 1 1, [1], .int 1),
  (73, .goto (-71), [2], .null),
  (76, .return_, [], .null)]
def mm_c_X1_pour : List mm_En := [
  (0, .aload_n 0, [0], .null),
  (1, .iload_n 1, [1], .null),
  (2, .invokevirtual 72, [2, 314, 2, 6, 316, 1], .null),
  (5, .ifCond .ne 4, [9], .null),
  (8, .return_, [], .null),
  (9, .aload_n 0, [0], .null),
  (10, .getfield 52, [136, 1, 0, 0], .null),
  (13, .aload_n 0, [0], .null),
  (14, .getfield 9, [137, 1, 1, 0], .null),
  (17, .iload_n 1, [1], .null),
  (18, .iaload, [], .null),
  (19, .invokestatic 75, [1, 346, 2, 97], .null),
  (22, .astore_n 2, [2], .null),
  (23, .aload_n 0, [0], .null),
  (24, .getfield 46, [159, 1, 12, 0], .null),
  (27, .iload_n 1, [1], .null),
  (28, .ishr, [], .null),
  (29, .iconst 1, [], .int 1),
  (30, .iand, [], .null),
  (31, .ifCond .eq 7, [38], .null),
  (34, .iconst 0, [], .int 0),
  (35, .goto 17, [52], .null),
  (38, .aload_n 2, [2], .null),
  (39, .aload_n 0, [0], .null),
  (40, .getfield 37, [153, 1, 9, 0], .null),
  (43, .aload_n 0, [0], .null),
  (44, .getfield 15, [139, 1, 2, 0], .null),
  (47, .iload_n 1, [1], .null),
  (48, .iaload, [], .null),
  (49, .invokevirtual 79, [4, 349, 3, 0], .null),
  (52, .istore_n 3, [3], .null),
  (53, .iload_n 1, [1], .null),
  (54, .aload_n 0, [0], .null),
  (55, .getfield 43, [157, 1, 11, 0], .null),
  (58, .if_icmp .ne 9, [67], .null),
  (61, .iload_n 3, [3], .null),
  (62, .iconst 2, [], .int 2),
  (63, .idiv, [], .null),
  (64, .goto 4, [68], .null),
  (67, .iload_n 3, [3], .null),
  (68, .aload_n 0, [0], .null),
  (69, .getfield 34, [151, 1, 8, 0], .null),
  (72, .invokestatic 106, [90, 380], .null),
  (75, .istore 4, [4], .null),
  (77, .aload_n 0, [0], .null),
  (78, .dup, [], .null),
  (79, .getfield 34, [151, 1, 8, 0], .null),
  (82, .iload 4, [4], .null),
  (84, .isub, [], .null),
  (85, .putfield 34, [151, 1, 8, 0], .null),
  (88, .aload_n 0, [0], .null),
  (89, .getfield 40, [155, 1, 10, 0], .null),
  (92, .iload_n 1, [1], .null),
  (93, .dup2, [], .null),
  (94, .iaload, [], .null),
  (95, .iload 4, [4], .null),
  (97, .iadd, [], .null),
  (98, .iastore, [], .null),
  (99, .aload_n 0, [0], .null),
  (100, .getfield 18, [141, 1, 3, 0], .null),
  (103, .iload_n 1, [1], .null),
  (104, .iaload, [], .null),
  (105, .istore 5, [5], .null),
  (107, .aload_n 0, [0], .null),
  (108, .iload 5, [5], .null),
  (110, .invokevirtual 98, [2, 335, 2, 7, 337, 1], .null),
  (113, .ifCond .eq 38, [151], .null),
  (116, .aload_n 0, [0], .null),
  (117, .getfield 24, [145, 1, 5, 0], .null),
  (120, .iload 5, [5], .null),
  (122, .bipush 99, [], .int 99),
  (124, .aload_n 0, [0], .null),
  (125, .getfield 24, [145, 1, 5, 0], .null),
  (128, .iload 5, [5], .null),
  (130, .iaload, [], .null),
  (131, .aload_n 2, [2], .null),
  (132, .iload 4, [4], .null),
  (134, .aload_n 0, [0], .null),
  (135, .getfield 15, [139, 1, 2, 0], .null),
  (138, .iload_n 1, [1], .null),
  (139, .iaload, [], .null),
  (140, .invokevirtual 109, [4, 383, 3, 1], .null),
  (143, .iadd, [], .null),
  (144, .invokestatic 106, [90, 380], .null),
  (147, .iastore, [], .null),
  (148, .goto 34, [182], .null),
  (151, .aload_n 0, [0], .null),
  (152, .getfield 21, [143, 1, 4, 0], .null),
  (155, .iload_n 1, [1], .null),
  (156, .sipush 999, [], .int 999),
  (159, .aload_n 0, [0], .null),
  (160, .getfield 21, [143, 1, 4, 0], .null),
  (163, .iload_n 1, [1], .null),
  (164, .iaload, [], .null),
  (165, .aload_n 2, [2], .null),
  (166, .iload 4, [4], .null),
  (168, .aload_n 0, [0], .null),
  (169, .getfield 15, [139, 1, 2, 0], .null),
  (172, .iload_n 1, [1], .null),
  (173, .iaload, [], .null),
  (174, .invokevirtual 112, [4, 410, 3, 2], .null),
  (177, .iadd, [], .null),
  (178, .invokestatic 106, [90, 380], .null),
  (181, .iastore, [], .null),
  (182, .return_, [], .null)]
def mm_c_X1_endDay : List mm_En := [
  (0, .iconst 0, [], .int 0),
  (1, .istore_n 1, [1], .null),
  (2, .iload_n 1, [1], .null),
  (3, .iconst 5, [], .int 5),
  (4, .if_icmp .ge 61, [65], .null),
  (7, .aload_n 0, [0], .null),
  (8, .iload_n 1, [1], .null),
  (9, .invokevirtual 98, [2, 335, 2, 7, 337, 1], .null),
  (12, .ifCond .eq 47, [59], .null),
  (15, .aload_n 0, [0], .null),
  (16, .getfield 24, [145, 1, 5, 0], .null),
  (19, .iload_n 1, [1], .null),
  (20, .iaload, [], .null),
  (21, .bipush 60, [], .int 60),
  (23, .if_icmp .lt 18, [41], .null),
  (26, .aload_n 0, [0], .null),
  (27, .dup, [], .null),
  (28, .getfield 31, [149, 1, 7, 0], .null),
  (31, .iconst 1, [], .int 1),
  (32, .iload_n 1, [1], .null),
  (33, .ishl, [], .null),
  (34, .ior, [], .null),
  (35, .putfield 31, [149, 1, 7, 0], .null),
  (38, .goto 21, [59], .null),
  (41, .aload_n 0, [0], .null),
  (42, .getfield 24, [145, 1, 5, 0], .null),
  (45, .iload_n 1, [1], .null),
  (46, .iconst 0, [], .int 0),
  (47, .aload_n 0, [0], .null),
  (48, .getfield 24, [145, 1, 5, 0], .null),
  (51, .iload_n 1, [1], .null),
  (52, .iaload, [], .null),
  (53, .iconst 2, [], .int 2),
  (54, .isub, [], .null),
  (55, .invokestatic 101, [91, 339], .null),
  (58, .iastore, [], .null),
  (59, .iinc 1 1, [1], .int 1),
  (62, .goto (-60), [2], .null),
  (65, .return_, [], .null)]
def mm_c_X1_obeys : List mm_En := [
  (0, .aload_n 1, [1], .null),
  (1, .iload_n 2, [2], .null),
  (2, .iconst 1, [], .int 1),
  (3, .iadd, [], .null),
  (4, .iconst 1, [], .int 1),
  (5, .invokevirtual 115, [2, 298, 3, 48, 300, 8], .null),
  (8, .istore_n 3, [3], .null),
  (9, .aload_n 1, [1], .null),
  (10, .iload_n 2, [2], .null),
  (11, .iconst 2, [], .int 2),
  (12, .iadd, [], .null),
  (13, .iconst 1, [], .int 1),
  (14, .invokevirtual 115, [2, 298, 3, 48, 300, 8], .null),
  (17, .istore 4, [4], .null),
  (19, .aload_n 1, [1], .null),
  (20, .iload_n 2, [2], .null),
  (21, .iconst 3, [], .int 3),
  (22, .iadd, [], .null),
  (23, .iconst 1, [], .int 1),
  (24, .invokevirtual 115, [2, 298, 3, 48, 300, 8], .null),
  (27, .istore 5, [5], .null),
  (29, .aload_n 1, [1], .null),
  (30, .iload_n 2, [2], .null),
  (31, .iconst 1, [], .int 1),
  (32, .iadd, [], .null),
  (33, .iconst 2, [], .int 2),
  (34, .invokevirtual 115, [2, 298, 3, 48, 300, 8], .null),
  (37, .istore 6, [6], .null),
  (39, .aload_n 1, [1], .null),
  (40, .iload_n 2, [2], .null),
  (41, .iconst 2, [], .int 2),
  (42, .iadd, [], .null),
  (43, .iconst 2, [], .int 2),
  (44, .invokevirtual 115, [2, 298, 3, 48, 300, 8], .null),
  (47, .istore 7, [7], .null),
  (49, .aload_n 1, [1], .null),
  (50, .iload_n 2, [2], .null),
  (51, .invokevirtual 120, [2, 303, 2, 46, 269, 8], .null),
  (54, .tableswitch 273 98 122 #[198, 273, 239, 273, 273, 273, 273, 273, 273, 114, 273, 273, 273, 212, 273, 273, 273, 273, 181, 273, 273, 146, 273, 273, 192], [114, 98, 327, 252, 327, 293, 327, 327, 327, 327, 327, 327, 168, 327, 327, 327, 266, 327, 327, 327, 327, 235, 327, 327, 200, 327, 327, 246], .null),
  (168, .iload_n 3, [3], .null),
  (169, .bipush 8, [], .int 8),
  (171, .if_icmp .ge 27, [198], .null),
  (174, .iload 5, [5], .null),
  (176, .invokestatic 124, [1, 304, 1, 95], .null),
  (179, .ifCond .eq 19, [198], .null),
  (182, .aload_n 0, [0], .null),
  (183, .iload_n 3, [3], .null),
  (184, .iload 4, [4], .null),
  (186, .iload 5, [5], .null),
  (188, .invokevirtual 127, [2, 310, 4, 8, 312, 1], .null),
  (191, .ifCond .eq 7, [198], .null),
  (194, .iconst 1, [], .int 1),
  (195, .goto 4, [199], .null),
  (198, .iconst 0, [], .int 0),
  (199, .ireturn, [], .null),
  (200, .aload_n 0, [0], .null),
  (201, .iload_n 3, [3], .null),
  (202, .invokevirtual 72, [2, 314, 2, 6, 316, 1], .null),
  (205, .ifCond .eq 28, [233], .null),
  (208, .iload 4, [4], .null),
  (210, .invokestatic 124, [1, 304, 1, 95], .null),
  (213, .ifCond .eq 20, [233], .null),
  (216, .aload_n 0, [0], .null),
  (217, .getfield 18, [141, 1, 3, 0], .null),
  (220, .iload_n 3, [3], .null),
  (221, .iload 4, [4], .null),
  (223, .invokestatic 131, [0, 318, 3, 17], .null),
  (226, .ifCond .eq 7, [233], .null),
  (229, .iconst 1, [], .int 1),
  (230, .goto 4, [234], .null),
  (233, .iconst 0, [], .int 0),
  (234, .ireturn, [], .null),
  (235, .aload_n 0, [0], .null),
  (236, .getfield 24, [145, 1, 5, 0], .null),
  (239, .iload_n 3, [3], .null),
  (240, .iload 7, [7], .null),
  (242, .invokestatic 131, [0, 318, 3, 17], .null),
  (245, .ireturn, [], .null),
  (246, .aload_n 0, [0], .null),
  (247, .iload_n 3, [3], .null),
  (248, .invokevirtual 135, [2, 321, 2, 16, 1, 1], .null),
  (251, .ireturn, [], .null),
  (252, .aload_n 0, [0], .null),
  (253, .aload_n 1, [1], .null),
  (254, .iload_n 2, [2], .null),
  (255, .iconst 1, [], .int 1),
  (256, .iadd, [], .null),
  (257, .iconst 3, [], .int 3),
  (258, .invokevirtual 115, [2, 298, 3, 48, 300, 8], .null),
  (261, .putfield 34, [151, 1, 8, 0], .null),
  (264, .iconst 1, [], .int 1),
  (265, .ireturn, [], .null),
  (266, .aload_n 0, [0], .null),
  (267, .iload_n 3, [3], .null),
  (268, .invokevirtual 72, [2, 314, 2, 6, 316, 1], .null),
  (271, .ifCond .eq 20, [291], .null),
  (274, .aload_n 0, [0], .null),
  (275, .getfield 21, [143, 1, 4, 0], .null),
  (278, .iload_n 3, [3], .null),
  (279, .iload 7, [7], .null),
  (281, .invokestatic 131, [0, 318, 3, 17], .null),
  (284, .ifCond .eq 7, [291], .null),
  (287, .iconst 1, [], .int 1),
  (288, .goto 4, [292], .null),
  (291, .iconst 0, [], .int 0),
  (292, .ireturn, [], .null),
  (293, .iload 6, [6], .null),
  (295, .iconst 1, [], .int 1),
  (296, .bipush 60, [], .int 60),
  (298, .invokestatic 138, [1, 326, 3, 93], .null),
  (301, .ifCond .eq 16, [317], .null),
  (304, .aload_n 0, [0], .null),
  (305, .getfield 37, [153, 1, 9, 0], .null),
  (308, .iload 6, [6], .null),
  (310, .iadd, [], .null),
  (311, .sipush 999, [], .int 999),
  (314, .if_icmp .le 5, [319], .null),
  (317, .iconst 0, [], .int 0),
  (318, .ireturn, [], .null),
  (319, .aload_n 0, [0], .null),
  (320, .iload 6, [6], .null),
  (322, .invokevirtual 141, [2, 327, 2, 11, 329, 1], .null),
  (325, .iconst 1, [], .int 1),
  (326, .ireturn, [], .null),
  (327, .iconst 0, [], .int 0),
  (328, .ireturn, [], .null)]
def mm_c_X1_turnsOver : List mm_En := [
  (0, .iload_n 1, [1], .null),
  (1, .invokestatic 68, [1, 325, 1, 94], .null),
  (4, .ifCond .ne 5, [9], .null),
  (7, .iconst 0, [], .int 0),
  (8, .ireturn, [], .null),
  (9, .aload_n 0, [0], .null),
  (10, .dup, [], .null),
  (11, .getfield 31, [149, 1, 7, 0], .null),
  (14, .iconst 1, [], .int 1),
  (15, .iload_n 1, [1], .null),
  (16, .ishl, [], .null),
  (17, .ixor, [], .null),
  (18, .putfield 31, [149, 1, 7, 0], .null),
  (21, .iconst 1, [], .int 1),
  (22, .ireturn, [], .null)]
def mm_c_X1_setIn : List mm_En := [
  (0, .iload_n 1, [1], .null),
  (1, .ifCond .lt 9, [10], .null),
  (4, .iload_n 1, [1], .null),
  (5, .aload_n 0, [0], .null),
  (6, .arraylength, [], .null),
  (7, .if_icmp .lt 5, [12], .null),
  (10, .iconst 0, [], .int 0),
  (11, .ireturn, [], .null),
  (12, .aload_n 0, [0], .null),
  (13, .iload_n 1, [1], .null),
  (14, .iload_n 2, [2], .null),
  (15, .iastore, [], .null),
  (16, .iconst 1, [], .int 1),
  (17, .ireturn, [], .null)]
def mm_c_X1_owedInAll : List mm_En := [
  (0, .iconst 0, [], .int 0),
  (1, .istore_n 1, [1], .null),
  (2, .iconst 0, [], .int 0),
  (3, .istore_n 2, [2], .null),
  (4, .iload_n 2, [2], .null),
  (5, .aload_n 0, [0], .null),
  (6, .getfield 27, [147, 1, 6, 0], .null),
  (9, .if_icmp .ge 24, [33], .null),
  (12, .iload_n 2, [2], .null),
  (13, .bipush 7, [], .int 7),
  (15, .if_icmp .ge 18, [33], .null),
  (18, .iload_n 1, [1], .null),
  (19, .aload_n 0, [0], .null),
  (20, .getfield 21, [143, 1, 4, 0], .null),
  (23, .iload_n 2, [2], .null),
  (24, .iaload, [], .null),
  (25, .iadd, [], .null),
  (26, .istore_n 1, [1], .null),
  (27, .iinc 2 1, [2], .int 1),
  (30, .goto (-26), [4], .null),
  (33, .iload_n 1, [1], .null),
  (34, .ireturn, [], .null)]
def mm_c_X1_tiredInAll : List mm_En := [
  (0, .iconst 0, [], .int 0),
  (1, .istore_n 1, [1], .null),
  (2, .iconst 0, [], .int 0),
  (3, .istore_n 2, [2], .null),
  (4, .iload_n 2, [2], .null),
  (5, .iconst 5, [], .int 5),
  (6, .if_icmp .ge 18, [24], .null),
  (9, .iload_n 1, [1], .null),
  (10, .aload_n 0, [0], .null),
  (11, .getfield 24, [145, 1, 5, 0], .null),
  (14, .iload_n 2, [2], .null),
  (15, .iaload, [], .null),
  (16, .iadd, [], .null),
  (17, .istore_n 1, [1], .null),
  (18, .iinc 2 1, [2], .int 1),
  (21, .goto (-17), [4], .null),
  (24, .iload_n 1, [1], .null),
  (25, .ireturn, [], .null)]
def mm_c_X1_drinkersOf : List mm_En := [
  (0, .iconst 0, [], .int 0),
  (1, .istore_n 2, [2], .null),
  (2, .iconst 0, [], .int 0),
  (3, .istore_n 3, [3], .null),
  (4, .iload_n 3, [3], .null),
  (5, .aload_n 0, [0], .null),
  (6, .getfield 27, [147, 1, 6, 0], .null),
  (9, .if_icmp .ge 28, [37], .null),
  (12, .iload_n 3, [3], .null),
  (13, .bipush 7, [], .int 7),
  (15, .if_icmp .ge 22, [37], .null),
  (18, .aload_n 0, [0], .null),
  (19, .getfield 18, [141, 1, 3, 0], .null),
  (22, .iload_n 3, [3], .null),
  (23, .iaload, [], .null),
  (24, .iload_n 1, [1], .null),
  (25, .if_icmp .ne 6, [31], .null),
  (28, .iinc 2 1, [2], .int 1),
  (31, .iinc 3 1, [3], .int 1),
  (34, .goto (-30), [4], .null),
  (37, .iload_n 2, [2], .null),
  (38, .ireturn, [], .null)]
def mm_c_X1_heaviestWaker : List mm_En := [
  (0, .iconst 0, [], .int 0),
  (1, .istore_n 1, [1], .null),
  (2, .iconst 1, [], .int 1),
  (3, .istore_n 2, [2], .null),
  (4, .iload_n 2, [2], .null),
  (5, .iconst 5, [], .int 5),
  (6, .if_icmp .ge 24, [30], .null),
  (9, .aload_n 0, [0], .null),
  (10, .iload_n 2, [2], .null),
  (11, .invokevirtual 144, [2, 578, 2, 20, 452, 1], .null),
  (14, .aload_n 0, [0], .null),
  (15, .iload_n 1, [1], .null),
  (16, .invokevirtual 144, [2, 578, 2, 20, 452, 1], .null),
  (19, .if_icmp .le 5, [24], .null),
  (22, .iload_n 2, [2], .null),
  (23, .istore_n 1, [1], .null),
  (24, .iinc 2 1, [2], .int 1),
  (27, .goto (-23), [4], .null),
  (30, .iload_n 1, [1], .null),
  (31, .ireturn, [], .null)]
def mm_c_X1_deepestDrinker : List mm_En := [
  (0, .bipush (-4), [], .int (-4)),
  (2, .istore_n 1, [1], .null),
  (3, .iconst (-1), [], .int (-1)),
  (4, .istore_n 2, [2], .null),
  (5, .iconst 0, [], .int 0),
  (6, .istore_n 3, [3], .null),
  (7, .iload_n 3, [3], .null),
  (8, .aload_n 0, [0], .null),
  (9, .getfield 27, [147, 1, 6, 0], .null),
  (12, .if_icmp .ge 34, [46], .null),
  (15, .iload_n 3, [3], .null),
  (16, .bipush 7, [], .int 7),
  (18, .if_icmp .ge 28, [46], .null),
  (21, .aload_n 0, [0], .null),
  (22, .getfield 21, [143, 1, 4, 0], .null),
  (25, .iload_n 3, [3], .null),
  (26, .iaload, [], .null),
  (27, .iload_n 2, [2], .null),
  (28, .if_icmp .le 12, [40], .null),
  (31, .aload_n 0, [0], .null),
  (32, .getfield 21, [143, 1, 4, 0], .null),
  (35, .iload_n 3, [3], .null),
  (36, .iaload, [], .null),
  (37, .istore_n 2, [2], .null),
  (38, .iload_n 3, [3], .null),
  (39, .istore_n 1, [1], .null),
  (40, .iinc 3 1, [3], .int 1),
  (43, .goto (-36), [7], .null),
  (46, .iload_n 1, [1], .null),
  (47, .ireturn, [], .null)]
def mm_c_X1_aloneBits : List mm_En := [
  (0, .iconst 0, [], .int 0),
  (1, .istore_n 1, [1], .null),
  (2, .iconst 0, [], .int 0),
  (3, .istore_n 2, [2], .null),
  (4, .iload_n 2, [2], .null),
  (5, .aload_n 0, [0], .null),
  (6, .getfield 27, [147, 1, 6, 0], .null),
  (9, .if_icmp .ge 34, [43], .null),
  (12, .iload_n 2, [2], .null),
  (13, .bipush 7, [], .int 7),
  (15, .if_icmp .ge 28, [43], .null),
  (18, .aload_n 0, [0], .null),
  (19, .aload_n 0, [0], .null),
  (20, .getfield 18, [141, 1, 3, 0], .null),
  (23, .iload_n 2, [2], .null),
  (24, .iaload, [], .null),
  (25, .invokevirtual 98, [2, 335, 2, 7, 337, 1], .null),
  (28, .ifCond .ne 9, [37], .null),
  (31, .iload_n 1, [1], .null),
  (32, .iconst 1, [], .int 1),
  (33, .iload_n 2, [2], .null),
  (34, .ishl, [], .null),
  (35, .ior, [], .null),
  (36, .istore_n 1, [1], .null),
  (37, .iinc 2 1, [2], .int 1),
  (40, .goto (-36), [4], .null),
  (43, .iload_n 1, [1], .null),
  (44, .ireturn, [], .null)]
def mm_c_X2_cupsOn : List mm_En := [
  (0, .iconst 2, [], .int 2),
  (1, .aload_n 0, [0], .null),
  (2, .iload_n 1, [1], .null),
  (3, .iload_n 2, [2], .null),
  (4, .invokespecial 7, [5, 360, 3, 0, 1283, 108], .null),
  (7, .imul, [], .null),
  (8, .ireturn, [], .null)]
def mm_c_X2_priceOf : List mm_En := [
  (0, .iconst 2, [], .int 2),
  (1, .aload_n 0, [0], .null),
  (2, .iload_n 1, [1], .null),
  (3, .invokespecial 11, [5, 741, 2, 3, 1287, 108], .null),
  (6, .imul, [], .null),
  (7, .ireturn, [], .null)]
def mm_c_X3_cupsOn : List mm_En := [
  (0, .aload_n 0, [0], .null),
  (1, .iload_n 1, [1], .null),
  (2, .iload_n 2, [2], .null),
  (3, .invokespecial 7, [5, 364, 3, 29, 352, 87], .null),
  (6, .iload_n 1, [1], .null),
  (7, .iconst 2, [], .int 2),
  (8, .irem, [], .null),
  (9, .ifCond .eq 7, [16], .null),
  (12, .iconst 1, [], .int 1),
  (13, .goto 4, [17], .null),
  (16, .iconst 0, [], .int 0),
  (17, .iadd, [], .null),
  (18, .ireturn, [], .null)]
def mm_c_X3_tiringFor : List mm_En := [
  (0, .iconst 2, [], .int 2),
  (1, .iload_n 1, [1], .null),
  (2, .imul, [], .null),
  (3, .ireturn, [], .null)]
def mm_c_X3_priceOf : List mm_En := [
  (0, .aload_n 0, [0], .null),
  (1, .iload_n 1, [1], .null),
  (2, .invokespecial 11, [5, 745, 2, 32, 733, 87], .null),
  (5, .iconst 1, [], .int 1),
  (6, .iadd, [], .null),
  (7, .ireturn, [], .null)]
def mm_c_X4_cupsOn : List mm_En := [
  (0, .iconst 2, [], .int 2),
  (1, .ireturn, [], .null)]
def mm_c_X4_tiringFor : List mm_En := [
  (0, .iconst 3, [], .int 3),
  (1, .iload_n 1, [1], .null),
  (2, .imul, [], .null),
  (3, .ireturn, [], .null)]
def mm_c_X4_debtFor : List mm_En := [
  (0, .iload_n 1, [1], .null),
  (1, .ireturn, [], .null)]
def mm_c_X4_priceOf : List mm_En := [
  (0, .iconst 3, [], .int 3),
  (1, .ireturn, [], .null)]
def mm_c_X4_failureOf : List mm_En := [
  (0, .iload_n 1, [1], .null),
  (1, .ireturn, [], .null)]
def mm_c_X5_cupsOn : List mm_En := [
  (0, .iload_n 1, [1], .null),
  (1, .iconst 3, [], .int 3),
  (2, .irem, [], .null),
  (3, .ifCond .ne 7, [10], .null),
  (6, .iconst 0, [], .int 0),
  (7, .goto 9, [16], .null),
  (10, .aload_n 0, [0], .null),
  (11, .iload_n 1, [1], .null),
  (12, .iload_n 2, [2], .null),
  (13, .invokespecial 7, [5, 368, 3, 26, 1284, 115], .null),
  (16, .ireturn, [], .null)]
def mm_c_X5_tiringFor : List mm_En := [
  (0, .iconst 0, [], .int 0),
  (1, .aload_n 0, [0], .null),
  (2, .iload_n 1, [1], .null),
  (3, .iload_n 2, [2], .null),
  (4, .invokespecial 11, [5, 398, 3, 27, 1286, 115], .null),
  (7, .iload_n 2, [2], .null),
  (8, .isub, [], .null),
  (9, .invokestatic 14, [91, 399], .null),
  (12, .ireturn, [], .null)]
def mm_c_X6_cupsOn : List mm_En := [
  (0, .iconst 1, [], .int 1),
  (1, .ireturn, [], .null)]
def mm_c_X6_tiringFor : List mm_En := [
  (0, .iload_n 1, [1], .null),
  (1, .ireturn, [], .null)]
def mm_c_X6_priceOf : List mm_En := [
  (0, .iconst 2, [], .int 2),
  (1, .ireturn, [], .null)]
def mm_c_X7_cupsOn : List mm_En := [
  (0, .iconst 0, [], .int 0),
  (1, .ireturn, [], .null)]
def mm_c_X7_tiringFor : List mm_En := [
  (0, .iconst 5, [], .int 5),
  (1, .ireturn, [], .null)]
def mm_c_X7_debtFor : List mm_En := [
  (0, .iconst 0, [], .int 0),
  (1, .ireturn, [], .null)]
def mm_c_X7_priceOf : List mm_En := [
  (0, .aload_n 0, [0], .null),
  (1, .iload_n 1, [1], .null),
  (2, .invokespecial 7, [5, 753, 2, 38, 1288, 129], .null),
  (5, .iconst 2, [], .int 2),
  (6, .idiv, [], .null),
  (7, .ireturn, [], .null)]
def mm_c_X8_becomeRow : List mm_En := [
  (0, .aload_n 0, [0], .null),
  (1, .iconst 2, [], .int 2),
  (2, .putfield 11, [200, 8, 0, 0], .null),
  (5, .aload_n 0, [0], .null),
  (6, .iload_n 1, [1], .null),
  (7, .putfield 21, [206, 8, 3, 0], .null),
  (10, .aload_n 0, [0], .null),
  (11, .iconst 0, [], .int 0),
  (12, .iload_n 2, [2], .null),
  (13, .bipush 100, [], .int 100),
  (15, .invokestatic 31, [90, 704], .null),
  (18, .invokestatic 37, [91, 705], .null),
  (21, .putfield 24, [208, 8, 4, 0], .null),
  (24, .aload_n 0, [0], .null),
  (25, .getfield 27, [210, 8, 5, 0], .null),
  (28, .iconst 0, [], .int 0),
  (29, .invokestatic 40, [0, 706, 2, 208], .null),
  (32, .return_, [], .null)]
def mm_c_X8_hasPlace : List mm_En := [
  (0, .iload_n 1, [1], .null),
  (1, .ifCond .lt 21, [22], .null),
  (4, .iload_n 1, [1], .null),
  (5, .aload_n 0, [0], .null),
  (6, .getfield 24, [208, 8, 4, 0], .null),
  (9, .if_icmp .ge 13, [22], .null),
  (12, .iload_n 1, [1], .null),
  (13, .bipush 100, [], .int 100),
  (15, .if_icmp .ge 7, [22], .null),
  (18, .iconst 1, [], .int 1),
  (19, .goto 4, [23], .null),
  (22, .iconst 0, [], .int 0),
  (23, .ireturn, [], .null)]
def mm_c_X8_hasPlaces : List mm_En := [
  (0, .iload_n 2, [2], .null),
  (1, .ifCond .lt 29, [30], .null),
  (4, .iload_n 1, [1], .null),
  (5, .ifCond .lt 25, [30], .null),
  (8, .iload_n 2, [2], .null),
  (9, .aload_n 0, [0], .null),
  (10, .getfield 24, [208, 8, 4, 0], .null),
  (13, .if_icmp .gt 17, [30], .null),
  (16, .iload_n 1, [1], .null),
  (17, .aload_n 0, [0], .null),
  (18, .getfield 24, [208, 8, 4, 0], .null),
  (21, .iload_n 2, [2], .null),
  (22, .isub, [], .null),
  (23, .if_icmp .gt 7, [30], .null),
  (26, .iconst 1, [], .int 1),
  (27, .goto 4, [31], .null),
  (30, .iconst 0, [], .int 0),
  (31, .ireturn, [], .null)]
def mm_c_X8_at : List mm_En := [
  (0, .aload_n 0, [0], .null),
  (1, .iload_n 1, [1], .null),
  (2, .invokevirtual 46, [2, 271, 2, 44, 273, 8], .null),
  (5, .ifCond .eq 12, [17], .null),
  (8, .aload_n 0, [0], .null),
  (9, .getfield 27, [210, 8, 5, 0], .null),
  (12, .iload_n 1, [1], .null),
  (13, .iaload, [], .null),
  (14, .goto 4, [18], .null),
  (17, .iconst 0, [], .int 0),
  (18, .ireturn, [], .null)]
def mm_c_X8_setAt : List mm_En := [
  (0, .aload_n 0, [0], .null),
  (1, .iload_n 1, [1], .null),
  (2, .invokevirtual 46, [2, 271, 2, 44, 273, 8], .null),
  (5, .ifCond .ne 4, [9], .null),
  (8, .return_, [], .null),
  (9, .aload_n 0, [0], .null),
  (10, .getfield 21, [206, 8, 3, 0], .null),
  (13, .ifCond .ne 14, [27], .null),
  (16, .aload_n 0, [0], .null),
  (17, .getfield 27, [210, 8, 5, 0], .null),
  (20, .iload_n 1, [1], .null),
  (21, .iload_n 2, [2], .null),
  (22, .i2b, [], .null),
  (23, .iastore, [], .null),
  (24, .goto 29, [53], .null),
  (27, .aload_n 0, [0], .null),
  (28, .getfield 21, [206, 8, 3, 0], .null),
  (31, .iconst 1, [], .int 1),
  (32, .if_icmp .ne 14, [46], .null),
  (35, .aload_n 0, [0], .null),
  (36, .getfield 27, [210, 8, 5, 0], .null),
  (39, .iload_n 1, [1], .null),
  (40, .iload_n 2, [2], .null),
  (41, .i2s, [], .null),
  (42, .iastore, [], .null),
  (43, .goto 10, [53], .null),
  (46, .aload_n 0, [0], .null),
  (47, .getfield 27, [210, 8, 5, 0], .null),
  (50, .iload_n 1, [1], .null),
  (51, .iload_n 2, [2], .null),
  (52, .iastore, [], .null),
  (53, .return_, [], .null)]
def mm_c_X8_numberAt : List mm_En := [
  (0, .iconst 0, [], .int 0),
  (1, .istore_n 3, [3], .null),
  (2, .iconst 0, [], .int 0),
  (3, .istore 4, [4], .null),
  (5, .iload 4, [4], .null),
  (7, .iload_n 2, [2], .null),
  (8, .if_icmp .ge 26, [34], .null),
  (11, .bipush 10, [], .int 10),
  (13, .iload_n 3, [3], .null),
  (14, .imul, [], .null),
  (15, .aload_n 0, [0], .null),
  (16, .iload_n 1, [1], .null),
  (17, .iload 4, [4], .null),
  (19, .iadd, [], .null),
  (20, .invokevirtual 50, [2, 302, 2, 46, 269, 8], .null),
  (23, .iadd, [], .null),
  (24, .bipush 48, [], .int 48),
  (26, .isub, [], .null),
  (27, .istore_n 3, [3], .null),
  (28, .iinc 4 1, [4], .int 1),
  (31, .goto (-26), [5], .null),
  (34, .iload_n 3, [3], .null),
  (35, .ireturn, [], .null)]
def mm_c_X8_leastOfSort : List mm_En := [
  (0, .aload_n 0, [0], .null),
  (1, .getfield 21, [206, 8, 3, 0], .null),
  (4, .ifCond .ne 6, [10], .null),
  (7, .bipush (-128), [], .int (-128)),
  (9, .ireturn, [], .null),
  (10, .aload_n 0, [0], .null),
  (11, .getfield 21, [206, 8, 3, 0], .null),
  (14, .iconst 1, [], .int 1),
  (15, .if_icmp .ne 9, [24], .null),
  (18, .sipush (-32768), [], .int (-32768)),
  (21, .goto 5, [26], .null),
  (24, .ldc 54, [611], .int (-2147483648)),
  (26, .ireturn, [], .null)]
def mm_c_X8_allows : List mm_En := [
  (0, .aload_n 0, [0], .null),
  (1, .iload_n 1, [1], .null),
  (2, .invokevirtual 50, [2, 302, 2, 46, 269, 8], .null),
  (5, .iload_n 2, [2], .null),
  (6, .if_icmp .eq 15, [21], .null),
  (9, .aload_n 0, [0], .null),
  (10, .iload_n 1, [1], .null),
  (11, .invokevirtual 50, [2, 302, 2, 46, 269, 8], .null),
  (14, .aload_n 0, [0], .null),
  (15, .invokevirtual 55, [2, 607, 1, 49, 14, 8], .null),
  (18, .if_icmp .ne 7, [25], .null),
  (21, .iconst 1, [], .int 1),
  (22, .goto 4, [26], .null),
  (25, .iconst 0, [], .int 0),
  (26, .ireturn, [], .null)]
def mm_c_X9_cupsOn : List mm_En := [
  (0, .aload_n 0, [0], .null),
  (1, .iload_n 1, [1], .null),
  (2, .iload_n 2, [2], .null),
  (3, .invokespecial 7, [5, 378, 3, 24, 1285, 122], .null),
  (6, .iconst 1, [], .int 1),
  (7, .isub, [], .null),
  (8, .ireturn, [], .null)]
def mm_c_X9_tiringFor : List mm_En := [
  (0, .iconst 0, [], .int 0),
  (1, .ireturn, [], .null)]
def mm_c_X9_debtFor : List mm_En := [
  (0, .iload_n 1, [1], .null),
  (1, .ifCond .le 14, [15], .null),
  (4, .aload_n 0, [0], .null),
  (5, .iload_n 1, [1], .null),
  (6, .iload_n 2, [2], .null),
  (7, .invokespecial 11, [6, 428, 3, 2, 429, 122, 108, 430], .null),
  (10, .iload_n 2, [2], .null),
  (11, .iadd, [], .null),
  (12, .goto 4, [16], .null),
  (15, .iconst 0, [], .int 0),
  (16, .ireturn, [], .null)]
def mm_c_X9_priceOf : List mm_En := [
  (0, .aload_n 0, [0], .null),
  (1, .iload_n 1, [1], .null),
  (2, .invokespecial 14, [5, 757, 2, 25, 1289, 122], .null),
  (5, .iconst 5, [], .int 5),
  (6, .isub, [], .null),
  (7, .ireturn, [], .null)]
def mm_c_X9_failureOf : List mm_En := [
  (0, .sipush 200, [], .int 200),
  (3, .aload_n 0, [0], .null),
  (4, .iload_n 1, [1], .null),
  (5, .invokevirtual 18, [2, 861, 2, 54, 1291, 9], .null),
  (8, .iadd, [], .null),
  (9, .ireturn, [], .null)]
def mm_c_X10_treaty : List mm_En := [
  (0, .aload_n 0, [0], .null),
  (1, .iconst 2, [], .int 2),
  (2, .iload_n 1, [1], .null),
  (3, .invokevirtual 69, [2, 257, 3, 98, 0, 10], .null),
  (6, .istore_n 2, [2], .null),
  (7, .iload_n 2, [2], .null),
  (8, .ifCond .eq 5, [13], .null),
  (11, .iload_n 2, [2], .null),
  (12, .ireturn, [], .null),
  (13, .aload_n 0, [0], .null),
  (14, .getfield 54, [229, 10, 4, 0], .null),
  (17, .iload_n 1, [1], .null),
  (18, .aaload, [], .null),
  (19, .astore_n 3, [3], .null),
  (20, .aload_n 3, [3], .null),
  (21, .getfield 73, [207, 8, 3, 1], .null),
  (24, .ifCond .eq 6, [30], .null),
  (27, .bipush (-12), [], .int (-12)),
  (29, .ireturn, [], .null),
  (30, .aload_n 3, [3], .null),
  (31, .invokestatic 77, [0, 264, 1, 102], .null),
  (34, .istore 4, [4], .null),
  (36, .iload 4, [4], .null),
  (38, .ifCond .lt 10, [48], .null),
  (41, .sipush (-1000), [], .int (-1000)),
  (44, .iload 4, [4], .null),
  (46, .isub, [], .null),
  (47, .ireturn, [], .null),
  (48, .aload_n 0, [0], .null),
  (49, .getfield 49, [228, 10, 3, 0], .null),
  (52, .aload_n 0, [0], .null),
  (53, .getfield 42, [226, 10, 1, 0], .null),
  (56, .invokevirtual 81, [2, 284, 2, 5, 286, 1], .null),
  (59, .iconst 0, [], .int 0),
  (60, .istore 5, [5], .null),
  (62, .iconst 0, [], .int 0),
  (63, .istore 6, [6], .null),
  (65, .iload 6, [6], .null),
  (67, .aload_n 3, [3], .null),
  (68, .getfield 85, [209, 8, 4, 1], .null),
  (71, .if_icmp .ge 44, [115], .null),
  (74, .aload_n 3, [3], .null),
  (75, .iload 6, [6], .null),
  (77, .invokevirtual 88, [2, 267, 2, 46, 269, 8], .null),
  (80, .invokestatic 92, [0, 275, 1, 101], .null),
  (83, .ifCond .eq 26, [109], .null),
  (86, .aload_n 0, [0], .null),
  (87, .getfield 49, [228, 10, 3, 0], .null),
  (90, .aload_n 3, [3], .null),
  (91, .iload 6, [6], .null),
  (93, .invokevirtual 96, [2, 294, 3, 15, 296, 1], .null),
  (96, .ifCond .ne 10, [106], .null),
  (99, .sipush (-2000), [], .int (-2000)),
  (102, .iload 6, [6], .null),
  (104, .isub, [], .null),
  (105, .ireturn, [], .null),
  (106, .iinc 5 1, [5], .int 1),
  (109, .iinc 6 1, [6], .int 1),
  (112, .goto (-47), [65], .null),
  (115, .aload_n 0, [0], .null),
  (116, .getfield 42, [226, 10, 1, 0], .null),
  (119, .aload_n 0, [0], .null),
  (120, .getfield 49, [228, 10, 3, 0], .null),
  (123, .invokevirtual 81, [2, 284, 2, 5, 286, 1], .null),
  (126, .iload 5, [5], .null),
  (128, .ireturn, [], .null)]
def mm_c_X10_drinker : List mm_En := [
  (0, .aload_n 0, [0], .null),
  (1, .getfield 42, [226, 10, 1, 0], .null),
  (4, .iload_n 1, [1], .null),
  (5, .invokevirtual 100, [2, 440, 2, 6, 316, 1], .null),
  (8, .ifCond .ne 5, [13], .null),
  (11, .iconst (-1), [], .int (-1)),
  (12, .ireturn, [], .null),
  (13, .iload_n 2, [2], .null),
  (14, .tableswitch 92 0 4 #[34, 44, 54, 64, 74], [34, 0, 106, 48, 58, 68, 78, 88], .null),
  (48, .aload_n 0, [0], .null),
  (49, .getfield 42, [226, 10, 1, 0], .null),
  (52, .getfield 103, [138, 1, 1, 1], .null),
  (55, .iload_n 1, [1], .null),
  (56, .iaload, [], .null),
  (57, .ireturn, [], .null),
  (58, .aload_n 0, [0], .null),
  (59, .getfield 42, [226, 10, 1, 0], .null),
  (62, .getfield 106, [140, 1, 2, 1], .null),
  (65, .iload_n 1, [1], .null),
  (66, .iaload, [], .null),
  (67, .ireturn, [], .null),
  (68, .aload_n 0, [0], .null),
  (69, .getfield 42, [226, 10, 1, 0], .null),
  (72, .getfield 109, [142, 1, 3, 1], .null),
  (75, .iload_n 1, [1], .null),
  (76, .iaload, [], .null),
  (77, .ireturn, [], .null),
  (78, .aload_n 0, [0], .null),
  (79, .getfield 42, [226, 10, 1, 0], .null),
  (82, .getfield 112, [144, 1, 4, 1], .null),
  (85, .iload_n 1, [1], .null),
  (86, .iaload, [], .null),
  (87, .ireturn, [], .null),
  (88, .aload_n 0, [0], .null),
  (89, .getfield 42, [226, 10, 1, 0], .null),
  (92, .iload_n 1, [1], .null),
  (93, .aload_n 0, [0], .null),
  (94, .getfield 42, [226, 10, 1, 0], .null),
  (97, .getfield 115, [154, 1, 9, 1], .null),
  (100, .iconst 1, [], .int 1),
  (101, .iadd, [], .null),
  (102, .invokevirtual 118, [2, 441, 3, 9, 443, 1], .null),
  (105, .ireturn, [], .null),
  (106, .iconst (-1), [], .int (-1)),
  (107, .ireturn, [], .null)]
def mm_c_X10_waker : List mm_En := [
  (0, .iload_n 1, [1], .null),
  (1, .invokestatic 121, [0, 307, 1, 94], .null),
  (4, .ifCond .ne 5, [9], .null),
  (7, .iconst (-1), [], .int (-1)),
  (8, .ireturn, [], .null),
  (9, .iload_n 2, [2], .null),
  (10, .tableswitch 62 0 2 #[26, 36, 53], [26, 0, 72, 36, 46, 63], .null),
  (36, .aload_n 0, [0], .null),
  (37, .getfield 42, [226, 10, 1, 0], .null),
  (40, .getfield 124, [146, 1, 5, 1], .null),
  (43, .iload_n 1, [1], .null),
  (44, .iaload, [], .null),
  (45, .ireturn, [], .null),
  (46, .aload_n 0, [0], .null),
  (47, .getfield 42, [226, 10, 1, 0], .null),
  (50, .iload_n 1, [1], .null),
  (51, .invokevirtual 127, [2, 449, 2, 7, 337, 1], .null),
  (54, .ifCond .eq 7, [61], .null),
  (57, .iconst 1, [], .int 1),
  (58, .goto 4, [62], .null),
  (61, .iconst 0, [], .int 0),
  (62, .ireturn, [], .null),
  (63, .aload_n 0, [0], .null),
  (64, .getfield 42, [226, 10, 1, 0], .null),
  (67, .iload_n 1, [1], .null),
  (68, .invokevirtual 130, [2, 450, 2, 20, 452, 1], .null),
  (71, .ireturn, [], .null),
  (72, .iconst (-1), [], .int (-1)),
  (73, .ireturn, [], .null)]
def mm_c_X10_comes : List mm_En := [
  (0, .iload_n 1, [1], .null),
  (1, .invokestatic 133, [0, 261, 1, 96], .null),
  (4, .ifCond .eq 10, [14], .null),
  (7, .iload_n 2, [2], .null),
  (8, .invokestatic 136, [0, 458, 1, 95], .null),
  (11, .ifCond .ne 5, [16], .null),
  (14, .iconst (-1), [], .int (-1)),
  (15, .ireturn, [], .null),
  (16, .aload_n 0, [0], .null),
  (17, .iconst 1, [], .int 1),
  (18, .iload_n 1, [1], .null),
  (19, .invokevirtual 69, [2, 257, 3, 98, 0, 10], .null),
  (22, .istore_n 3, [3], .null),
  (23, .iload_n 3, [3], .null),
  (24, .ifCond .eq 5, [29], .null),
  (27, .iload_n 3, [3], .null),
  (28, .ireturn, [], .null),
  (29, .aload_n 0, [0], .null),
  (30, .getfield 42, [226, 10, 1, 0], .null),
  (33, .aload_n 0, [0], .null),
  (34, .getfield 54, [229, 10, 4, 0], .null),
  (37, .iload_n 1, [1], .null),
  (38, .aaload, [], .null),
  (39, .getfield 139, [203, 8, 1, 1], .null),
  (42, .aload_n 0, [0], .null),
  (43, .getfield 54, [229, 10, 4, 0], .null),
  (46, .iload_n 1, [1], .null),
  (47, .aaload, [], .null),
  (48, .getfield 141, [205, 8, 2, 1], .null),
  (51, .iload_n 2, [2], .null),
  (52, .invokevirtual 143, [2, 459, 4, 8, 312, 1], .null),
  (55, .ifCond .ne 6, [61], .null),
  (58, .bipush (-2), [], .int (-2)),
  (60, .ireturn, [], .null),
  (61, .aload_n 0, [0], .null),
  (62, .getfield 42, [226, 10, 1, 0], .null),
  (65, .getfield 147, [148, 1, 6, 1], .null),
  (68, .iconst 1, [], .int 1),
  (69, .isub, [], .null),
  (70, .ireturn, [], .null)]
def mm_c_X10_wakes : List mm_En := [
  (0, .aload_n 0, [0], .null),
  (1, .getfield 42, [226, 10, 1, 0], .null),
  (4, .iload_n 1, [1], .null),
  (5, .invokevirtual 100, [2, 440, 2, 6, 316, 1], .null),
  (8, .ifCond .eq 10, [18], .null),
  (11, .iload_n 2, [2], .null),
  (12, .invokestatic 136, [0, 458, 1, 95], .null),
  (15, .ifCond .ne 5, [20], .null),
  (18, .iconst (-1), [], .int (-1)),
  (19, .ireturn, [], .null),
  (20, .aload_n 0, [0], .null),
  (21, .getfield 42, [226, 10, 1, 0], .null),
  (24, .getfield 109, [142, 1, 3, 1], .null),
  (27, .iload_n 1, [1], .null),
  (28, .iaload, [], .null),
  (29, .istore_n 3, [3], .null),
  (30, .aload_n 0, [0], .null),
  (31, .getfield 42, [226, 10, 1, 0], .null),
  (34, .getfield 109, [142, 1, 3, 1], .null),
  (37, .iload_n 1, [1], .null),
  (38, .iload_n 2, [2], .null),
  (39, .iastore, [], .null),
  (40, .iload_n 3, [3], .null),
  (41, .ireturn, [], .null)]
def mm_c_X10_tires : List mm_En := [
  (0, .iload_n 1, [1], .null),
  (1, .invokestatic 121, [0, 307, 1, 94], .null),
  (4, .ifCond .eq 13, [17], .null),
  (7, .iload_n 2, [2], .null),
  (8, .iconst 0, [], .int 0),
  (9, .bipush 99, [], .int 99),
  (11, .invokestatic 150, [0, 281, 3, 93], .null),
  (14, .ifCond .ne 5, [19], .null),
  (17, .iconst (-1), [], .int (-1)),
  (18, .ireturn, [], .null),
  (19, .aload_n 0, [0], .null),
  (20, .getfield 42, [226, 10, 1, 0], .null),
  (23, .getfield 124, [146, 1, 5, 1], .null),
  (26, .iload_n 1, [1], .null),
  (27, .iaload, [], .null),
  (28, .istore_n 3, [3], .null),
  (29, .aload_n 0, [0], .null),
  (30, .getfield 42, [226, 10, 1, 0], .null),
  (33, .getfield 124, [146, 1, 5, 1], .null),
  (36, .iload_n 1, [1], .null),
  (37, .iload_n 2, [2], .null),
  (38, .iastore, [], .null),
  (39, .iload_n 3, [3], .null),
  (40, .ireturn, [], .null)]
def mm_c_X10_sleeps : List mm_En := [
  (0, .aload_n 0, [0], .null),
  (1, .getfield 42, [226, 10, 1, 0], .null),
  (4, .iload_n 1, [1], .null),
  (5, .invokevirtual 153, [3, 472, 2, 16, 1, 1], .null),
  (8, .ifCond .ne 5, [13], .null),
  (11, .iconst (-1), [], .int (-1)),
  (12, .ireturn, [], .null),
  (13, .aload_n 0, [0], .null),
  (14, .getfield 42, [226, 10, 1, 0], .null),
  (17, .iload_n 1, [1], .null),
  (18, .invokevirtual 127, [2, 449, 2, 7, 337, 1], .null),
  (21, .ifCond .eq 7, [28], .null),
  (24, .iconst 1, [], .int 1),
  (25, .goto 4, [29], .null),
  (28, .iconst 0, [], .int 0),
  (29, .ireturn, [], .null)]
def mm_c_X10_bags : List mm_En := [
  (0, .iload_n 1, [1], .null),
  (1, .iconst 0, [], .int 0),
  (2, .sipush 999, [], .int 999),
  (5, .invokestatic 150, [0, 281, 3, 93], .null),
  (8, .ifCond .ne 5, [13], .null),
  (11, .iconst (-1), [], .int (-1)),
  (12, .ireturn, [], .null),
  (13, .aload_n 0, [0], .null),
  (14, .getfield 42, [226, 10, 1, 0], .null),
  (17, .getfield 156, [152, 1, 8, 1], .null),
  (20, .istore_n 2, [2], .null),
  (21, .aload_n 0, [0], .null),
  (22, .getfield 42, [226, 10, 1, 0], .null),
  (25, .iload_n 1, [1], .null),
  (26, .putfield 156, [152, 1, 8, 1], .null),
  (29, .iload_n 2, [2], .null),
  (30, .ireturn, [], .null)]
def mm_c_X10_days : List mm_En := [
  (0, .iload_n 1, [1], .null),
  (1, .iconst 1, [], .int 1),
  (2, .bipush 60, [], .int 60),
  (4, .invokestatic 150, [0, 281, 3, 93], .null),
  (7, .ifCond .ne 5, [12], .null),
  (10, .iconst (-1), [], .int (-1)),
  (11, .ireturn, [], .null),
  (12, .aload_n 0, [0], .null),
  (13, .getfield 42, [226, 10, 1, 0], .null),
  (16, .getfield 115, [154, 1, 9, 1], .null),
  (19, .iload_n 1, [1], .null),
  (20, .iadd, [], .null),
  (21, .sipush 999, [], .int 999),
  (24, .if_icmp .le 6, [30], .null),
  (27, .bipush (-3), [], .int (-3)),
  (29, .ireturn, [], .null),
  (30, .aload_n 0, [0], .null),
  (31, .getfield 42, [226, 10, 1, 0], .null),
  (34, .iload_n 1, [1], .null),
  (35, .invokevirtual 159, [2, 481, 2, 11, 329, 1], .null),
  (38, .aload_n 0, [0], .null),
  (39, .getfield 42, [226, 10, 1, 0], .null),
  (42, .invokevirtual 163, [2, 482, 1, 18, 484, 1], .null),
  (45, .ireturn, [], .null)]
def mm_c_X10_owesThen : List mm_En := [
  (0, .aload_n 0, [0], .null),
  (1, .getfield 42, [226, 10, 1, 0], .null),
  (4, .iload_n 1, [1], .null),
  (5, .invokevirtual 100, [2, 440, 2, 6, 316, 1], .null),
  (8, .ifCond .eq 13, [21], .null),
  (11, .iload_n 2, [2], .null),
  (12, .iconst 0, [], .int 0),
  (13, .bipush 60, [], .int 60),
  (15, .invokestatic 150, [0, 281, 3, 93], .null),
  (18, .ifCond .ne 5, [23], .null),
  (21, .iconst (-1), [], .int (-1)),
  (22, .ireturn, [], .null),
  (23, .aload_n 0, [0], .null),
  (24, .iload_n 2, [2], .null),
  (25, .invokevirtual 167, [2, 490, 2, 103, 5, 10], .null),
  (28, .aload_n 0, [0], .null),
  (29, .getfield 49, [228, 10, 3, 0], .null),
  (32, .getfield 112, [144, 1, 4, 1], .null),
  (35, .iload_n 1, [1], .null),
  (36, .iaload, [], .null),
  (37, .ireturn, [], .null)]
def mm_c_X10_tiredThen : List mm_En := [
  (0, .iload_n 1, [1], .null),
  (1, .invokestatic 121, [0, 307, 1, 94], .null),
  (4, .ifCond .eq 13, [17], .null),
  (7, .iload_n 2, [2], .null),
  (8, .iconst 0, [], .int 0),
  (9, .bipush 60, [], .int 60),
  (11, .invokestatic 150, [0, 281, 3, 93], .null),
  (14, .ifCond .ne 5, [19], .null),
  (17, .iconst (-1), [], .int (-1)),
  (18, .ireturn, [], .null),
  (19, .aload_n 0, [0], .null),
  (20, .iload_n 2, [2], .null),
  (21, .invokevirtual 167, [2, 490, 2, 103, 5, 10], .null),
  (24, .aload_n 0, [0], .null),
  (25, .getfield 49, [228, 10, 3, 0], .null),
  (28, .getfield 124, [146, 1, 5, 1], .null),
  (31, .iload_n 1, [1], .null),
  (32, .iaload, [], .null),
  (33, .ireturn, [], .null)]
def mm_c_X10_then : List mm_En := [
  (0, .iload_n 1, [1], .null),
  (1, .iconst 0, [], .int 0),
  (2, .bipush 60, [], .int 60),
  (4, .invokestatic 150, [0, 281, 3, 93], .null),
  (7, .ifCond .eq 12, [19], .null),
  (10, .iload_n 2, [2], .null),
  (11, .iconst 0, [], .int 0),
  (12, .iconst 2, [], .int 2),
  (13, .invokestatic 150, [0, 281, 3, 93], .null),
  (16, .ifCond .ne 5, [21], .null),
  (19, .iconst (-1), [], .int (-1)),
  (20, .ireturn, [], .null),
  (21, .aload_n 0, [0], .null),
  (22, .iload_n 1, [1], .null),
  (23, .invokevirtual 167, [2, 490, 2, 103, 5, 10], .null),
  (26, .iload_n 2, [2], .null),
  (27, .lookupswitch 41 #[(0, 25), (1, 33)], [25, 68, 0, 52, 1, 60], .null),
  (52, .aload_n 0, [0], .null),
  (53, .getfield 49, [228, 10, 3, 0], .null),
  (56, .getfield 156, [152, 1, 8, 1], .null),
  (59, .ireturn, [], .null),
  (60, .aload_n 0, [0], .null),
  (61, .getfield 49, [228, 10, 3, 0], .null),
  (64, .getfield 170, [150, 1, 7, 1], .null),
  (67, .ireturn, [], .null),
  (68, .aload_n 0, [0], .null),
  (69, .getfield 49, [228, 10, 3, 0], .null),
  (72, .invokevirtual 163, [2, 482, 1, 18, 484, 1], .null),
  (75, .ireturn, [], .null)]
def mm_c_X10_firstAsleep : List mm_En := [
  (0, .iload_n 1, [1], .null),
  (1, .invokestatic 121, [0, 307, 1, 94], .null),
  (4, .ifCond .ne 5, [9], .null),
  (7, .iconst (-1), [], .int (-1)),
  (8, .ireturn, [], .null),
  (9, .aload_n 0, [0], .null),
  (10, .getfield 49, [228, 10, 3, 0], .null),
  (13, .aload_n 0, [0], .null),
  (14, .getfield 42, [226, 10, 1, 0], .null),
  (17, .invokevirtual 81, [2, 284, 2, 5, 286, 1], .null),
  (20, .iconst 0, [], .int 0),
  (21, .istore_n 2, [2], .null),
  (22, .iload_n 2, [2], .null),
  (23, .bipush 60, [], .int 60),
  (25, .if_icmp .ge 30, [55], .null),
  (28, .aload_n 0, [0], .null),
  (29, .getfield 49, [228, 10, 3, 0], .null),
  (32, .iload_n 1, [1], .null),
  (33, .invokevirtual 127, [2, 449, 2, 7, 337, 1], .null),
  (36, .ifCond .ne 5, [41], .null),
  (39, .iload_n 2, [2], .null),
  (40, .ireturn, [], .null),
  (41, .aload_n 0, [0], .null),
  (42, .getfield 49, [228, 10, 3, 0], .null),
  (45, .iconst 1, [], .int 1),
  (46, .invokevirtual 159, [2, 481, 2, 11, 329, 1], .null),
  (49, .iinc 2 1, [2], .int 1),
  (52, .goto (-30), [22], .null),
  (55, .aload_n 0, [0], .null),
  (56, .getfield 49, [228, 10, 3, 0], .null),
  (59, .iload_n 1, [1], .null),
  (60, .invokevirtual 127, [2, 449, 2, 7, 337, 1], .null),
  (63, .ifCond .eq 8, [71], .null),
  (66, .bipush (-4), [], .int (-4)),
  (68, .goto 5, [73], .null),
  (71, .bipush 60, [], .int 60),
  (73, .ireturn, [], .null)]
def mm_c_X10_out : List mm_En := [
  (0, .aload_n 0, [0], .null),
  (1, .getfield 49, [228, 10, 3, 0], .null),
  (4, .aload_n 0, [0], .null),
  (5, .getfield 42, [226, 10, 1, 0], .null),
  (8, .invokevirtual 81, [2, 284, 2, 5, 286, 1], .null),
  (11, .iconst 0, [], .int 0),
  (12, .istore_n 1, [1], .null),
  (13, .iload_n 1, [1], .null),
  (14, .bipush 60, [], .int 60),
  (16, .if_icmp .ge 29, [45], .null),
  (19, .aload_n 0, [0], .null),
  (20, .getfield 49, [228, 10, 3, 0], .null),
  (23, .getfield 156, [152, 1, 8, 1], .null),
  (26, .ifCond .ne 5, [31], .null),
  (29, .iload_n 1, [1], .null),
  (30, .ireturn, [], .null),
  (31, .aload_n 0, [0], .null),
  (32, .getfield 49, [228, 10, 3, 0], .null),
  (35, .iconst 1, [], .int 1),
  (36, .invokevirtual 159, [2, 481, 2, 11, 329, 1], .null),
  (39, .iinc 1 1, [1], .int 1),
  (42, .goto (-29), [13], .null),
  (45, .aload_n 0, [0], .null),
  (46, .getfield 49, [228, 10, 3, 0], .null),
  (49, .getfield 156, [152, 1, 8, 1], .null),
  (52, .ifCond .ne 8, [60], .null),
  (55, .bipush 60, [], .int 60),
  (57, .goto 5, [62], .null),
  (60, .bipush (-4), [], .int (-4)),
  (62, .ireturn, [], .null)]
def mm_c_X10_bestWaker : List mm_En := [
  (0, .aload_n 0, [0], .null),
  (1, .getfield 42, [226, 10, 1, 0], .null),
  (4, .iload_n 1, [1], .null),
  (5, .invokevirtual 100, [2, 440, 2, 6, 316, 1], .null),
  (8, .ifCond .eq 22, [30], .null),
  (11, .iload_n 2, [2], .null),
  (12, .iconst 0, [], .int 0),
  (13, .bipush 60, [], .int 60),
  (15, .invokestatic 150, [0, 281, 3, 93], .null),
  (18, .ifCond .eq 12, [30], .null),
  (21, .iload_n 3, [3], .null),
  (22, .iconst 0, [], .int 0),
  (23, .iconst 1, [], .int 1),
  (24, .invokestatic 150, [0, 281, 3, 93], .null),
  (27, .ifCond .ne 5, [32], .null),
  (30, .iconst (-1), [], .int (-1)),
  (31, .ireturn, [], .null),
  (32, .iconst 0, [], .int 0),
  (33, .istore 4, [4], .null),
  (35, .aload_n 0, [0], .null),
  (36, .iload_n 1, [1], .null),
  (37, .iconst 0, [], .int 0),
  (38, .iload_n 2, [2], .null),
  (39, .invokevirtual 173, [2, 514, 4, 104, 6, 10], .null),
  (42, .istore 5, [5], .null),
  (44, .iconst 1, [], .int 1),
  (45, .istore 6, [6], .null),
  (47, .iload 6, [6], .null),
  (49, .iconst 5, [], .int 5),
  (50, .if_icmp .gt 49, [99], .null),
  (53, .iload 6, [6], .null),
  (55, .iconst 5, [], .int 5),
  (56, .if_icmp .ge 8, [64], .null),
  (59, .iload 6, [6], .null),
  (61, .goto 5, [66], .null),
  (64, .bipush 9, [], .int 9),
  (66, .istore 7, [7], .null),
  (68, .aload_n 0, [0], .null),
  (69, .iload_n 1, [1], .null),
  (70, .iload 7, [7], .null),
  (72, .iload_n 2, [2], .null),
  (73, .invokevirtual 173, [2, 514, 4, 104, 6, 10], .null),
  (76, .istore 8, [8], .null),
  (78, .iload 8, [8], .null),
  (80, .iload 5, [5], .null),
  (82, .if_icmp .ge 11, [93], .null),
  (85, .iload 8, [8], .null),
  (87, .istore 5, [5], .null),
  (89, .iload 7, [7], .null),
  (91, .istore 4, [4], .null),
  (93, .iinc 6 1, [6], .int 1),
  (96, .goto (-49), [47], .null),
  (99, .iload_n 3, [3], .null),
  (100, .ifCond .ne 8, [108], .null),
  (103, .iload 4, [4], .null),
  (105, .goto 5, [110], .null),
  (108, .iload 5, [5], .null),
  (110, .ireturn, [], .null)]
def mm_c_X10_match : List mm_En := [
  (0, .iload_n 1, [1], .null),
  (1, .iconst (-1), [], .int (-1)),
  (2, .if_icmp .eq 16, [18], .null),
  (5, .aload_n 0, [0], .null),
  (6, .getfield 42, [226, 10, 1, 0], .null),
  (9, .iload_n 1, [1], .null),
  (10, .invokevirtual 100, [2, 440, 2, 6, 316, 1], .null),
  (13, .ifCond .ne 5, [18], .null),
  (16, .iconst (-1), [], .int (-1)),
  (17, .ireturn, [], .null),
  (18, .aload_n 0, [0], .null),
  (19, .invokevirtual 177, [2, 522, 1, 115, 7, 10], .null),
  (22, .aload_n 0, [0], .null),
  (23, .getfield 42, [226, 10, 1, 0], .null),
  (26, .getfield 170, [150, 1, 7, 1], .null),
  (29, .istore_n 2, [2], .null),
  (30, .iload_n 1, [1], .null),
  (31, .iconst (-1), [], .int (-1)),
  (32, .if_icmp .ne 10, [42], .null),
  (35, .aload_n 0, [0], .null),
  (36, .iconst 0, [], .int 0),
  (37, .iload_n 2, [2], .null),
  (38, .invokevirtual 180, [2, 527, 3, 114, 8, 10], .null),
  (41, .ireturn, [], .null),
  (42, .bipush 9, [], .int 9),
  (44, .istore_n 3, [3], .null),
  (45, .iconst 0, [], .int 0),
  (46, .istore 4, [4], .null),
  (48, .iload 4, [4], .null),
  (50, .iload_n 1, [1], .null),
  (51, .if_icmp .gt 30, [81], .null),
  (54, .aload_n 0, [0], .null),
  (55, .iload 4, [4], .null),
  (57, .iload_n 2, [2], .null),
  (58, .invokevirtual 183, [2, 535, 3, 116, 9, 10], .null),
  (61, .istore_n 3, [3], .null),
  (62, .iload_n 3, [3], .null),
  (63, .invokestatic 121, [0, 307, 1, 94], .null),
  (66, .ifCond .eq 9, [75], .null),
  (69, .iload_n 2, [2], .null),
  (70, .iconst 1, [], .int 1),
  (71, .iload_n 3, [3], .null),
  (72, .ishl, [], .null),
  (73, .ior, [], .null),
  (74, .istore_n 2, [2], .null),
  (75, .iinc 4 1, [4], .int 1),
  (78, .goto (-30), [48], .null),
  (81, .iload_n 3, [3], .null),
  (82, .invokestatic 121, [0, 307, 1, 94], .null),
  (85, .ifCond .eq 7, [92], .null),
  (88, .iload_n 3, [3], .null),
  (89, .goto 5, [94], .null),
  (92, .bipush (-4), [], .int (-4)),
  (94, .ireturn, [], .null)]
def mm_c_X10_milk : List mm_En := [
  (0, .iload_n 1, [1], .null),
  (1, .iconst 0, [], .int 0),
  (2, .bipush 30, [], .int 30),
  (4, .invokestatic 150, [0, 281, 3, 93], .null),
  (7, .ifCond .ne 5, [12], .null),
  (10, .iconst (-1), [], .int (-1)),
  (11, .ireturn, [], .null),
  (12, .aload_n 0, [0], .null),
  (13, .iload_n 1, [1], .null),
  (14, .invokevirtual 167, [2, 490, 2, 103, 5, 10], .null),
  (17, .aload_n 0, [0], .null),
  (18, .getfield 49, [228, 10, 3, 0], .null),
  (21, .invokevirtual 163, [2, 482, 1, 18, 484, 1], .null),
  (24, .istore_n 2, [2], .null),
  (25, .bipush (-4), [], .int (-4)),
  (27, .istore_n 3, [3], .null),
  (28, .iconst 0, [], .int 0),
  (29, .istore 4, [4], .null),
  (31, .iload 4, [4], .null),
  (33, .aload_n 0, [0], .null),
  (34, .getfield 42, [226, 10, 1, 0], .null),
  (37, .getfield 147, [148, 1, 6, 1], .null),
  (40, .if_icmp .ge 30, [70], .null),
  (43, .aload_n 0, [0], .null),
  (44, .iload 4, [4], .null),
  (46, .iload_n 1, [1], .null),
  (47, .invokevirtual 186, [2, 543, 3, 105, 10, 10], .null),
  (50, .istore 5, [5], .null),
  (52, .iload 5, [5], .null),
  (54, .iload_n 2, [2], .null),
  (55, .if_icmp .ge 9, [64], .null),
  (58, .iload 5, [5], .null),
  (60, .istore_n 2, [2], .null),
  (61, .iload 4, [4], .null),
  (63, .istore_n 3, [3], .null),
  (64, .iinc 4 1, [4], .int 1),
  (67, .goto (-36), [31], .null),
  (70, .iload_n 3, [3], .null),
  (71, .ireturn, [], .null)]
def mm_c_X10_fewest : List mm_En := [
  (0, .iload_n 1, [1], .null),
  (1, .iconst 0, [], .int 0),
  (2, .bipush 30, [], .int 30),
  (4, .invokestatic 150, [0, 281, 3, 93], .null),
  (7, .ifCond .ne 5, [12], .null),
  (10, .iconst (-1), [], .int (-1)),
  (11, .ireturn, [], .null),
  (12, .aload_n 0, [0], .null),
  (13, .iload_n 1, [1], .null),
  (14, .invokevirtual 167, [2, 490, 2, 103, 5, 10], .null),
  (17, .aload_n 0, [0], .null),
  (18, .getfield 49, [228, 10, 3, 0], .null),
  (21, .invokevirtual 163, [2, 482, 1, 18, 484, 1], .null),
  (24, .istore_n 2, [2], .null),
  (25, .iconst 0, [], .int 0),
  (26, .istore_n 3, [3], .null),
  (27, .iload_n 3, [3], .null),
  (28, .iconst 5, [], .int 5),
  (29, .if_icmp .ge 48, [77], .null),
  (32, .iconst 0, [], .int 0),
  (33, .istore 4, [4], .null),
  (35, .iload 4, [4], .null),
  (37, .bipush 32, [], .int 32),
  (39, .if_icmp .ge 32, [71], .null),
  (42, .iload 4, [4], .null),
  (44, .invokestatic 189, [0, 551, 1, 207], .null),
  (47, .iload_n 3, [3], .null),
  (48, .if_icmp .ne 17, [65], .null),
  (51, .aload_n 0, [0], .null),
  (52, .iload 4, [4], .null),
  (54, .iload_n 1, [1], .null),
  (55, .invokevirtual 194, [2, 557, 3, 107, 11, 10], .null),
  (58, .iload_n 2, [2], .null),
  (59, .if_icmp .gt 6, [65], .null),
  (62, .iload 4, [4], .null),
  (64, .ireturn, [], .null),
  (65, .iinc 4 1, [4], .int 1),
  (68, .goto (-33), [35], .null),
  (71, .iinc 3 1, [3], .int 1),
  (74, .goto (-47), [27], .null),
  (77, .bipush 31, [], .int 31),
  (79, .ireturn, [], .null)]
def mm_c_X10_store : List mm_En := [
  (0, .iload_n 1, [1], .null),
  (1, .iconst 0, [], .int 0),
  (2, .bipush 60, [], .int 60),
  (4, .invokestatic 150, [0, 281, 3, 93], .null),
  (7, .ifCond .ne 5, [12], .null),
  (10, .iconst (-1), [], .int (-1)),
  (11, .ireturn, [], .null),
  (12, .iconst 0, [], .int 0),
  (13, .istore_n 2, [2], .null),
  (14, .iconst 1, [], .int 1),
  (15, .istore_n 3, [3], .null),
  (16, .iload_n 3, [3], .null),
  (17, .iload_n 1, [1], .null),
  (18, .if_icmp .gt 28, [46], .null),
  (21, .iload_n 2, [2], .null),
  (22, .aload_n 0, [0], .null),
  (23, .getfield 42, [226, 10, 1, 0], .null),
  (26, .aload_n 0, [0], .null),
  (27, .getfield 42, [226, 10, 1, 0], .null),
  (30, .getfield 115, [154, 1, 9, 1], .null),
  (33, .iload_n 3, [3], .null),
  (34, .iadd, [], .null),
  (35, .invokevirtual 197, [2, 565, 2, 10, 567, 1], .null),
  (38, .iadd, [], .null),
  (39, .istore_n 2, [2], .null),
  (40, .iinc 3 1, [3], .int 1),
  (43, .goto (-27), [16], .null),
  (46, .iload_n 2, [2], .null),
  (47, .iconst 1, [], .int 1),
  (48, .iadd, [], .null),
  (49, .sipush 999, [], .int 999),
  (52, .if_icmp .gt 9, [61], .null),
  (55, .iload_n 2, [2], .null),
  (56, .iconst 1, [], .int 1),
  (57, .iadd, [], .null),
  (58, .goto 5, [63], .null),
  (61, .bipush (-4), [], .int (-4)),
  (63, .ireturn, [], .null)]
def mm_c_X10_heaviest : List mm_En := [
  (0, .iload_n 1, [1], .null),
  (1, .tableswitch 70 0 3 #[31, 39, 54, 62], [31, 0, 71, 32, 40, 55, 63], .null),
  (32, .aload_n 0, [0], .null),
  (33, .getfield 42, [226, 10, 1, 0], .null),
  (36, .invokevirtual 200, [2, 574, 1, 21, 576, 1], .null),
  (39, .ireturn, [], .null),
  (40, .aload_n 0, [0], .null),
  (41, .getfield 42, [226, 10, 1, 0], .null),
  (44, .aload_n 0, [0], .null),
  (45, .getfield 42, [226, 10, 1, 0], .null),
  (48, .invokevirtual 200, [2, 574, 1, 21, 576, 1], .null),
  (51, .invokevirtual 130, [2, 450, 2, 20, 452, 1], .null),
  (54, .ireturn, [], .null),
  (55, .aload_n 0, [0], .null),
  (56, .getfield 42, [226, 10, 1, 0], .null),
  (59, .invokevirtual 203, [2, 579, 1, 22, 581, 1], .null),
  (62, .ireturn, [], .null),
  (63, .aload_n 0, [0], .null),
  (64, .getfield 42, [226, 10, 1, 0], .null),
  (67, .invokevirtual 206, [2, 583, 1, 23, 585, 1], .null),
  (70, .ireturn, [], .null),
  (71, .iconst (-1), [], .int (-1)),
  (72, .ireturn, [], .null)]
def mm_c_X10_rest : List mm_En := [
  (0, .iload_n 1, [1], .null),
  (1, .iconst 1, [], .int 1),
  (2, .bipush 30, [], .int 30),
  (4, .invokestatic 150, [0, 281, 3, 93], .null),
  (7, .ifCond .eq 12, [19], .null),
  (10, .iload_n 2, [2], .null),
  (11, .iconst 0, [], .int 0),
  (12, .iconst 1, [], .int 1),
  (13, .invokestatic 150, [0, 281, 3, 93], .null),
  (16, .ifCond .ne 5, [21], .null),
  (19, .iconst (-1), [], .int (-1)),
  (20, .ireturn, [], .null),
  (21, .iconst 0, [], .int 0),
  (22, .istore_n 3, [3], .null),
  (23, .aload_n 0, [0], .null),
  (24, .iconst 0, [], .int 0),
  (25, .iload_n 1, [1], .null),
  (26, .invokevirtual 209, [2, 591, 3, 106, 12, 10], .null),
  (29, .istore 4, [4], .null),
  (31, .iconst 1, [], .int 1),
  (32, .istore 5, [5], .null),
  (34, .iload 5, [5], .null),
  (36, .iconst 5, [], .int 5),
  (37, .if_icmp .ge 32, [69], .null),
  (40, .aload_n 0, [0], .null),
  (41, .iload 5, [5], .null),
  (43, .iload_n 1, [1], .null),
  (44, .invokevirtual 209, [2, 591, 3, 106, 12, 10], .null),
  (47, .istore 6, [6], .null),
  (49, .iload 6, [6], .null),
  (51, .iload 4, [4], .null),
  (53, .if_icmp .ge 10, [63], .null),
  (56, .iload 6, [6], .null),
  (58, .istore 4, [4], .null),
  (60, .iload 5, [5], .null),
  (62, .istore_n 3, [3], .null),
  (63, .iinc 5 1, [5], .int 1),
  (66, .goto (-32), [34], .null),
  (69, .iload_n 2, [2], .null),
  (70, .ifCond .ne 7, [77], .null),
  (73, .iload_n 3, [3], .null),
  (74, .goto 5, [79], .null),
  (77, .iload 4, [4], .null),
  (79, .ireturn, [], .null)]
def mm_c_X10_whatIs : List mm_En := [
  (0, .iload_n 1, [1], .null),
  (1, .invokestatic 133, [0, 261, 1, 96], .null),
  (4, .ifCond .eq 23, [27], .null),
  (7, .aload_n 0, [0], .null),
  (8, .getfield 42, [226, 10, 1, 0], .null),
  (11, .iload_n 2, [2], .null),
  (12, .invokevirtual 100, [2, 440, 2, 6, 316, 1], .null),
  (15, .ifCond .eq 12, [27], .null),
  (18, .iload_n 3, [3], .null),
  (19, .iconst 0, [], .int 0),
  (20, .iconst 1, [], .int 1),
  (21, .invokestatic 150, [0, 281, 3, 93], .null),
  (24, .ifCond .ne 5, [29], .null),
  (27, .iconst (-1), [], .int (-1)),
  (28, .ireturn, [], .null),
  (29, .aload_n 0, [0], .null),
  (30, .iconst 2, [], .int 2),
  (31, .iload_n 1, [1], .null),
  (32, .invokevirtual 69, [2, 257, 3, 98, 0, 10], .null),
  (35, .istore 4, [4], .null),
  (37, .iload 4, [4], .null),
  (39, .ifCond .eq 6, [45], .null),
  (42, .iload 4, [4], .null),
  (44, .ireturn, [], .null),
  (45, .iconst 0, [], .int 0),
  (46, .istore 5, [5], .null),
  (48, .iload_n 3, [3], .null),
  (49, .ifCond .ne 8, [57], .null),
  (52, .bipush 8, [], .int 8),
  (54, .goto 5, [59], .null),
  (57, .bipush 10, [], .int 10),
  (59, .istore 6, [6], .null),
  (61, .iconst 0, [], .int 0),
  (62, .istore 7, [7], .null),
  (64, .iload 7, [7], .null),
  (66, .iload 6, [6], .null),
  (68, .if_icmp .ge 72, [140], .null),
  (71, .aload_n 0, [0], .null),
  (72, .getfield 49, [228, 10, 3, 0], .null),
  (75, .aload_n 0, [0], .null),
  (76, .getfield 42, [226, 10, 1, 0], .null),
  (79, .invokevirtual 81, [2, 284, 2, 5, 286, 1], .null),
  (82, .iload_n 3, [3], .null),
  (83, .ifCond .ne 17, [100], .null),
  (86, .aload_n 0, [0], .null),
  (87, .getfield 49, [228, 10, 3, 0], .null),
  (90, .getfield 103, [138, 1, 1, 1], .null),
  (93, .iload_n 2, [2], .null),
  (94, .iload 7, [7], .null),
  (96, .iastore, [], .null),
  (97, .goto 14, [111], .null),
  (100, .aload_n 0, [0], .null),
  (101, .getfield 49, [228, 10, 3, 0], .null),
  (104, .getfield 106, [140, 1, 2, 1], .null),
  (107, .iload_n 2, [2], .null),
  (108, .iload 7, [7], .null),
  (110, .iastore, [], .null),
  (111, .aload_n 0, [0], .null),
  (112, .iload_n 2, [2], .null),
  (113, .aload_n 0, [0], .null),
  (114, .getfield 54, [229, 10, 4, 0], .null),
  (117, .iload_n 1, [1], .null),
  (118, .aaload, [], .null),
  (119, .invokevirtual 212, [2, 599, 3, 109, 13, 10], .null),
  (122, .ifCond .eq 12, [134], .null),
  (125, .iload 5, [5], .null),
  (127, .iconst 1, [], .int 1),
  (128, .iload 7, [7], .null),
  (130, .ishl, [], .null),
  (131, .ior, [], .null),
  (132, .istore 5, [5], .null),
  (134, .iinc 7 1, [7], .int 1),
  (137, .goto (-73), [64], .null),
  (140, .iload 5, [5], .null),
  (142, .ireturn, [], .null)]
def mm_c_X10_shed : List mm_En := [
  (0, .iload_n 1, [1], .null),
  (1, .invokestatic 133, [0, 261, 1, 96], .null),
  (4, .ifCond .eq 12, [16], .null),
  (7, .iload_n 2, [2], .null),
  (8, .iconst 0, [], .int 0),
  (9, .iconst 2, [], .int 2),
  (10, .invokestatic 150, [0, 281, 3, 93], .null),
  (13, .ifCond .ne 5, [18], .null),
  (16, .iconst (-1), [], .int (-1)),
  (17, .ireturn, [], .null),
  (18, .aload_n 0, [0], .null),
  (19, .iconst 2, [], .int 2),
  (20, .iload_n 1, [1], .null),
  (21, .invokevirtual 69, [2, 257, 3, 98, 0, 10], .null),
  (24, .istore_n 3, [3], .null),
  (25, .iload_n 3, [3], .null),
  (26, .ifCond .eq 5, [31], .null),
  (29, .iload_n 3, [3], .null),
  (30, .ireturn, [], .null),
  (31, .aload_n 0, [0], .null),
  (32, .invokevirtual 216, [2, 616, 1, 111, 15, 10], .null),
  (35, .iconst 0, [], .int 0),
  (36, .istore 4, [4], .null),
  (38, .bipush (-4), [], .int (-4)),
  (40, .istore 5, [5], .null),
  (42, .bipush (-4), [], .int (-4)),
  (44, .istore 6, [6], .null),
  (46, .iconst 0, [], .int 0),
  (47, .istore 7, [7], .null),
  (49, .iload 7, [7], .null),
  (51, .sipush 200, [], .int 200),
  (54, .if_icmp .gt 47, [101], .null),
  (57, .aload_n 0, [0], .null),
  (58, .iload 7, [7], .null),
  (60, .aload_n 0, [0], .null),
  (61, .getfield 54, [229, 10, 4, 0], .null),
  (64, .iload_n 1, [1], .null),
  (65, .aaload, [], .null),
  (66, .invokevirtual 219, [2, 620, 3, 112, 16, 10], .null),
  (69, .ifCond .eq 26, [95], .null),
  (72, .iinc 4 1, [4], .int 1),
  (75, .iload 5, [5], .null),
  (77, .bipush (-4), [], .int (-4)),
  (79, .if_icmp .ne 8, [87], .null),
  (82, .iload 7, [7], .null),
  (84, .goto 5, [89], .null),
  (87, .iload 5, [5], .null),
  (89, .istore 5, [5], .null),
  (91, .iload 7, [7], .null),
  (93, .istore 6, [6], .null),
  (95, .iinc 7 1, [7], .int 1),
  (98, .goto (-49), [49], .null),
  (101, .iload_n 2, [2], .null),
  (102, .ifCond .ne 6, [108], .null),
  (105, .iload 4, [4], .null),
  (107, .ireturn, [], .null),
  (108, .iload_n 2, [2], .null),
  (109, .iconst 1, [], .int 1),
  (110, .if_icmp .ne 8, [118], .null),
  (113, .iload 5, [5], .null),
  (115, .goto 5, [120], .null),
  (118, .iload 6, [6], .null),
  (120, .ireturn, [], .null)]
def mm_c_X10_two : List mm_En := [
  (0, .aload_n 0, [0], .null),
  (1, .getfield 42, [226, 10, 1, 0], .null),
  (4, .iload_n 1, [1], .null),
  (5, .invokevirtual 100, [2, 440, 2, 6, 316, 1], .null),
  (8, .ifCond .eq 29, [37], .null),
  (11, .aload_n 0, [0], .null),
  (12, .getfield 42, [226, 10, 1, 0], .null),
  (15, .iload_n 2, [2], .null),
  (16, .invokevirtual 100, [2, 440, 2, 6, 316, 1], .null),
  (19, .ifCond .eq 18, [37], .null),
  (22, .iload_n 1, [1], .null),
  (23, .iload_n 2, [2], .null),
  (24, .if_icmp .eq 13, [37], .null),
  (27, .iload_n 3, [3], .null),
  (28, .iconst 1, [], .int 1),
  (29, .bipush 30, [], .int 30),
  (31, .invokestatic 150, [0, 281, 3, 93], .null),
  (34, .ifCond .ne 5, [39], .null),
  (37, .iconst (-1), [], .int (-1)),
  (38, .ireturn, [], .null),
  (39, .iconst 0, [], .int 0),
  (40, .istore 4, [4], .null),
  (42, .iload 4, [4], .null),
  (44, .iconst 4, [], .int 4),
  (45, .if_icmp .ge 118, [163], .null),
  (48, .iload 4, [4], .null),
  (50, .iconst 2, [], .int 2),
  (51, .if_icmp .lt 7, [58], .null),
  (54, .iconst 1, [], .int 1),
  (55, .goto 4, [59], .null),
  (58, .iconst 0, [], .int 0),
  (59, .istore 5, [5], .null),
  (61, .iload 4, [4], .null),
  (63, .iconst 2, [], .int 2),
  (64, .irem, [], .null),
  (65, .iconst 1, [], .int 1),
  (66, .if_icmp .ne 7, [73], .null),
  (69, .iconst 1, [], .int 1),
  (70, .goto 4, [74], .null),
  (73, .iconst 0, [], .int 0),
  (74, .istore 6, [6], .null),
  (76, .aload_n 0, [0], .null),
  (77, .getfield 49, [228, 10, 3, 0], .null),
  (80, .aload_n 0, [0], .null),
  (81, .getfield 42, [226, 10, 1, 0], .null),
  (84, .invokevirtual 81, [2, 284, 2, 5, 286, 1], .null),
  (87, .aload_n 0, [0], .null),
  (88, .getfield 49, [228, 10, 3, 0], .null),
  (91, .iload 5, [5], .null),
  (93, .ifCond .eq 7, [100], .null),
  (96, .iconst 0, [], .int 0),
  (97, .goto 6, [103], .null),
  (100, .iconst 1, [], .int 1),
  (101, .iload_n 1, [1], .null),
  (102, .ishl, [], .null),
  (103, .iload 6, [6], .null),
  (105, .ifCond .eq 7, [112], .null),
  (108, .iconst 0, [], .int 0),
  (109, .goto 6, [115], .null),
  (112, .iconst 1, [], .int 1),
  (113, .iload_n 2, [2], .null),
  (114, .ishl, [], .null),
  (115, .ior, [], .null),
  (116, .putfield 222, [160, 1, 12, 1], .null),
  (119, .aload_n 0, [0], .null),
  (120, .getfield 49, [228, 10, 3, 0], .null),
  (123, .iload_n 3, [3], .null),
  (124, .invokevirtual 159, [2, 481, 2, 11, 329, 1], .null),
  (127, .aload_n 0, [0], .null),
  (128, .getfield 66, [232, 10, 7, 0], .null),
  (131, .iconst 2, [], .int 2),
  (132, .iload 4, [4], .null),
  (134, .imul, [], .null),
  (135, .aload_n 0, [0], .null),
  (136, .iload_n 1, [1], .null),
  (137, .invokevirtual 225, [2, 628, 2, 110, 17, 10], .null),
  (140, .iastore, [], .null),
  (141, .aload_n 0, [0], .null),
  (142, .getfield 66, [232, 10, 7, 0], .null),
  (145, .iconst 2, [], .int 2),
  (146, .iload 4, [4], .null),
  (148, .imul, [], .null),
  (149, .iconst 1, [], .int 1),
  (150, .iadd, [], .null),
  (151, .aload_n 0, [0], .null),
  (152, .iload_n 2, [2], .null),
  (153, .invokevirtual 225, [2, 628, 2, 110, 17, 10], .null),
  (156, .iastore, [], .null),
  (157, .iinc 4 1, [4], .int 1),
  (160, .goto (-118), [42], .null),
  (163, .iconst 0, [], .int 0),
  (164, .istore 4, [4], .null),
  (166, .iload 4, [4], .null),
  (168, .iconst 4, [], .int 4),
  (169, .if_icmp .ge 80, [249], .null),
  (172, .iload 4, [4], .null),
  (174, .iconst 2, [], .int 2),
  (175, .ixor, [], .null),
  (176, .istore 5, [5], .null),
  (178, .iload 4, [4], .null),
  (180, .iconst 1, [], .int 1),
  (181, .ixor, [], .null),
  (182, .istore 6, [6], .null),
  (184, .aload_n 0, [0], .null),
  (185, .getfield 66, [232, 10, 7, 0], .null),
  (188, .iconst 2, [], .int 2),
  (189, .iload 5, [5], .null),
  (191, .imul, [], .null),
  (192, .iaload, [], .null),
  (193, .aload_n 0, [0], .null),
  (194, .getfield 66, [232, 10, 7, 0], .null),
  (197, .iconst 2, [], .int 2),
  (198, .iload 4, [4], .null),
  (200, .imul, [], .null),
  (201, .iaload, [], .null),
  (202, .if_icmp .gt 41, [243], .null),
  (205, .aload_n 0, [0], .null),
  (206, .getfield 66, [232, 10, 7, 0], .null),
  (209, .iconst 2, [], .int 2),
  (210, .iload 6, [6], .null),
  (212, .imul, [], .null),
  (213, .iconst 1, [], .int 1),
  (214, .iadd, [], .null),
  (215, .iaload, [], .null),
  (216, .aload_n 0, [0], .null),
  (217, .getfield 66, [232, 10, 7, 0], .null),
  (220, .iconst 2, [], .int 2),
  (221, .iload 4, [4], .null),
  (223, .imul, [], .null),
  (224, .iconst 1, [], .int 1),
  (225, .iadd, [], .null),
  (226, .iaload, [], .null),
  (227, .if_icmp .gt 16, [243], .null),
  (230, .bipush 10, [], .int 10),
  (232, .iload 4, [4], .null),
  (234, .iconst 2, [], .int 2),
  (235, .idiv, [], .null),
  (236, .imul, [], .null),
  (237, .iload 4, [4], .null),
  (239, .iconst 2, [], .int 2),
  (240, .irem, [], .null),
  (241, .iadd, [], .null),
  (242, .ireturn, [], .null),
  (243, .iinc 4 1, [4], .int 1),
  (246, .goto (-80), [166], .null),
  (249, .bipush (-4), [], .int (-4)),
  (251, .ireturn, [], .null)]
def mm_c_X10_falls : List mm_En := [
  (0, .iload_n 1, [1], .null),
  (1, .iconst 0, [], .int 0),
  (2, .bipush 7, [], .int 7),
  (4, .invokestatic 150, [0, 281, 3, 93], .null),
  (7, .ifCond .eq 34, [41], .null),
  (10, .iload_n 2, [2], .null),
  (11, .iconst 2, [], .int 2),
  (12, .bipush 20, [], .int 20),
  (14, .invokestatic 150, [0, 281, 3, 93], .null),
  (17, .ifCond .eq 24, [41], .null),
  (20, .iload_n 3, [3], .null),
  (21, .iconst 0, [], .int 0),
  (22, .sipush 999, [], .int 999),
  (25, .invokestatic 150, [0, 281, 3, 93], .null),
  (28, .ifCond .eq 13, [41], .null),
  (31, .iload 4, [4], .null),
  (33, .iconst 0, [], .int 0),
  (34, .iconst 1, [], .int 1),
  (35, .invokestatic 150, [0, 281, 3, 93], .null),
  (38, .ifCond .ne 8, [46], .null),
  (41, .iconst (-1), [], .int (-1)),
  (42, .invokestatic 228, [0, 636, 1, 99], .null),
  (45, .lreturn, [], .null),
  (46, .lconst 0, [], .long 0),
  (47, .lstore 5, [5], .null),
  (49, .iconst 0, [], .int 0),
  (50, .istore 7, [7], .null),
  (52, .iload 7, [7], .null),
  (54, .iconst 1, [], .int 1),
  (55, .iload_n 1, [1], .null),
  (56, .ishl, [], .null),
  (57, .if_icmp .ge 39, [96], .null),
  (60, .aload_n 0, [0], .null),
  (61, .iload_n 1, [1], .null),
  (62, .iload 7, [7], .null),
  (64, .invokevirtual 232, [2, 640, 3, 108, 18, 10], .null),
  (67, .iload_n 3, [3], .null),
  (68, .if_icmp .lt 22, [90], .null),
  (71, .lload 5, [5], .null),
  (73, .iload_n 2, [2], .null),
  (74, .iconst 1, [], .int 1),
  (75, .isub, [], .null),
  (76, .i2l, [], .null),
  (77, .iload_n 1, [1], .null),
  (78, .iload 7, [7], .null),
  (80, .invokestatic 189, [0, 551, 1, 207], .null),
  (83, .isub, [], .null),
  (84, .invokestatic 235, [0, 644, 2, 117], .null),
  (87, .ladd, [], .null),
  (88, .lstore 5, [5], .null),
  (90, .iinc 7 1, [7], .int 1),
  (93, .goto (-41), [52], .null),
  (96, .lload 5, [5], .null),
  (98, .iload_n 2, [2], .null),
  (99, .i2l, [], .null),
  (100, .iload_n 1, [1], .null),
  (101, .invokestatic 235, [0, 644, 2, 117], .null),
  (104, .iload 4, [4], .null),
  (106, .invokestatic 239, [0, 647, 3, 118], .null),
  (109, .lreturn, [], .null)]
def mm_c_X10_mean : List mm_En := [
  (0, .iload_n 1, [1], .null),
  (1, .iconst 0, [], .int 0),
  (2, .iconst 1, [], .int 1),
  (3, .invokestatic 150, [0, 281, 3, 93], .null),
  (6, .ifCond .ne 8, [14], .null),
  (9, .iconst (-1), [], .int (-1)),
  (10, .invokestatic 228, [0, 636, 1, 99], .null),
  (13, .lreturn, [], .null),
  (14, .aload_n 0, [0], .null),
  (15, .getfield 42, [226, 10, 1, 0], .null),
  (18, .invokevirtual 243, [2, 654, 1, 19, 656, 1], .null),
  (21, .i2l, [], .null),
  (22, .ldc2_w 246, [658], .long 5),
  (25, .iload_n 1, [1], .null),
  (26, .invokestatic 239, [0, 647, 3, 118], .null),
  (29, .lreturn, [], .null)]
def mm_c_X10_forged : List mm_En := [
  (0, .aload_n 0, [0], .null),
  (1, .iconst 2, [], .int 2),
  (2, .iload_n 1, [1], .null),
  (3, .invokevirtual 69, [2, 257, 3, 98, 0, 10], .null),
  (6, .istore_n 2, [2], .null),
  (7, .iload_n 2, [2], .null),
  (8, .ifCond .eq 5, [13], .null),
  (11, .iload_n 2, [2], .null),
  (12, .ireturn, [], .null),
  (13, .aload_n 0, [0], .null),
  (14, .getfield 54, [229, 10, 4, 0], .null),
  (17, .iload_n 1, [1], .null),
  (18, .aaload, [], .null),
  (19, .astore_n 3, [3], .null),
  (20, .iconst 0, [], .int 0),
  (21, .istore 4, [4], .null),
  (23, .iload 4, [4], .null),
  (25, .aload_n 3, [3], .null),
  (26, .getfield 85, [209, 8, 4, 1], .null),
  (29, .if_icmp .ge 43, [72], .null),
  (32, .aload_n 0, [0], .null),
  (33, .getfield 42, [226, 10, 1, 0], .null),
  (36, .iload 4, [4], .null),
  (38, .invokevirtual 100, [2, 440, 2, 6, 316, 1], .null),
  (41, .ifCond .eq 22, [63], .null),
  (44, .aload_n 0, [0], .null),
  (45, .getfield 42, [226, 10, 1, 0], .null),
  (48, .getfield 112, [144, 1, 4, 1], .null),
  (51, .iload 4, [4], .null),
  (53, .iaload, [], .null),
  (54, .aload_n 3, [3], .null),
  (55, .iload 4, [4], .null),
  (57, .invokevirtual 88, [2, 267, 2, 46, 269, 8], .null),
  (60, .if_icmp .eq 6, [66], .null),
  (63, .iload 4, [4], .null),
  (65, .ireturn, [], .null),
  (66, .iinc 4 1, [4], .int 1),
  (69, .goto (-46), [23], .null),
  (72, .bipush (-4), [], .int (-4)),
  (74, .ireturn, [], .null)]
def mm_c_X10_judge : List mm_En := [
  (0, .aload_n 0, [0], .null),
  (1, .iconst 2, [], .int 2),
  (2, .iload_n 1, [1], .null),
  (3, .invokevirtual 69, [2, 257, 3, 98, 0, 10], .null),
  (6, .istore_n 2, [2], .null),
  (7, .iload_n 2, [2], .null),
  (8, .ifCond .eq 5, [13], .null),
  (11, .iload_n 2, [2], .null),
  (12, .ireturn, [], .null),
  (13, .aload_n 0, [0], .null),
  (14, .getfield 54, [229, 10, 4, 0], .null),
  (17, .iload_n 1, [1], .null),
  (18, .aaload, [], .null),
  (19, .astore_n 3, [3], .null),
  (20, .aload_n 0, [0], .null),
  (21, .getfield 49, [228, 10, 3, 0], .null),
  (24, .aload_n 0, [0], .null),
  (25, .getfield 42, [226, 10, 1, 0], .null),
  (28, .invokevirtual 81, [2, 284, 2, 5, 286, 1], .null),
  (31, .iconst 0, [], .int 0),
  (32, .istore 4, [4], .null),
  (34, .iload 4, [4], .null),
  (36, .aload_n 3, [3], .null),
  (37, .getfield 85, [209, 8, 4, 1], .null),
  (40, .if_icmp .ge 36, [76], .null),
  (43, .aload_n 3, [3], .null),
  (44, .iload 4, [4], .null),
  (46, .aload_n 0, [0], .null),
  (47, .getfield 49, [228, 10, 3, 0], .null),
  (50, .getfield 156, [152, 1, 8, 1], .null),
  (53, .invokevirtual 248, [2, 603, 3, 50, 605, 8], .null),
  (56, .ifCond .ne 6, [62], .null),
  (59, .iload 4, [4], .null),
  (61, .ireturn, [], .null),
  (62, .aload_n 0, [0], .null),
  (63, .getfield 49, [228, 10, 3, 0], .null),
  (66, .iconst 1, [], .int 1),
  (67, .invokevirtual 159, [2, 481, 2, 11, 329, 1], .null),
  (70, .iinc 4 1, [4], .int 1),
  (73, .goto (-39), [34], .null),
  (76, .bipush (-4), [], .int (-4)),
  (78, .ireturn, [], .null)]
def mm_c_X10_years : List mm_En := [
  (0, .iload_n 1, [1], .null),
  (1, .iconst 1, [], .int 1),
  (2, .bipush 20, [], .int 20),
  (4, .invokestatic 150, [0, 281, 3, 93], .null),
  (7, .ifCond .eq 12, [19], .null),
  (10, .iload_n 3, [3], .null),
  (11, .iconst 0, [], .int 0),
  (12, .iconst 1, [], .int 1),
  (13, .invokestatic 150, [0, 281, 3, 93], .null),
  (16, .ifCond .ne 5, [21], .null),
  (19, .iconst (-1), [], .int (-1)),
  (20, .ireturn, [], .null),
  (21, .iload_n 2, [2], .null),
  (22, .istore 4, [4], .null),
  (24, .iconst 0, [], .int 0),
  (25, .istore 5, [5], .null),
  (27, .iconst 0, [], .int 0),
  (28, .istore 6, [6], .null),
  (30, .iconst 0, [], .int 0),
  (31, .istore 7, [7], .null),
  (33, .iload 7, [7], .null),
  (35, .iload_n 1, [1], .null),
  (36, .if_icmp .ge 100, [136], .null),
  (39, .aload_n 0, [0], .null),
  (40, .getfield 49, [228, 10, 3, 0], .null),
  (43, .aload_n 0, [0], .null),
  (44, .getfield 42, [226, 10, 1, 0], .null),
  (47, .invokevirtual 81, [2, 284, 2, 5, 286, 1], .null),
  (50, .iconst 0, [], .int 0),
  (51, .istore 8, [8], .null),
  (53, .iload 8, [8], .null),
  (55, .aload_n 0, [0], .null),
  (56, .getfield 49, [228, 10, 3, 0], .null),
  (59, .getfield 147, [148, 1, 6, 1], .null),
  (62, .if_icmp .ge 32, [94], .null),
  (65, .iload 4, [4], .null),
  (67, .invokestatic 252, [0, 671, 1, 119], .null),
  (70, .istore 4, [4], .null),
  (72, .aload_n 0, [0], .null),
  (73, .getfield 49, [228, 10, 3, 0], .null),
  (76, .getfield 109, [142, 1, 3, 1], .null),
  (79, .iload 8, [8], .null),
  (81, .iload 4, [4], .null),
  (83, .iconst 5, [], .int 5),
  (84, .invokestatic 255, [0, 675, 2, 120], .null),
  (87, .iastore, [], .null),
  (88, .iinc 8 1, [8], .int 1),
  (91, .goto (-38), [53], .null),
  (94, .aload_n 0, [0], .null),
  (95, .getfield 49, [228, 10, 3, 0], .null),
  (98, .bipush 12, [], .int 12),
  (100, .invokevirtual 159, [2, 481, 2, 11, 329, 1], .null),
  (103, .iload 5, [5], .null),
  (105, .aload_n 0, [0], .null),
  (106, .getfield 49, [228, 10, 3, 0], .null),
  (109, .invokevirtual 163, [2, 482, 1, 18, 484, 1], .null),
  (112, .iadd, [], .null),
  (113, .istore 5, [5], .null),
  (115, .iload 6, [6], .null),
  (117, .aload_n 0, [0], .null),
  (118, .getfield 49, [228, 10, 3, 0], .null),
  (121, .getfield 170, [150, 1, 7, 1], .null),
  (124, .invokestatic 189, [0, 551, 1, 207], .null),
  (127, .iadd, [], .null),
  (128, .istore 6, [6], .null),
  (130, .iinc 7 1, [7], .int 1),
  (133, .goto (-100), [33], .null),
  (136, .iload_n 3, [3], .null),
  (137, .ifCond .ne 8, [145], .null),
  (140, .iload 5, [5], .null),
  (142, .goto 5, [147], .null),
  (145, .iload 6, [6], .null),
  (147, .ireturn, [], .null)]
def mm_c_X10_image : List mm_En := [
  (0, .aload_n 0, [0], .null),
  (1, .getfield 46, [227, 10, 2, 0], .null),
  (4, .aload_n 0, [0], .null),
  (5, .getfield 42, [226, 10, 1, 0], .null),
  (8, .invokevirtual 81, [2, 284, 2, 5, 286, 1], .null),
  (11, .aload_n 0, [0], .null),
  (12, .iconst 1, [], .int 1),
  (13, .putfield 258, [233, 10, 8, 0], .null),
  (16, .aload_n 0, [0], .null),
  (17, .getfield 42, [226, 10, 1, 0], .null),
  (20, .getfield 115, [154, 1, 9, 1], .null),
  (23, .ireturn, [], .null)]
def mm_c_X10_restore : List mm_En := [
  (0, .aload_n 0, [0], .null),
  (1, .getfield 258, [233, 10, 8, 0], .null),
  (4, .ifCond .ne 6, [10], .null),
  (7, .bipush (-3), [], .int (-3)),
  (9, .ireturn, [], .null),
  (10, .aload_n 0, [0], .null),
  (11, .getfield 42, [226, 10, 1, 0], .null),
  (14, .aload_n 0, [0], .null),
  (15, .getfield 46, [227, 10, 2, 0], .null),
  (18, .invokevirtual 81, [2, 284, 2, 5, 286, 1], .null),
  (21, .aload_n 0, [0], .null),
  (22, .getfield 42, [226, 10, 1, 0], .null),
  (25, .getfield 115, [154, 1, 9, 1], .null),
  (28, .ireturn, [], .null)]
def mm_c_X10_count : List mm_En := [
  (0, .iload_n 1, [1], .null),
  (1, .tableswitch 87 0 5 #[39, 47, 55, 63, 71, 79], [39, 0, 88, 40, 48, 56, 64, 72, 80], .null),
  (40, .aload_n 0, [0], .null),
  (41, .getfield 42, [226, 10, 1, 0], .null),
  (44, .getfield 147, [148, 1, 6, 1], .null),
  (47, .ireturn, [], .null),
  (48, .aload_n 0, [0], .null),
  (49, .getfield 42, [226, 10, 1, 0], .null),
  (52, .getfield 115, [154, 1, 9, 1], .null),
  (55, .ireturn, [], .null),
  (56, .aload_n 0, [0], .null),
  (57, .getfield 42, [226, 10, 1, 0], .null),
  (60, .getfield 156, [152, 1, 8, 1], .null),
  (63, .ireturn, [], .null),
  (64, .aload_n 0, [0], .null),
  (65, .getfield 42, [226, 10, 1, 0], .null),
  (68, .invokevirtual 163, [2, 482, 1, 18, 484, 1], .null),
  (71, .ireturn, [], .null),
  (72, .aload_n 0, [0], .null),
  (73, .getfield 42, [226, 10, 1, 0], .null),
  (76, .getfield 170, [150, 1, 7, 1], .null),
  (79, .ireturn, [], .null),
  (80, .aload_n 0, [0], .null),
  (81, .getfield 42, [226, 10, 1, 0], .null),
  (84, .invokevirtual 243, [2, 654, 1, 19, 656, 1], .null),
  (87, .ireturn, [], .null),
  (88, .iconst (-1), [], .int (-1)),
  (89, .ireturn, [], .null)]
def mm_c_X10_keep : List mm_En := [
  (0, .iload_n 1, [1], .null),
  (1, .invokestatic 133, [0, 261, 1, 96], .null),
  (4, .ifCond .ne 5, [9], .null),
  (7, .iconst (-1), [], .int (-1)),
  (8, .ireturn, [], .null),
  (9, .iload_n 2, [2], .null),
  (10, .ifCond .ne 15, [25], .null),
  (13, .aload_n 0, [0], .null),
  (14, .getfield 54, [229, 10, 4, 0], .null),
  (17, .iload_n 1, [1], .null),
  (18, .aaload, [], .null),
  (19, .iconst 0, [], .int 0),
  (20, .putfield 262, [201, 8, 0, 1], .null),
  (23, .iconst 0, [], .int 0),
  (24, .ireturn, [], .null),
  (25, .iload_n 2, [2], .null),
  (26, .iconst 1, [], .int 1),
  (27, .if_icmp .ne 24, [51], .null),
  (30, .iload_n 3, [3], .null),
  (31, .iconst 0, [], .int 0),
  (32, .bipush 7, [], .int 7),
  (34, .invokestatic 150, [0, 281, 3, 93], .null),
  (37, .ifCond .eq 14, [51], .null),
  (40, .iload 4, [4], .null),
  (42, .iconst 0, [], .int 0),
  (43, .bipush 9, [], .int 9),
  (45, .invokestatic 150, [0, 281, 3, 93], .null),
  (48, .ifCond .ne 5, [53], .null),
  (51, .iconst (-1), [], .int (-1)),
  (52, .ireturn, [], .null),
  (53, .aload_n 0, [0], .null),
  (54, .getfield 54, [229, 10, 4, 0], .null),
  (57, .iload_n 1, [1], .null),
  (58, .aaload, [], .null),
  (59, .iconst 1, [], .int 1),
  (60, .putfield 262, [201, 8, 0, 1], .null),
  (63, .aload_n 0, [0], .null),
  (64, .getfield 54, [229, 10, 4, 0], .null),
  (67, .iload_n 1, [1], .null),
  (68, .aaload, [], .null),
  (69, .iload_n 3, [3], .null),
  (70, .putfield 139, [203, 8, 1, 1], .null),
  (73, .aload_n 0, [0], .null),
  (74, .getfield 54, [229, 10, 4, 0], .null),
  (77, .iload_n 1, [1], .null),
  (78, .aaload, [], .null),
  (79, .iload 4, [4], .null),
  (81, .putfield 141, [205, 8, 2, 1], .null),
  (84, .iconst 0, [], .int 0),
  (85, .ireturn, [], .null)]
def mm_c_X10_row : List mm_En := [
  (0, .iload_n 1, [1], .null),
  (1, .invokestatic 133, [0, 261, 1, 96], .null),
  (4, .ifCond .eq 18, [22], .null),
  (7, .iload_n 2, [2], .null),
  (8, .iconst 0, [], .int 0),
  (9, .iconst 2, [], .int 2),
  (10, .invokestatic 150, [0, 281, 3, 93], .null),
  (13, .ifCond .eq 9, [22], .null),
  (16, .iload_n 3, [3], .null),
  (17, .bipush 100, [], .int 100),
  (19, .if_icmp .le 5, [24], .null),
  (22, .iconst (-1), [], .int (-1)),
  (23, .ireturn, [], .null),
  (24, .iload_n 3, [3], .null),
  (25, .ifCond .ge 6, [31], .null),
  (28, .bipush (-14), [], .int (-14)),
  (30, .ireturn, [], .null),
  (31, .aload_n 0, [0], .null),
  (32, .getfield 54, [229, 10, 4, 0], .null),
  (35, .iload_n 1, [1], .null),
  (36, .aaload, [], .null),
  (37, .iload_n 2, [2], .null),
  (38, .iload_n 3, [3], .null),
  (39, .invokevirtual 265, [2, 700, 3, 43, 702, 8], .null),
  (42, .iconst 0, [], .int 0),
  (43, .ireturn, [], .null)]
def mm_c_X10_put : List mm_En := [
  (0, .aload_n 0, [0], .null),
  (1, .iconst 2, [], .int 2),
  (2, .iload_n 1, [1], .null),
  (3, .invokevirtual 69, [2, 257, 3, 98, 0, 10], .null),
  (6, .istore 4, [4], .null),
  (8, .iload 4, [4], .null),
  (10, .ifCond .eq 6, [16], .null),
  (13, .iload 4, [4], .null),
  (15, .ireturn, [], .null),
  (16, .aload_n 0, [0], .null),
  (17, .getfield 54, [229, 10, 4, 0], .null),
  (20, .iload_n 1, [1], .null),
  (21, .aaload, [], .null),
  (22, .iload_n 2, [2], .null),
  (23, .invokevirtual 269, [2, 711, 2, 44, 273, 8], .null),
  (26, .ifCond .ne 6, [32], .null),
  (29, .bipush (-13), [], .int (-13)),
  (31, .ireturn, [], .null),
  (32, .aload_n 0, [0], .null),
  (33, .getfield 54, [229, 10, 4, 0], .null),
  (36, .iload_n 1, [1], .null),
  (37, .aaload, [], .null),
  (38, .iload_n 2, [2], .null),
  (39, .iload_n 3, [3], .null),
  (40, .invokevirtual 272, [2, 712, 3, 47, 714, 8], .null),
  (43, .iconst 0, [], .int 0),
  (44, .ireturn, [], .null)]
def mm_c_X10_copy : List mm_En := [
  (0, .iload_n 1, [1], .null),
  (1, .invokestatic 133, [0, 261, 1, 96], .null),
  (4, .ifCond .eq 10, [14], .null),
  (7, .iload_n 3, [3], .null),
  (8, .invokestatic 133, [0, 261, 1, 96], .null),
  (11, .ifCond .ne 5, [16], .null),
  (14, .iconst (-1), [], .int (-1)),
  (15, .ireturn, [], .null),
  (16, .aload_n 0, [0], .null),
  (17, .getfield 54, [229, 10, 4, 0], .null),
  (20, .iload_n 1, [1], .null),
  (21, .aaload, [], .null),
  (22, .astore 6, [6], .null),
  (24, .aload_n 0, [0], .null),
  (25, .getfield 54, [229, 10, 4, 0], .null),
  (28, .iload_n 3, [3], .null),
  (29, .aaload, [], .null),
  (30, .astore 7, [7], .null),
  (32, .aload 6, [6], .null),
  (34, .getfield 262, [201, 8, 0, 1], .null),
  (37, .ifCond .eq 11, [48], .null),
  (40, .aload 7, [7], .null),
  (42, .getfield 262, [201, 8, 0, 1], .null),
  (45, .ifCond .ne 6, [51], .null),
  (48, .bipush (-11), [], .int (-11)),
  (50, .ireturn, [], .null),
  (51, .aload 6, [6], .null),
  (53, .getfield 262, [201, 8, 0, 1], .null),
  (56, .iconst 2, [], .int 2),
  (57, .if_icmp .ne 25, [82], .null),
  (60, .aload 7, [7], .null),
  (62, .getfield 262, [201, 8, 0, 1], .null),
  (65, .iconst 2, [], .int 2),
  (66, .if_icmp .ne 16, [82], .null),
  (69, .aload 6, [6], .null),
  (71, .getfield 73, [207, 8, 3, 1], .null),
  (74, .aload 7, [7], .null),
  (76, .getfield 73, [207, 8, 3, 1], .null),
  (79, .if_icmp .eq 6, [85], .null),
  (82, .bipush (-12), [], .int (-12)),
  (84, .ireturn, [], .null),
  (85, .aload 6, [6], .null),
  (87, .iload_n 2, [2], .null),
  (88, .iload 5, [5], .null),
  (90, .invokevirtual 287, [2, 720, 3, 45, 722, 8], .null),
  (93, .ifCond .eq 15, [108], .null),
  (96, .aload 7, [7], .null),
  (98, .iload 4, [4], .null),
  (100, .iload 5, [5], .null),
  (102, .invokevirtual 287, [2, 720, 3, 45, 722, 8], .null),
  (105, .ifCond .ne 6, [111], .null),
  (108, .bipush (-13), [], .int (-13)),
  (110, .ireturn, [], .null),
  (111, .aload 6, [6], .null),
  (113, .getfield 290, [211, 8, 5, 1], .null),
  (116, .iload_n 2, [2], .null),
  (117, .aload 7, [7], .null),
  (119, .getfield 290, [211, 8, 5, 1], .null),
  (122, .iload 4, [4], .null),
  (124, .iload 5, [5], .null),
  (126, .invokestatic 293, [92, 724], .null),
  (129, .iload 5, [5], .null),
  (131, .ireturn, [], .null)]
def mm_c_X10_cost : List mm_En := [
  (0, .aload_n 0, [0], .null),
  (1, .iconst 1, [], .int 1),
  (2, .iload_n 1, [1], .null),
  (3, .invokevirtual 69, [2, 257, 3, 98, 0, 10], .null),
  (6, .istore_n 2, [2], .null),
  (7, .iload_n 2, [2], .null),
  (8, .ifCond .eq 5, [13], .null),
  (11, .iload_n 2, [2], .null),
  (12, .ireturn, [], .null),
  (13, .aload_n 0, [0], .null),
  (14, .getfield 31, [225, 10, 0, 0], .null),
  (17, .aload_n 0, [0], .null),
  (18, .getfield 54, [229, 10, 4, 0], .null),
  (21, .iload_n 1, [1], .null),
  (22, .aaload, [], .null),
  (23, .getfield 139, [203, 8, 1, 1], .null),
  (26, .invokestatic 299, [0, 729, 2, 97], .null),
  (29, .aload_n 0, [0], .null),
  (30, .getfield 54, [229, 10, 4, 0], .null),
  (33, .iload_n 1, [1], .null),
  (34, .aaload, [], .null),
  (35, .getfield 141, [205, 8, 2, 1], .null),
  (38, .invokevirtual 303, [4, 730, 2, 3], .null),
  (41, .ireturn, [], .null)]
def mm_c_X10_isBetween : List mm_En := [
  (0, .iload_n 0, [0], .null),
  (1, .iload_n 1, [1], .null),
  (2, .if_icmp .lt 12, [14], .null),
  (5, .iload_n 0, [0], .null),
  (6, .iload_n 2, [2], .null),
  (7, .if_icmp .gt 7, [14], .null),
  (10, .iconst 1, [], .int 1),
  (11, .goto 4, [15], .null),
  (14, .iconst 0, [], .int 0),
  (15, .ireturn, [], .null)]
def mm_c_X10_isWaker : List mm_En := [
  (0, .iload_n 0, [0], .null),
  (1, .ifCond .lt 12, [13], .null),
  (4, .iload_n 0, [0], .null),
  (5, .iconst 5, [], .int 5),
  (6, .if_icmp .ge 7, [13], .null),
  (9, .iconst 1, [], .int 1),
  (10, .goto 4, [14], .null),
  (13, .iconst 0, [], .int 0),
  (14, .ireturn, [], .null)]
def mm_c_X10_isWakerOrNobody : List mm_En := [
  (0, .iload_n 0, [0], .null),
  (1, .invokestatic 121, [0, 307, 1, 94], .null),
  (4, .ifCond .ne 9, [13], .null),
  (7, .iload_n 0, [0], .null),
  (8, .bipush 9, [], .int 9),
  (10, .if_icmp .ne 7, [17], .null),
  (13, .iconst 1, [], .int 1),
  (14, .goto 4, [18], .null),
  (17, .iconst 0, [], .int 0),
  (18, .ireturn, [], .null)]
def mm_c_X10_isShelf : List mm_En := [
  (0, .iload_n 0, [0], .null),
  (1, .ifCond .lt 13, [14], .null),
  (4, .iload_n 0, [0], .null),
  (5, .bipush 8, [], .int 8),
  (7, .if_icmp .ge 7, [14], .null),
  (10, .iconst 1, [], .int 1),
  (11, .goto 4, [15], .null),
  (14, .iconst 0, [], .int 0),
  (15, .ireturn, [], .null)]
def mm_c_X10_kindNumbered : List mm_En := [
  (0, .aload_n 0, [0], .null),
  (1, .iload_n 1, [1], .null),
  (2, .iconst 0, [], .int 0),
  (3, .bipush 7, [], .int 7),
  (5, .invokestatic 150, [0, 281, 3, 93], .null),
  (8, .ifCond .eq 7, [15], .null),
  (11, .iload_n 1, [1], .null),
  (12, .goto 4, [16], .null),
  (15, .iconst 0, [], .int 0),
  (16, .aaload, [], .null),
  (17, .areturn, [], .null)]
def mm_c_X10_refusalUnless : List mm_En := [
  (0, .iload_n 2, [2], .null),
  (1, .invokestatic 133, [0, 261, 1, 96], .null),
  (4, .ifCond .ne 5, [9], .null),
  (7, .iconst (-1), [], .int (-1)),
  (8, .ireturn, [], .null),
  (9, .aload_n 0, [0], .null),
  (10, .getfield 54, [229, 10, 4, 0], .null),
  (13, .iload_n 2, [2], .null),
  (14, .aaload, [], .null),
  (15, .getfield 262, [201, 8, 0, 1], .null),
  (18, .ifCond .ne 6, [24], .null),
  (21, .bipush (-11), [], .int (-11)),
  (23, .ireturn, [], .null),
  (24, .aload_n 0, [0], .null),
  (25, .getfield 54, [229, 10, 4, 0], .null),
  (28, .iload_n 2, [2], .null),
  (29, .aaload, [], .null),
  (30, .getfield 262, [201, 8, 0, 1], .null),
  (33, .iload_n 1, [1], .null),
  (34, .if_icmp .ne 7, [41], .null),
  (37, .iconst 0, [], .int 0),
  (38, .goto 5, [43], .null),
  (41, .bipush (-12), [], .int (-12)),
  (43, .ireturn, [], .null)]
def mm_c_X10_refusedLong : List mm_En := [
  (0, .ldc2_w 312, [639], .long 1000000000),
  (3, .iload_n 0, [0], .null),
  (4, .i2l, [], .null),
  (5, .lsub, [], .null),
  (6, .lreturn, [], .null)]
def mm_c_X10_digitsBehind : List mm_En := [
  (0, .iload_n 0, [0], .null),
  (1, .tableswitch 121 98 122 #[119, 121, 117, 121, 121, 121, 121, 121, 121, 119, 121, 121, 121, 119, 121, 121, 121, 121, 119, 121, 121, 117, 121, 121, 115], [115, 98, 122, 120, 122, 118, 122, 122, 122, 122, 122, 122, 120, 122, 122, 122, 120, 122, 122, 122, 122, 120, 122, 122, 118, 122, 122, 116], .null),
  (116, .iconst 1, [], .int 1),
  (117, .ireturn, [], .null),
  (118, .iconst 2, [], .int 2),
  (119, .ireturn, [], .null),
  (120, .iconst 3, [], .int 3),
  (121, .ireturn, [], .null),
  (122, .iconst 0, [], .int 0),
  (123, .ireturn, [], .null)]
def mm_c_X10_isLetter : List mm_En := [
  (0, .iload_n 0, [0], .null),
  (1, .invokestatic 314, [0, 278, 1, 100], .null),
  (4, .ifCond .le 7, [11], .null),
  (7, .iconst 1, [], .int 1),
  (8, .goto 4, [12], .null),
  (11, .iconst 0, [], .int 0),
  (12, .ireturn, [], .null)]
def mm_c_X10_firstBadByte : List mm_En := [
  (0, .iconst 1, [], .int 1),
  (1, .istore_n 1, [1], .null),
  (2, .iconst 0, [], .int 0),
  (3, .istore_n 2, [2], .null),
  (4, .iconst 0, [], .int 0),
  (5, .istore_n 3, [3], .null),
  (6, .iload_n 3, [3], .null),
  (7, .aload_n 0, [0], .null),
  (8, .getfield 85, [209, 8, 4, 1], .null),
  (11, .if_icmp .ge 76, [87], .null),
  (14, .aload_n 0, [0], .null),
  (15, .iload_n 3, [3], .null),
  (16, .invokevirtual 88, [2, 267, 2, 46, 269, 8], .null),
  (19, .istore 4, [4], .null),
  (21, .iload_n 1, [1], .null),
  (22, .ifCond .eq 24, [46], .null),
  (25, .iload 4, [4], .null),
  (27, .invokestatic 92, [0, 275, 1, 101], .null),
  (30, .ifCond .ne 5, [35], .null),
  (33, .iload_n 3, [3], .null),
  (34, .ireturn, [], .null),
  (35, .iload 4, [4], .null),
  (37, .invokestatic 314, [0, 278, 1, 100], .null),
  (40, .istore_n 2, [2], .null),
  (41, .iconst 0, [], .int 0),
  (42, .istore_n 1, [1], .null),
  (43, .goto 38, [81], .null),
  (46, .iload_n 2, [2], .null),
  (47, .ifCond .le 23, [70], .null),
  (50, .iload 4, [4], .null),
  (52, .bipush 48, [], .int 48),
  (54, .bipush 57, [], .int 57),
  (56, .invokestatic 150, [0, 281, 3, 93], .null),
  (59, .ifCond .ne 5, [64], .null),
  (62, .iload_n 3, [3], .null),
  (63, .ireturn, [], .null),
  (64, .iinc 2 (-1), [2], .int (-1)),
  (67, .goto 14, [81], .null),
  (70, .iload 4, [4], .null),
  (72, .bipush 59, [], .int 59),
  (74, .if_icmp .eq 5, [79], .null),
  (77, .iload_n 3, [3], .null),
  (78, .ireturn, [], .null),
  (79, .iconst 1, [], .int 1),
  (80, .istore_n 1, [1], .null),
  (81, .iinc 3 1, [3], .int 1),
  (84, .goto (-78), [6], .null),
  (87, .iload_n 1, [1], .null),
  (88, .ifCond .eq 14, [102], .null),
  (91, .aload_n 0, [0], .null),
  (92, .getfield 85, [209, 8, 4, 1], .null),
  (95, .ifCond .le 7, [102], .null),
  (98, .iconst (-1), [], .int (-1)),
  (99, .goto 7, [106], .null),
  (102, .aload_n 0, [0], .null),
  (103, .getfield 85, [209, 8, 4, 1], .null),
  (106, .ireturn, [], .null)]
def mm_c_X10_thinkDaysOn : List mm_En := [
  (0, .aload_n 0, [0], .null),
  (1, .getfield 49, [228, 10, 3, 0], .null),
  (4, .aload_n 0, [0], .null),
  (5, .getfield 42, [226, 10, 1, 0], .null),
  (8, .invokevirtual 81, [2, 284, 2, 5, 286, 1], .null),
  (11, .aload_n 0, [0], .null),
  (12, .getfield 49, [228, 10, 3, 0], .null),
  (15, .iload_n 1, [1], .null),
  (16, .invokevirtual 159, [2, 481, 2, 11, 329, 1], .null),
  (19, .return_, [], .null)]
def mm_c_X10_owedBehindWithWaker : List mm_En := [
  (0, .aload_n 0, [0], .null),
  (1, .getfield 49, [228, 10, 3, 0], .null),
  (4, .aload_n 0, [0], .null),
  (5, .getfield 42, [226, 10, 1, 0], .null),
  (8, .invokevirtual 81, [2, 284, 2, 5, 286, 1], .null),
  (11, .aload_n 0, [0], .null),
  (12, .getfield 49, [228, 10, 3, 0], .null),
  (15, .getfield 109, [142, 1, 3, 1], .null),
  (18, .iload_n 1, [1], .null),
  (19, .iload_n 2, [2], .null),
  (20, .iastore, [], .null),
  (21, .aload_n 0, [0], .null),
  (22, .getfield 49, [228, 10, 3, 0], .null),
  (25, .iload_n 3, [3], .null),
  (26, .invokevirtual 159, [2, 481, 2, 11, 329, 1], .null),
  (29, .aload_n 0, [0], .null),
  (30, .getfield 49, [228, 10, 3, 0], .null),
  (33, .invokevirtual 163, [2, 482, 1, 18, 484, 1], .null),
  (36, .ireturn, [], .null)]
def mm_c_X10_owedBehindWithMilk : List mm_En := [
  (0, .aload_n 0, [0], .null),
  (1, .getfield 49, [228, 10, 3, 0], .null),
  (4, .aload_n 0, [0], .null),
  (5, .getfield 42, [226, 10, 1, 0], .null),
  (8, .invokevirtual 81, [2, 284, 2, 5, 286, 1], .null),
  (11, .aload_n 0, [0], .null),
  (12, .getfield 49, [228, 10, 3, 0], .null),
  (15, .iload_n 1, [1], .null),
  (16, .putfield 317, [158, 1, 11, 1], .null),
  (19, .aload_n 0, [0], .null),
  (20, .getfield 49, [228, 10, 3, 0], .null),
  (23, .iload_n 2, [2], .null),
  (24, .invokevirtual 159, [2, 481, 2, 11, 329, 1], .null),
  (27, .aload_n 0, [0], .null),
  (28, .getfield 49, [228, 10, 3, 0], .null),
  (31, .invokevirtual 163, [2, 482, 1, 18, 484, 1], .null),
  (34, .ireturn, [], .null)]
def mm_c_X10_owedBehindWithout : List mm_En := [
  (0, .aload_n 0, [0], .null),
  (1, .getfield 49, [228, 10, 3, 0], .null),
  (4, .aload_n 0, [0], .null),
  (5, .getfield 42, [226, 10, 1, 0], .null),
  (8, .invokevirtual 81, [2, 284, 2, 5, 286, 1], .null),
  (11, .aload_n 0, [0], .null),
  (12, .getfield 49, [228, 10, 3, 0], .null),
  (15, .dup, [], .null),
  (16, .getfield 170, [150, 1, 7, 1], .null),
  (19, .iconst 1, [], .int 1),
  (20, .iload_n 1, [1], .null),
  (21, .ishl, [], .null),
  (22, .ior, [], .null),
  (23, .putfield 170, [150, 1, 7, 1], .null),
  (26, .aload_n 0, [0], .null),
  (27, .getfield 49, [228, 10, 3, 0], .null),
  (30, .iload_n 2, [2], .null),
  (31, .invokevirtual 159, [2, 481, 2, 11, 329, 1], .null),
  (34, .aload_n 0, [0], .null),
  (35, .getfield 49, [228, 10, 3, 0], .null),
  (38, .invokevirtual 163, [2, 482, 1, 18, 484, 1], .null),
  (41, .ireturn, [], .null)]
def mm_c_X10_owedBehindKeeping : List mm_En := [
  (0, .aload_n 0, [0], .null),
  (1, .getfield 49, [228, 10, 3, 0], .null),
  (4, .aload_n 0, [0], .null),
  (5, .getfield 42, [226, 10, 1, 0], .null),
  (8, .invokevirtual 81, [2, 284, 2, 5, 286, 1], .null),
  (11, .aload_n 0, [0], .null),
  (12, .getfield 49, [228, 10, 3, 0], .null),
  (15, .bipush 31, [], .int 31),
  (17, .iload_n 1, [1], .null),
  (18, .iconst (-1), [], .int (-1)),
  (19, .ixor, [], .null),
  (20, .iand, [], .null),
  (21, .putfield 320, [162, 1, 13, 1], .null),
  (24, .aload_n 0, [0], .null),
  (25, .getfield 49, [228, 10, 3, 0], .null),
  (28, .dup, [], .null),
  (29, .getfield 170, [150, 1, 7, 1], .null),
  (32, .aload_n 0, [0], .null),
  (33, .getfield 49, [228, 10, 3, 0], .null),
  (36, .getfield 320, [162, 1, 13, 1], .null),
  (39, .ior, [], .null),
  (40, .putfield 170, [150, 1, 7, 1], .null),
  (43, .aload_n 0, [0], .null),
  (44, .getfield 49, [228, 10, 3, 0], .null),
  (47, .iload_n 2, [2], .null),
  (48, .invokevirtual 159, [2, 481, 2, 11, 329, 1], .null),
  (51, .aload_n 0, [0], .null),
  (52, .getfield 49, [228, 10, 3, 0], .null),
  (55, .invokevirtual 163, [2, 482, 1, 18, 484, 1], .null),
  (58, .ireturn, [], .null)]
def mm_c_X10_owedBehindFalls : List mm_En := [
  (0, .aload_n 0, [0], .null),
  (1, .getfield 49, [228, 10, 3, 0], .null),
  (4, .aload_n 0, [0], .null),
  (5, .getfield 42, [226, 10, 1, 0], .null),
  (8, .invokevirtual 81, [2, 284, 2, 5, 286, 1], .null),
  (11, .iconst 0, [], .int 0),
  (12, .istore_n 3, [3], .null),
  (13, .iload_n 3, [3], .null),
  (14, .iload_n 1, [1], .null),
  (15, .if_icmp .ge 34, [49], .null),
  (18, .iload_n 2, [2], .null),
  (19, .iload_n 3, [3], .null),
  (20, .ishr, [], .null),
  (21, .iconst 1, [], .int 1),
  (22, .iand, [], .null),
  (23, .ifCond .eq 12, [35], .null),
  (26, .aload_n 0, [0], .null),
  (27, .getfield 49, [228, 10, 3, 0], .null),
  (30, .bipush 31, [], .int 31),
  (32, .putfield 170, [150, 1, 7, 1], .null),
  (35, .aload_n 0, [0], .null),
  (36, .getfield 49, [228, 10, 3, 0], .null),
  (39, .iconst 1, [], .int 1),
  (40, .invokevirtual 159, [2, 481, 2, 11, 329, 1], .null),
  (43, .iinc 3 1, [3], .int 1),
  (46, .goto (-33), [13], .null),
  (49, .aload_n 0, [0], .null),
  (50, .getfield 49, [228, 10, 3, 0], .null),
  (53, .invokevirtual 163, [2, 482, 1, 18, 484, 1], .null),
  (56, .ireturn, [], .null)]
def mm_c_X10_mindOwesAsTold : List mm_En := [
  (0, .iconst 0, [], .int 0),
  (1, .istore_n 3, [3], .null),
  (2, .iload_n 3, [3], .null),
  (3, .aload_n 2, [2], .null),
  (4, .getfield 85, [209, 8, 4, 1], .null),
  (7, .if_icmp .ge 36, [43], .null),
  (10, .aload_n 2, [2], .null),
  (11, .iload_n 3, [3], .null),
  (12, .aload_n 0, [0], .null),
  (13, .getfield 49, [228, 10, 3, 0], .null),
  (16, .getfield 112, [144, 1, 4, 1], .null),
  (19, .iload_n 1, [1], .null),
  (20, .iaload, [], .null),
  (21, .invokevirtual 248, [2, 603, 3, 50, 605, 8], .null),
  (24, .ifCond .ne 5, [29], .null),
  (27, .iconst 0, [], .int 0),
  (28, .ireturn, [], .null),
  (29, .aload_n 0, [0], .null),
  (30, .getfield 49, [228, 10, 3, 0], .null),
  (33, .iconst 1, [], .int 1),
  (34, .invokevirtual 159, [2, 481, 2, 11, 329, 1], .null),
  (37, .iinc 3 1, [3], .int 1),
  (40, .goto (-38), [2], .null),
  (43, .iconst 1, [], .int 1),
  (44, .ireturn, [], .null)]
def mm_c_X10_gainInMind : List mm_En := [
  (0, .aload_n 0, [0], .null),
  (1, .getfield 49, [228, 10, 3, 0], .null),
  (4, .getfield 323, [156, 1, 10, 1], .null),
  (7, .iload_n 1, [1], .null),
  (8, .iaload, [], .null),
  (9, .aload_n 0, [0], .null),
  (10, .getfield 49, [228, 10, 3, 0], .null),
  (13, .getfield 112, [144, 1, 4, 1], .null),
  (16, .iload_n 1, [1], .null),
  (17, .iaload, [], .null),
  (18, .aload_n 0, [0], .null),
  (19, .getfield 42, [226, 10, 1, 0], .null),
  (22, .getfield 112, [144, 1, 4, 1], .null),
  (25, .iload_n 1, [1], .null),
  (26, .iaload, [], .null),
  (27, .isub, [], .null),
  (28, .iconst 2, [], .int 2),
  (29, .idiv, [], .null),
  (30, .isub, [], .null),
  (31, .ireturn, [], .null)]
def mm_c_X10_fillDrunkBehind : List mm_En := [
  (0, .iconst 0, [], .int 0),
  (1, .istore_n 1, [1], .null),
  (2, .iconst 0, [], .int 0),
  (3, .istore_n 2, [2], .null),
  (4, .iload_n 2, [2], .null),
  (5, .bipush 100, [], .int 100),
  (7, .if_icmp .ge 37, [44], .null),
  (10, .iload_n 1, [1], .null),
  (11, .aload_n 0, [0], .null),
  (12, .getfield 42, [226, 10, 1, 0], .null),
  (15, .aload_n 0, [0], .null),
  (16, .getfield 42, [226, 10, 1, 0], .null),
  (19, .getfield 115, [154, 1, 9, 1], .null),
  (22, .iload_n 2, [2], .null),
  (23, .iadd, [], .null),
  (24, .iconst 1, [], .int 1),
  (25, .iadd, [], .null),
  (26, .invokevirtual 197, [2, 565, 2, 10, 567, 1], .null),
  (29, .iadd, [], .null),
  (30, .istore_n 1, [1], .null),
  (31, .aload_n 0, [0], .null),
  (32, .getfield 63, [231, 10, 6, 0], .null),
  (35, .iload_n 2, [2], .null),
  (36, .iload_n 1, [1], .null),
  (37, .iastore, [], .null),
  (38, .iinc 2 1, [2], .int 1),
  (41, .goto (-37), [4], .null),
  (44, .return_, [], .null)]
def mm_c_X10_bagsGoAsTold : List mm_En := [
  (0, .iconst 0, [], .int 0),
  (1, .istore_n 3, [3], .null),
  (2, .iload_n 3, [3], .null),
  (3, .aload_n 2, [2], .null),
  (4, .getfield 85, [209, 8, 4, 1], .null),
  (7, .if_icmp .ge 37, [44], .null),
  (10, .iload_n 3, [3], .null),
  (11, .bipush 100, [], .int 100),
  (13, .if_icmp .ge 31, [44], .null),
  (16, .aload_n 2, [2], .null),
  (17, .iload_n 3, [3], .null),
  (18, .iconst 0, [], .int 0),
  (19, .iload_n 1, [1], .null),
  (20, .aload_n 0, [0], .null),
  (21, .getfield 63, [231, 10, 6, 0], .null),
  (24, .iload_n 3, [3], .null),
  (25, .iaload, [], .null),
  (26, .isub, [], .null),
  (27, .invokestatic 326, [91, 534], .null),
  (30, .invokevirtual 248, [2, 603, 3, 50, 605, 8], .null),
  (33, .ifCond .ne 5, [38], .null),
  (36, .iconst 0, [], .int 0),
  (37, .ireturn, [], .null),
  (38, .iinc 3 1, [3], .int 1),
  (41, .goto (-39), [2], .null),
  (44, .iconst 1, [], .int 1),
  (45, .ireturn, [], .null)]
def mm_c_X10_matchCell : List mm_En := [
  (0, .iload_n 0, [0], .null),
  (1, .iconst 0, [], .int 0),
  (2, .bipush 7, [], .int 7),
  (4, .invokestatic 150, [0, 281, 3, 93], .null),
  (7, .ifCond .eq 22, [29], .null),
  (10, .iload_n 1, [1], .null),
  (11, .iconst 0, [], .int 0),
  (12, .bipush 31, [], .int 31),
  (14, .invokestatic 150, [0, 281, 3, 93], .null),
  (17, .ifCond .eq 12, [29], .null),
  (20, .iload_n 0, [0], .null),
  (21, .bipush 32, [], .int 32),
  (23, .imul, [], .null),
  (24, .iload_n 1, [1], .null),
  (25, .iadd, [], .null),
  (26, .goto 4, [30], .null),
  (29, .iconst 0, [], .int 0),
  (30, .ireturn, [], .null)]
def mm_c_X10_mostWokenFrom : List mm_En := [
  (0, .aload_n 0, [0], .null),
  (1, .getfield 59, [230, 10, 5, 0], .null),
  (4, .iload_n 1, [1], .null),
  (5, .iload_n 2, [2], .null),
  (6, .invokestatic 331, [0, 531, 2, 113], .null),
  (9, .iaload, [], .null),
  (10, .ireturn, [], .null)]
def mm_c_X10_fillMostWoken : List mm_En := [
  (0, .aload_n 0, [0], .null),
  (1, .getfield 59, [230, 10, 5, 0], .null),
  (4, .iconst 0, [], .int 0),
  (5, .invokestatic 334, [0, 526, 2, 208], .null),
  (8, .aload_n 0, [0], .null),
  (9, .getfield 42, [226, 10, 1, 0], .null),
  (12, .getfield 147, [148, 1, 6, 1], .null),
  (15, .iconst 1, [], .int 1),
  (16, .isub, [], .null),
  (17, .istore_n 1, [1], .null),
  (18, .iload_n 1, [1], .null),
  (19, .ifCond .lt 109, [128], .null),
  (22, .aload_n 0, [0], .null),
  (23, .getfield 42, [226, 10, 1, 0], .null),
  (26, .iload_n 1, [1], .null),
  (27, .aload_n 0, [0], .null),
  (28, .getfield 42, [226, 10, 1, 0], .null),
  (31, .getfield 115, [154, 1, 9, 1], .null),
  (34, .iconst 1, [], .int 1),
  (35, .iadd, [], .null),
  (36, .invokevirtual 118, [2, 441, 3, 9, 443, 1], .null),
  (39, .istore_n 2, [2], .null),
  (40, .iconst 0, [], .int 0),
  (41, .istore_n 3, [3], .null),
  (42, .iload_n 3, [3], .null),
  (43, .bipush 32, [], .int 32),
  (45, .if_icmp .ge 77, [122], .null),
  (48, .aload_n 0, [0], .null),
  (49, .iload_n 1, [1], .null),
  (50, .iconst 1, [], .int 1),
  (51, .iadd, [], .null),
  (52, .iload_n 3, [3], .null),
  (53, .invokevirtual 180, [2, 527, 3, 114, 8, 10], .null),
  (56, .istore 4, [4], .null),
  (58, .iconst 0, [], .int 0),
  (59, .istore 5, [5], .null),
  (61, .iload 5, [5], .null),
  (63, .iconst 5, [], .int 5),
  (64, .if_icmp .ge 40, [104], .null),
  (67, .iload_n 3, [3], .null),
  (68, .iload 5, [5], .null),
  (70, .ishr, [], .null),
  (71, .iconst 1, [], .int 1),
  (72, .iand, [], .null),
  (73, .ifCond .ne 25, [98], .null),
  (76, .iload 4, [4], .null),
  (78, .iload_n 2, [2], .null),
  (79, .aload_n 0, [0], .null),
  (80, .iload_n 1, [1], .null),
  (81, .iconst 1, [], .int 1),
  (82, .iadd, [], .null),
  (83, .iload_n 3, [3], .null),
  (84, .iconst 1, [], .int 1),
  (85, .iload 5, [5], .null),
  (87, .ishl, [], .null),
  (88, .ior, [], .null),
  (89, .invokevirtual 180, [2, 527, 3, 114, 8, 10], .null),
  (92, .iadd, [], .null),
  (93, .invokestatic 326, [91, 534], .null),
  (96, .istore 4, [4], .null),
  (98, .iinc 5 1, [5], .int 1),
  (101, .goto (-40), [61], .null),
  (104, .aload_n 0, [0], .null),
  (105, .getfield 59, [230, 10, 5, 0], .null),
  (108, .iload_n 1, [1], .null),
  (109, .iload_n 3, [3], .null),
  (110, .invokestatic 331, [0, 531, 2, 113], .null),
  (113, .iload 4, [4], .null),
  (115, .iastore, [], .null),
  (116, .iinc 3 1, [3], .int 1),
  (119, .goto (-77), [42], .null),
  (122, .iinc 1 (-1), [1], .int (-1)),
  (125, .goto (-107), [18], .null),
  (128, .return_, [], .null)]
def mm_c_X10_firstMatchOf : List mm_En := [
  (0, .aload_n 0, [0], .null),
  (1, .getfield 42, [226, 10, 1, 0], .null),
  (4, .iload_n 1, [1], .null),
  (5, .aload_n 0, [0], .null),
  (6, .getfield 42, [226, 10, 1, 0], .null),
  (9, .getfield 115, [154, 1, 9, 1], .null),
  (12, .iconst 1, [], .int 1),
  (13, .iadd, [], .null),
  (14, .invokevirtual 118, [2, 441, 3, 9, 443, 1], .null),
  (17, .istore_n 3, [3], .null),
  (18, .aload_n 0, [0], .null),
  (19, .iload_n 1, [1], .null),
  (20, .iload_n 2, [2], .null),
  (21, .invokevirtual 180, [2, 527, 3, 114, 8, 10], .null),
  (24, .istore 4, [4], .null),
  (26, .iconst 0, [], .int 0),
  (27, .istore 5, [5], .null),
  (29, .iload 5, [5], .null),
  (31, .iconst 5, [], .int 5),
  (32, .if_icmp .ge 41, [73], .null),
  (35, .iload_n 2, [2], .null),
  (36, .iload 5, [5], .null),
  (38, .ishr, [], .null),
  (39, .iconst 1, [], .int 1),
  (40, .iand, [], .null),
  (41, .ifCond .ne 26, [67], .null),
  (44, .iload_n 3, [3], .null),
  (45, .aload_n 0, [0], .null),
  (46, .iload_n 1, [1], .null),
  (47, .iconst 1, [], .int 1),
  (48, .iadd, [], .null),
  (49, .iload_n 2, [2], .null),
  (50, .iconst 1, [], .int 1),
  (51, .iload 5, [5], .null),
  (53, .ishl, [], .null),
  (54, .ior, [], .null),
  (55, .invokevirtual 180, [2, 527, 3, 114, 8, 10], .null),
  (58, .iadd, [], .null),
  (59, .iload 4, [4], .null),
  (61, .if_icmp .ne 6, [67], .null),
  (64, .iload 5, [5], .null),
  (66, .ireturn, [], .null),
  (67, .iinc 5 1, [5], .int 1),
  (70, .goto (-41), [29], .null),
  (73, .bipush 9, [], .int 9),
  (75, .ireturn, [], .null)]
def mm_c_X10_power : List mm_En := [
  (0, .lconst 1, [], .long 1),
  (1, .lstore_n 3, [3], .null),
  (2, .iconst 0, [], .int 0),
  (3, .istore 5, [5], .null),
  (5, .iload 5, [5], .null),
  (7, .iload_n 2, [2], .null),
  (8, .if_icmp .ge 13, [21], .null),
  (11, .lload_n 3, [3], .null),
  (12, .lload_n 0, [0], .null),
  (13, .lmul, [], .null),
  (14, .lstore_n 3, [3], .null),
  (15, .iinc 5 1, [5], .int 1),
  (18, .goto (-13), [5], .null),
  (21, .lload_n 3, [3], .null),
  (22, .lreturn, [], .null)]
def mm_c_X10_partOfFraction : List mm_En := [
  (0, .lload_n 0, [0], .null),
  (1, .lstore 5, [5], .null),
  (3, .lload_n 2, [2], .null),
  (4, .lstore 7, [7], .null),
  (6, .iconst 0, [], .int 0),
  (7, .istore 9, [9], .null),
  (9, .iload 9, [9], .null),
  (11, .bipush 100, [], .int 100),
  (13, .if_icmp .ge 31, [44], .null),
  (16, .lload 7, [7], .null),
  (18, .lconst 0, [], .long 0),
  (19, .lcmp, [], .null),
  (20, .ifCond .eq 24, [44], .null),
  (23, .lload 5, [5], .null),
  (25, .lload 7, [7], .null),
  (27, .lrem, [], .null),
  (28, .lstore 10, [10], .null),
  (30, .lload 7, [7], .null),
  (32, .lstore 5, [5], .null),
  (34, .lload 10, [10], .null),
  (36, .lstore 7, [7], .null),
  (38, .iinc 9 1, [9], .int 1),
  (41, .goto (-32), [9], .null),
  (44, .lload 5, [5], .null),
  (46, .lconst 0, [], .long 0),
  (47, .lcmp, [], .null),
  (48, .ifCond .ne 5, [53], .null),
  (51, .lconst 0, [], .long 0),
  (52, .lreturn, [], .null),
  (53, .iload 4, [4], .null),
  (55, .ifCond .ne 10, [65], .null),
  (58, .lload_n 0, [0], .null),
  (59, .lload 5, [5], .null),
  (61, .ldiv, [], .null),
  (62, .goto 7, [69], .null),
  (65, .lload_n 2, [2], .null),
  (66, .lload 5, [5], .null),
  (68, .ldiv, [], .null),
  (69, .lreturn, [], .null)]
def mm_c_X10_nextSeed : List mm_En := [
  (0, .iload_n 0, [0], .null),
  (1, .ldc_w 340, [674], .int 1103515245),
  (4, .imul, [], .null),
  (5, .sipush 12345, [], .int 12345),
  (8, .iadd, [], .null),
  (9, .ireturn, [], .null)]
def mm_c_X10_drawOf : List mm_En := [
  (0, .iload_n 1, [1], .null),
  (1, .ifCond .le 17, [18], .null),
  (4, .iload_n 0, [0], .null),
  (5, .ldc_w 341, [678], .int 2147483647),
  (8, .iand, [], .null),
  (9, .ldc_w 342, [679], .int 65536),
  (12, .idiv, [], .null),
  (13, .iload_n 1, [1], .null),
  (14, .irem, [], .null),
  (15, .goto 4, [19], .null),
  (18, .iconst 0, [], .int 0),
  (19, .ireturn, [], .null)]
def mm_c_X11_isIn : List mm_En := [
  (0, .iload_n 0, [0], .null),
  (1, .iload_n 1, [1], .null),
  (2, .if_icmp .lt 12, [14], .null),
  (5, .iload_n 0, [0], .null),
  (6, .iload_n 2, [2], .null),
  (7, .if_icmp .gt 7, [14], .null),
  (10, .iconst 1, [], .int 1),
  (11, .goto 4, [15], .null),
  (14, .iconst 0, [], .int 0),
  (15, .ireturn, [], .null)]
def mm_c_X11_least : List mm_En := [
  (0, .iload_n 0, [0], .null),
  (1, .iload_n 1, [1], .null),
  (2, .if_icmp .ge 7, [9], .null),
  (5, .iload_n 0, [0], .null),
  (6, .goto 4, [10], .null),
  (9, .iload_n 1, [1], .null),
  (10, .ireturn, [], .null)]
def mm_c_X11_lessBy : List mm_En := [
  (0, .iload_n 0, [0], .null),
  (1, .iload_n 1, [1], .null),
  (2, .if_icmp .ge 7, [9], .null),
  (5, .iconst 0, [], .int 0),
  (6, .goto 6, [12], .null),
  (9, .iload_n 0, [0], .null),
  (10, .iload_n 1, [1], .null),
  (11, .isub, [], .null),
  (12, .ireturn, [], .null)]
def mm_c_X11_copies : List mm_En := [
  (0, .iconst 0, [], .int 0),
  (1, .istore_n 2, [2], .null),
  (2, .iload_n 2, [2], .null),
  (3, .bipush 40, [], .int 40),
  (5, .if_icmp .ge 15, [20], .null),
  (8, .aload_n 1, [1], .null),
  (9, .iload_n 2, [2], .null),
  (10, .aload_n 0, [0], .null),
  (11, .iload_n 2, [2], .null),
  (12, .iaload, [], .null),
  (13, .iastore, [], .null),
  (14, .iinc 2 1, [2], .int 1),
  (17, .goto (-15), [2], .null),
  (20, .return_, [], .null)]
def mm_c_X11_of : List mm_En := [
  (0, .bipush 7, [], .int 7),
  (2, .iconst 4, [], .int 4),
  (3, .iload_n 0, [0], .null),
  (4, .imul, [], .null),
  (5, .iadd, [], .null),
  (6, .iload_n 1, [1], .null),
  (7, .iadd, [], .null),
  (8, .ireturn, [], .null)]
def mm_c_X11_isDrinker : List mm_En := [
  (0, .iload_n 1, [1], .null),
  (1, .iconst 0, [], .int 0),
  (2, .aload_n 0, [0], .null),
  (3, .getfield 9, [896, 11, 0, 0], .null),
  (6, .iconst 0, [], .int 0),
  (7, .iaload, [], .null),
  (8, .iconst 1, [], .int 1),
  (9, .isub, [], .null),
  (10, .invokestatic 49, [0, 965, 3, 121], .null),
  (13, .ireturn, [], .null)]
def mm_c_X11_isWaker : List mm_En := [
  (0, .iload_n 0, [0], .null),
  (1, .iconst 0, [], .int 0),
  (2, .iconst 4, [], .int 4),
  (3, .invokestatic 49, [0, 965, 3, 121], .null),
  (6, .ireturn, [], .null)]
def mm_c_X11_isWakerOrNone : List mm_En := [
  (0, .iload_n 0, [0], .null),
  (1, .invokestatic 53, [0, 990, 1, 127], .null),
  (4, .ifCond .ne 9, [13], .null),
  (7, .iload_n 0, [0], .null),
  (8, .bipush 9, [], .int 9),
  (10, .if_icmp .ne 7, [17], .null),
  (13, .iconst 1, [], .int 1),
  (14, .goto 4, [18], .null),
  (17, .iconst 0, [], .int 0),
  (18, .ireturn, [], .null)]
def mm_c_X11_has : List mm_En := [
  (0, .iload_n 0, [0], .null),
  (1, .iload_n 1, [1], .null),
  (2, .ishr, [], .null),
  (3, .iconst 1, [], .int 1),
  (4, .iand, [], .null),
  (5, .iconst 1, [], .int 1),
  (6, .if_icmp .ne 7, [13], .null),
  (9, .iconst 1, [], .int 1),
  (10, .goto 4, [14], .null),
  (13, .iconst 0, [], .int 0),
  (14, .ireturn, [], .null)]
def mm_c_X11_bits : List mm_En := [
  (0, .iconst 0, [], .int 0),
  (1, .istore_n 1, [1], .null),
  (2, .iconst 0, [], .int 0),
  (3, .istore_n 2, [2], .null),
  (4, .iload_n 2, [2], .null),
  (5, .iconst 5, [], .int 5),
  (6, .if_icmp .ge 17, [23], .null),
  (9, .iload_n 1, [1], .null),
  (10, .iload_n 0, [0], .null),
  (11, .iload_n 2, [2], .null),
  (12, .ishr, [], .null),
  (13, .iconst 1, [], .int 1),
  (14, .iand, [], .null),
  (15, .iadd, [], .null),
  (16, .istore_n 1, [1], .null),
  (17, .iinc 2 1, [2], .int 1),
  (20, .goto (-16), [4], .null),
  (23, .iload_n 1, [1], .null),
  (24, .ireturn, [], .null)]
def mm_c_X11_drinksBy : List mm_En := [
  (0, .iconst 2, [], .int 2),
  (1, .iload_n 2, [2], .null),
  (2, .iconst 2, [], .int 2),
  (3, .irem, [], .null),
  (4, .iadd, [], .null),
  (5, .istore_n 3, [3], .null),
  (6, .iconst 2, [], .int 2),
  (7, .iload_n 1, [1], .null),
  (8, .iconst 2, [], .int 2),
  (9, .idiv, [], .null),
  (10, .iadd, [], .null),
  (11, .istore 4, [4], .null),
  (13, .iload_n 0, [0], .null),
  (14, .tableswitch 75 1 7 #[42, 44, 47, 49, 54, 66, 73], [42, 1, 89, 56, 58, 61, 63, 68, 80, 87], .null),
  (56, .iload_n 3, [3], .null),
  (57, .ireturn, [], .null),
  (58, .iload 4, [4], .null),
  (60, .ireturn, [], .null),
  (61, .iconst 1, [], .int 1),
  (62, .ireturn, [], .null),
  (63, .iconst 2, [], .int 2),
  (64, .iload 4, [4], .null),
  (66, .imul, [], .null),
  (67, .ireturn, [], .null),
  (68, .iload_n 2, [2], .null),
  (69, .iconst 3, [], .int 3),
  (70, .irem, [], .null),
  (71, .ifCond .ne 7, [78], .null),
  (74, .iconst 0, [], .int 0),
  (75, .goto 4, [79], .null),
  (78, .iload_n 3, [3], .null),
  (79, .ireturn, [], .null),
  (80, .iconst 2, [], .int 2),
  (81, .iload 4, [4], .null),
  (83, .imul, [], .null),
  (84, .iconst 1, [], .int 1),
  (85, .isub, [], .null),
  (86, .ireturn, [], .null),
  (87, .iconst 0, [], .int 0),
  (88, .ireturn, [], .null),
  (89, .iconst 2, [], .int 2),
  (90, .ireturn, [], .null)]
def mm_c_X11_tiresBy : List mm_En := [
  (0, .iload_n 0, [0], .null),
  (1, .tableswitch 65 1 7 #[43, 47, 51, 47, 53, 61, 63], [43, 1, 66, 44, 48, 52, 48, 54, 62, 64], .null),
  (44, .iconst 2, [], .int 2),
  (45, .iload_n 2, [2], .null),
  (46, .imul, [], .null),
  (47, .ireturn, [], .null),
  (48, .iconst 4, [], .int 4),
  (49, .iload_n 2, [2], .null),
  (50, .imul, [], .null),
  (51, .ireturn, [], .null),
  (52, .iload_n 2, [2], .null),
  (53, .ireturn, [], .null),
  (54, .iconst 2, [], .int 2),
  (55, .iload_n 2, [2], .null),
  (56, .imul, [], .null),
  (57, .iload_n 1, [1], .null),
  (58, .invokestatic 57, [0, 1021, 2, 123], .null),
  (61, .ireturn, [], .null),
  (62, .iconst 0, [], .int 0),
  (63, .ireturn, [], .null),
  (64, .iconst 5, [], .int 5),
  (65, .ireturn, [], .null),
  (66, .iconst 3, [], .int 3),
  (67, .iload_n 2, [2], .null),
  (68, .imul, [], .null),
  (69, .ireturn, [], .null)]
def mm_c_X11_owesBy : List mm_En := [
  (0, .iload_n 0, [0], .null),
  (1, .tableswitch 59 2 7 #[39, 59, 39, 59, 43, 57], [39, 2, 60, 40, 60, 40, 60, 44, 58], .null),
  (40, .iconst 2, [], .int 2),
  (41, .iload_n 2, [2], .null),
  (42, .imul, [], .null),
  (43, .ireturn, [], .null),
  (44, .iload_n 2, [2], .null),
  (45, .ifCond .le 11, [56], .null),
  (48, .iconst 2, [], .int 2),
  (49, .iload_n 2, [2], .null),
  (50, .imul, [], .null),
  (51, .iload_n 1, [1], .null),
  (52, .iadd, [], .null),
  (53, .goto 4, [57], .null),
  (56, .iconst 0, [], .int 0),
  (57, .ireturn, [], .null),
  (58, .iconst 0, [], .int 0),
  (59, .ireturn, [], .null),
  (60, .iload_n 2, [2], .null),
  (61, .ireturn, [], .null)]
def mm_c_X11_isAwake : List mm_En := [
  (0, .iload_n 1, [1], .null),
  (1, .bipush 9, [], .int 9),
  (3, .if_icmp .eq 17, [20], .null),
  (6, .aload_n 0, [0], .null),
  (7, .iconst 3, [], .int 3),
  (8, .iaload, [], .null),
  (9, .iload_n 1, [1], .null),
  (10, .invokestatic 61, [0, 1018, 2, 129], .null),
  (13, .ifCond .ne 7, [20], .null),
  (16, .iconst 1, [], .int 1),
  (17, .goto 4, [21], .null),
  (20, .iconst 0, [], .int 0),
  (21, .ireturn, [], .null)]
def mm_c_X11_wakesUp : List mm_En := [
  (0, .aload_n 0, [0], .null),
  (1, .iload_n 1, [1], .null),
  (2, .invokestatic 65, [0, 1015, 2, 134], .null),
  (5, .ifCond .eq 4, [9], .null),
  (8, .return_, [], .null),
  (9, .aload_n 0, [0], .null),
  (10, .bipush 35, [], .int 35),
  (12, .iload_n 1, [1], .null),
  (13, .iadd, [], .null),
  (14, .aload_n 0, [0], .null),
  (15, .bipush 35, [], .int 35),
  (17, .iload_n 1, [1], .null),
  (18, .iadd, [], .null),
  (19, .iaload, [], .null),
  (20, .bipush 15, [], .int 15),
  (22, .invokestatic 57, [0, 1021, 2, 123], .null),
  (25, .iastore, [], .null),
  (26, .aload_n 0, [0], .null),
  (27, .bipush 35, [], .int 35),
  (29, .iload_n 1, [1], .null),
  (30, .iadd, [], .null),
  (31, .iaload, [], .null),
  (32, .bipush 20, [], .int 20),
  (34, .if_icmp .ge 25, [59], .null),
  (37, .aload_n 0, [0], .null),
  (38, .bipush 6, [], .int 6),
  (40, .iaload, [], .null),
  (41, .iload_n 1, [1], .null),
  (42, .invokestatic 61, [0, 1018, 2, 129], .null),
  (45, .ifCond .ne 14, [59], .null),
  (48, .aload_n 0, [0], .null),
  (49, .iconst 3, [], .int 3),
  (50, .dup2, [], .null),
  (51, .iaload, [], .null),
  (52, .iconst 1, [], .int 1),
  (53, .iload_n 1, [1], .null),
  (54, .ishl, [], .null),
  (55, .iconst (-1), [], .int (-1)),
  (56, .ixor, [], .null),
  (57, .iand, [], .null),
  (58, .iastore, [], .null),
  (59, .return_, [], .null)]
def mm_c_X11_drinks : List mm_En := [
  (0, .aload_n 1, [1], .null),
  (1, .iload_n 2, [2], .null),
  (2, .iconst 0, [], .int 0),
  (3, .invokestatic 69, [0, 997, 2, 125], .null),
  (6, .iaload, [], .null),
  (7, .istore_n 3, [3], .null),
  (8, .aload_n 1, [1], .null),
  (9, .iload_n 2, [2], .null),
  (10, .iconst 1, [], .int 1),
  (11, .invokestatic 69, [0, 997, 2, 125], .null),
  (14, .iaload, [], .null),
  (15, .istore 4, [4], .null),
  (17, .aload_n 1, [1], .null),
  (18, .iconst 5, [], .int 5),
  (19, .iaload, [], .null),
  (20, .iload_n 2, [2], .null),
  (21, .invokestatic 61, [0, 1018, 2, 129], .null),
  (24, .ifCond .eq 7, [31], .null),
  (27, .iconst 0, [], .int 0),
  (28, .goto 28, [56], .null),
  (31, .iload_n 3, [3], .null),
  (32, .iload 4, [4], .null),
  (34, .aload_n 1, [1], .null),
  (35, .iconst 1, [], .int 1),
  (36, .iaload, [], .null),
  (37, .invokestatic 72, [0, 1028, 3, 131], .null),
  (40, .aload_n 1, [1], .null),
  (41, .iconst 4, [], .int 4),
  (42, .iaload, [], .null),
  (43, .iload_n 2, [2], .null),
  (44, .invokestatic 61, [0, 1018, 2, 129], .null),
  (47, .ifCond .eq 7, [54], .null),
  (50, .iconst 2, [], .int 2),
  (51, .goto 4, [55], .null),
  (54, .iconst 1, [], .int 1),
  (55, .idiv, [], .null),
  (56, .istore 5, [5], .null),
  (58, .iload 5, [5], .null),
  (60, .aload_n 1, [1], .null),
  (61, .iconst 2, [], .int 2),
  (62, .iaload, [], .null),
  (63, .invokestatic 76, [0, 1031, 2, 122], .null),
  (66, .istore 6, [6], .null),
  (68, .aload_n 1, [1], .null),
  (69, .iload_n 2, [2], .null),
  (70, .iconst 2, [], .int 2),
  (71, .invokestatic 69, [0, 997, 2, 125], .null),
  (74, .iaload, [], .null),
  (75, .istore 7, [7], .null),
  (77, .aload_n 1, [1], .null),
  (78, .iconst 2, [], .int 2),
  (79, .dup2, [], .null),
  (80, .iaload, [], .null),
  (81, .iload 6, [6], .null),
  (83, .isub, [], .null),
  (84, .iastore, [], .null),
  (85, .aload_n 0, [0], .null),
  (86, .getfield 22, [900, 11, 4, 0], .null),
  (89, .iload_n 2, [2], .null),
  (90, .dup2, [], .null),
  (91, .iaload, [], .null),
  (92, .iload 6, [6], .null),
  (94, .iadd, [], .null),
  (95, .iastore, [], .null),
  (96, .aload_n 1, [1], .null),
  (97, .iload 7, [7], .null),
  (99, .invokestatic 65, [0, 1015, 2, 134], .null),
  (102, .ifCond .eq 34, [136], .null),
  (105, .aload_n 1, [1], .null),
  (106, .bipush 35, [], .int 35),
  (108, .iload 7, [7], .null),
  (110, .iadd, [], .null),
  (111, .bipush 99, [], .int 99),
  (113, .aload_n 1, [1], .null),
  (114, .bipush 35, [], .int 35),
  (116, .iload 7, [7], .null),
  (118, .iadd, [], .null),
  (119, .iaload, [], .null),
  (120, .iload_n 3, [3], .null),
  (121, .iload 4, [4], .null),
  (123, .iload 6, [6], .null),
  (125, .invokestatic 79, [0, 1034, 3, 132], .null),
  (128, .iadd, [], .null),
  (129, .invokestatic 76, [0, 1031, 2, 122], .null),
  (132, .iastore, [], .null),
  (133, .goto 32, [165], .null),
  (136, .aload_n 1, [1], .null),
  (137, .iload_n 2, [2], .null),
  (138, .iconst 3, [], .int 3),
  (139, .invokestatic 69, [0, 997, 2, 125], .null),
  (142, .sipush 999, [], .int 999),
  (145, .aload_n 1, [1], .null),
  (146, .iload_n 2, [2], .null),
  (147, .iconst 3, [], .int 3),
  (148, .invokestatic 69, [0, 997, 2, 125], .null),
  (151, .iaload, [], .null),
  (152, .iload_n 3, [3], .null),
  (153, .iload 4, [4], .null),
  (155, .iload 6, [6], .null),
  (157, .invokestatic 82, [0, 1037, 3, 133], .null),
  (160, .iadd, [], .null),
  (161, .invokestatic 76, [0, 1031, 2, 122], .null),
  (164, .iastore, [], .null),
  (165, .return_, [], .null)]
def mm_c_X11_liesDown : List mm_En := [
  (0, .aload_n 0, [0], .null),
  (1, .iload_n 1, [1], .null),
  (2, .invokestatic 65, [0, 1015, 2, 134], .null),
  (5, .ifCond .ne 4, [9], .null),
  (8, .return_, [], .null),
  (9, .aload_n 0, [0], .null),
  (10, .bipush 35, [], .int 35),
  (12, .iload_n 1, [1], .null),
  (13, .iadd, [], .null),
  (14, .iaload, [], .null),
  (15, .bipush 60, [], .int 60),
  (17, .if_icmp .lt 15, [32], .null),
  (20, .aload_n 0, [0], .null),
  (21, .iconst 3, [], .int 3),
  (22, .dup2, [], .null),
  (23, .iaload, [], .null),
  (24, .iconst 1, [], .int 1),
  (25, .iload_n 1, [1], .null),
  (26, .ishl, [], .null),
  (27, .ior, [], .null),
  (28, .iastore, [], .null),
  (29, .goto 19, [48], .null),
  (32, .aload_n 0, [0], .null),
  (33, .bipush 35, [], .int 35),
  (35, .iload_n 1, [1], .null),
  (36, .iadd, [], .null),
  (37, .aload_n 0, [0], .null),
  (38, .bipush 35, [], .int 35),
  (40, .iload_n 1, [1], .null),
  (41, .iadd, [], .null),
  (42, .iaload, [], .null),
  (43, .iconst 2, [], .int 2),
  (44, .invokestatic 57, [0, 1021, 2, 123], .null),
  (47, .iastore, [], .null),
  (48, .return_, [], .null)]
def mm_c_X11_day : List mm_En := [
  (0, .aload_n 1, [1], .null),
  (1, .iconst 1, [], .int 1),
  (2, .dup2, [], .null),
  (3, .iaload, [], .null),
  (4, .iconst 1, [], .int 1),
  (5, .iadd, [], .null),
  (6, .iastore, [], .null),
  (7, .iconst 0, [], .int 0),
  (8, .istore_n 2, [2], .null),
  (9, .iload_n 2, [2], .null),
  (10, .iconst 5, [], .int 5),
  (11, .if_icmp .ge 14, [25], .null),
  (14, .aload_n 1, [1], .null),
  (15, .iload_n 2, [2], .null),
  (16, .invokestatic 85, [0, 1012, 2, 135], .null),
  (19, .iinc 2 1, [2], .int 1),
  (22, .goto (-13), [9], .null),
  (25, .iconst 0, [], .int 0),
  (26, .istore_n 2, [2], .null),
  (27, .iload_n 2, [2], .null),
  (28, .aload_n 1, [1], .null),
  (29, .iconst 0, [], .int 0),
  (30, .iaload, [], .null),
  (31, .if_icmp .ge 15, [46], .null),
  (34, .aload_n 0, [0], .null),
  (35, .aload_n 1, [1], .null),
  (36, .iload_n 2, [2], .null),
  (37, .invokevirtual 89, [2, 1024, 3, 136, 29, 11], .null),
  (40, .iinc 2 1, [2], .int 1),
  (43, .goto (-16), [27], .null),
  (46, .iconst 0, [], .int 0),
  (47, .istore_n 2, [2], .null),
  (48, .iload_n 2, [2], .null),
  (49, .iconst 5, [], .int 5),
  (50, .if_icmp .ge 14, [64], .null),
  (53, .aload_n 1, [1], .null),
  (54, .iload_n 2, [2], .null),
  (55, .invokestatic 92, [0, 1040, 2, 137], .null),
  (58, .iinc 2 1, [2], .int 1),
  (61, .goto (-13), [48], .null),
  (64, .return_, [], .null)]
def mm_c_X11_daysOn : List mm_En := [
  (0, .iconst 0, [], .int 0),
  (1, .istore_n 3, [3], .null),
  (2, .iload_n 3, [3], .null),
  (3, .iload_n 2, [2], .null),
  (4, .if_icmp .ge 14, [18], .null),
  (7, .aload_n 0, [0], .null),
  (8, .aload_n 1, [1], .null),
  (9, .invokevirtual 95, [2, 1008, 2, 138, 28, 11], .null),
  (12, .iinc 3 1, [3], .int 1),
  (15, .goto (-13), [2], .null),
  (18, .return_, [], .null)]
def mm_c_X11_allOwed : List mm_En := [
  (0, .iconst 0, [], .int 0),
  (1, .istore_n 1, [1], .null),
  (2, .iconst 0, [], .int 0),
  (3, .istore_n 2, [2], .null),
  (4, .iload_n 2, [2], .null),
  (5, .aload_n 0, [0], .null),
  (6, .iconst 0, [], .int 0),
  (7, .iaload, [], .null),
  (8, .if_icmp .ge 19, [27], .null),
  (11, .iload_n 1, [1], .null),
  (12, .aload_n 0, [0], .null),
  (13, .iload_n 2, [2], .null),
  (14, .iconst 3, [], .int 3),
  (15, .invokestatic 69, [0, 997, 2, 125], .null),
  (18, .iaload, [], .null),
  (19, .iadd, [], .null),
  (20, .istore_n 1, [1], .null),
  (21, .iinc 2 1, [2], .int 1),
  (24, .goto (-20), [4], .null),
  (27, .iload_n 1, [1], .null),
  (28, .ireturn, [], .null)]
def mm_c_X11_allTired : List mm_En := [
  (0, .iconst 0, [], .int 0),
  (1, .istore_n 1, [1], .null),
  (2, .iconst 0, [], .int 0),
  (3, .istore_n 2, [2], .null),
  (4, .iload_n 2, [2], .null),
  (5, .iconst 5, [], .int 5),
  (6, .if_icmp .ge 18, [24], .null),
  (9, .iload_n 1, [1], .null),
  (10, .aload_n 0, [0], .null),
  (11, .bipush 35, [], .int 35),
  (13, .iload_n 2, [2], .null),
  (14, .iadd, [], .null),
  (15, .iaload, [], .null),
  (16, .iadd, [], .null),
  (17, .istore_n 1, [1], .null),
  (18, .iinc 2 1, [2], .int 1),
  (21, .goto (-17), [4], .null),
  (24, .iload_n 1, [1], .null),
  (25, .ireturn, [], .null)]
def mm_c_X11_here : List mm_En := [
  (0, .aload_n 0, [0], .null),
  (1, .getfield 99, [902, 11, 6, 0], .null),
  (4, .aload_n 0, [0], .null),
  (5, .getfield 103, [904, 11, 8, 0], .null),
  (8, .if_icmp .ge 24, [32], .null),
  (11, .aload_n 0, [0], .null),
  (12, .getfield 46, [913, 11, 17, 0], .null),
  (15, .aload_n 0, [0], .null),
  (16, .getfield 106, [903, 11, 7, 0], .null),
  (19, .aload_n 0, [0], .null),
  (20, .getfield 99, [902, 11, 6, 0], .null),
  (23, .iadd, [], .null),
  (24, .iaload, [], .null),
  (25, .sipush 255, [], .int 255),
  (28, .iand, [], .null),
  (29, .goto 4, [33], .null),
  (32, .iconst (-1), [], .int (-1)),
  (33, .ireturn, [], .null)]
def mm_c_X11_readsNumber : List mm_En := [
  (0, .aload_n 0, [0], .null),
  (1, .getfield 25, [905, 11, 9, 0], .null),
  (4, .iload_n 1, [1], .null),
  (5, .iconst 0, [], .int 0),
  (6, .iastore, [], .null),
  (7, .iconst 0, [], .int 0),
  (8, .istore_n 3, [3], .null),
  (9, .iload_n 3, [3], .null),
  (10, .iload_n 2, [2], .null),
  (11, .if_icmp .ge 58, [69], .null),
  (14, .aload_n 0, [0], .null),
  (15, .invokevirtual 109, [2, 972, 1, 142, 22, 11], .null),
  (18, .bipush 48, [], .int 48),
  (20, .bipush 57, [], .int 57),
  (22, .invokestatic 49, [0, 965, 3, 121], .null),
  (25, .ifCond .ne 5, [30], .null),
  (28, .iconst 0, [], .int 0),
  (29, .ireturn, [], .null),
  (30, .aload_n 0, [0], .null),
  (31, .getfield 25, [905, 11, 9, 0], .null),
  (34, .iload_n 1, [1], .null),
  (35, .bipush 10, [], .int 10),
  (37, .aload_n 0, [0], .null),
  (38, .getfield 25, [905, 11, 9, 0], .null),
  (41, .iload_n 1, [1], .null),
  (42, .iaload, [], .null),
  (43, .imul, [], .null),
  (44, .aload_n 0, [0], .null),
  (45, .invokevirtual 109, [2, 972, 1, 142, 22, 11], .null),
  (48, .iadd, [], .null),
  (49, .bipush 48, [], .int 48),
  (51, .isub, [], .null),
  (52, .iastore, [], .null),
  (53, .aload_n 0, [0], .null),
  (54, .dup, [], .null),
  (55, .getfield 99, [902, 11, 6, 0], .null),
  (58, .iconst 1, [], .int 1),
  (59, .iadd, [], .null),
  (60, .putfield 99, [902, 11, 6, 0], .null),
  (63, .iinc 3 1, [3], .int 1),
  (66, .goto (-57), [9], .null),
  (69, .iconst 1, [], .int 1),
  (70, .ireturn, [], .null)]
def mm_c_X11_readsStatement : List mm_En := [
  (0, .aload_n 0, [0], .null),
  (1, .invokevirtual 109, [2, 972, 1, 142, 22, 11], .null),
  (4, .istore_n 1, [1], .null),
  (5, .aload_n 0, [0], .null),
  (6, .dup, [], .null),
  (7, .getfield 99, [902, 11, 6, 0], .null),
  (10, .iconst 1, [], .int 1),
  (11, .iadd, [], .null),
  (12, .putfield 99, [902, 11, 6, 0], .null),
  (15, .iload_n 1, [1], .null),
  (16, .tableswitch 236 98 122 #[216, 236, 226, 236, 236, 236, 236, 236, 236, 116, 236, 236, 236, 179, 236, 236, 236, 236, 179, 236, 236, 152, 236, 236, 206], [116, 98, 252, 232, 252, 242, 252, 252, 252, 252, 252, 252, 132, 252, 252, 252, 195, 252, 252, 252, 252, 195, 252, 252, 168, 252, 252, 222], .null),
  (132, .aload_n 0, [0], .null),
  (133, .iconst 0, [], .int 0),
  (134, .iconst 1, [], .int 1),
  (135, .invokevirtual 113, [2, 976, 3, 143, 23, 11], .null),
  (138, .ifCond .eq 25, [163], .null),
  (141, .aload_n 0, [0], .null),
  (142, .iconst 1, [], .int 1),
  (143, .iconst 1, [], .int 1),
  (144, .invokevirtual 113, [2, 976, 3, 143, 23, 11], .null),
  (147, .ifCond .eq 16, [163], .null),
  (150, .aload_n 0, [0], .null),
  (151, .iconst 2, [], .int 2),
  (152, .iconst 1, [], .int 1),
  (153, .invokevirtual 113, [2, 976, 3, 143, 23, 11], .null),
  (156, .ifCond .eq 7, [163], .null),
  (159, .iconst 1, [], .int 1),
  (160, .goto 4, [164], .null),
  (163, .iconst 0, [], .int 0),
  (164, .istore_n 2, [2], .null),
  (165, .goto 99, [264], .null),
  (168, .aload_n 0, [0], .null),
  (169, .iconst 0, [], .int 0),
  (170, .iconst 1, [], .int 1),
  (171, .invokevirtual 113, [2, 976, 3, 143, 23, 11], .null),
  (174, .ifCond .eq 16, [190], .null),
  (177, .aload_n 0, [0], .null),
  (178, .iconst 1, [], .int 1),
  (179, .iconst 1, [], .int 1),
  (180, .invokevirtual 113, [2, 976, 3, 143, 23, 11], .null),
  (183, .ifCond .eq 7, [190], .null),
  (186, .iconst 1, [], .int 1),
  (187, .goto 4, [191], .null),
  (190, .iconst 0, [], .int 0),
  (191, .istore_n 2, [2], .null),
  (192, .goto 72, [264], .null),
  (195, .aload_n 0, [0], .null),
  (196, .iconst 0, [], .int 0),
  (197, .iconst 1, [], .int 1),
  (198, .invokevirtual 113, [2, 976, 3, 143, 23, 11], .null),
  (201, .ifCond .eq 16, [217], .null),
  (204, .aload_n 0, [0], .null),
  (205, .iconst 1, [], .int 1),
  (206, .iconst 2, [], .int 2),
  (207, .invokevirtual 113, [2, 976, 3, 143, 23, 11], .null),
  (210, .ifCond .eq 7, [217], .null),
  (213, .iconst 1, [], .int 1),
  (214, .goto 4, [218], .null),
  (217, .iconst 0, [], .int 0),
  (218, .istore_n 2, [2], .null),
  (219, .goto 45, [264], .null),
  (222, .aload_n 0, [0], .null),
  (223, .iconst 0, [], .int 0),
  (224, .iconst 1, [], .int 1),
  (225, .invokevirtual 113, [2, 976, 3, 143, 23, 11], .null),
  (228, .istore_n 2, [2], .null),
  (229, .goto 35, [264], .null),
  (232, .aload_n 0, [0], .null),
  (233, .iconst 0, [], .int 0),
  (234, .iconst 3, [], .int 3),
  (235, .invokevirtual 113, [2, 976, 3, 143, 23, 11], .null),
  (238, .istore_n 2, [2], .null),
  (239, .goto 25, [264], .null),
  (242, .aload_n 0, [0], .null),
  (243, .iconst 0, [], .int 0),
  (244, .iconst 2, [], .int 2),
  (245, .invokevirtual 113, [2, 976, 3, 143, 23, 11], .null),
  (248, .istore_n 2, [2], .null),
  (249, .goto 15, [264], .null),
  (252, .aload_n 0, [0], .null),
  (253, .dup, [], .null),
  (254, .getfield 99, [902, 11, 6, 0], .null),
  (257, .iconst 1, [], .int 1),
  (258, .isub, [], .null),
  (259, .putfield 99, [902, 11, 6, 0], .null),
  (262, .iconst 0, [], .int 0),
  (263, .ireturn, [], .null),
  (264, .iload_n 2, [2], .null),
  (265, .ifCond .eq 12, [277], .null),
  (268, .aload_n 0, [0], .null),
  (269, .invokevirtual 109, [2, 972, 1, 142, 22, 11], .null),
  (272, .bipush 59, [], .int 59),
  (274, .if_icmp .eq 5, [279], .null),
  (277, .iconst 0, [], .int 0),
  (278, .ireturn, [], .null),
  (279, .aload_n 0, [0], .null),
  (280, .dup, [], .null),
  (281, .getfield 99, [902, 11, 6, 0], .null),
  (284, .iconst 1, [], .int 1),
  (285, .iadd, [], .null),
  (286, .putfield 99, [902, 11, 6, 0], .null),
  (289, .iconst 1, [], .int 1),
  (290, .ireturn, [], .null)]
def mm_c_X11_adds : List mm_En := [
  (0, .aload_n 0, [0], .null),
  (1, .getfield 9, [896, 11, 0, 0], .null),
  (4, .iconst 0, [], .int 0),
  (5, .iaload, [], .null),
  (6, .istore 4, [4], .null),
  (8, .aload_n 0, [0], .null),
  (9, .getfield 9, [896, 11, 0, 0], .null),
  (12, .iload 4, [4], .null),
  (14, .iconst 0, [], .int 0),
  (15, .invokestatic 69, [0, 997, 2, 125], .null),
  (18, .iload_n 1, [1], .null),
  (19, .iastore, [], .null),
  (20, .aload_n 0, [0], .null),
  (21, .getfield 9, [896, 11, 0, 0], .null),
  (24, .iload 4, [4], .null),
  (26, .iconst 1, [], .int 1),
  (27, .invokestatic 69, [0, 997, 2, 125], .null),
  (30, .iload_n 2, [2], .null),
  (31, .iastore, [], .null),
  (32, .aload_n 0, [0], .null),
  (33, .getfield 9, [896, 11, 0, 0], .null),
  (36, .iload 4, [4], .null),
  (38, .iconst 2, [], .int 2),
  (39, .invokestatic 69, [0, 997, 2, 125], .null),
  (42, .iload_n 3, [3], .null),
  (43, .iastore, [], .null),
  (44, .aload_n 0, [0], .null),
  (45, .getfield 9, [896, 11, 0, 0], .null),
  (48, .iload 4, [4], .null),
  (50, .iconst 3, [], .int 3),
  (51, .invokestatic 69, [0, 997, 2, 125], .null),
  (54, .iconst 0, [], .int 0),
  (55, .iastore, [], .null),
  (56, .aload_n 0, [0], .null),
  (57, .getfield 9, [896, 11, 0, 0], .null),
  (60, .iconst 0, [], .int 0),
  (61, .dup2, [], .null),
  (62, .iaload, [], .null),
  (63, .iconst 1, [], .int 1),
  (64, .iadd, [], .null),
  (65, .iastore, [], .null),
  (66, .return_, [], .null)]
def mm_c_X11_isDone : List mm_En := [
  (0, .aload_n 0, [0], .null),
  (1, .getfield 25, [905, 11, 9, 0], .null),
  (4, .iconst 0, [], .int 0),
  (5, .iaload, [], .null),
  (6, .istore_n 2, [2], .null),
  (7, .aload_n 0, [0], .null),
  (8, .getfield 25, [905, 11, 9, 0], .null),
  (11, .iconst 1, [], .int 1),
  (12, .iaload, [], .null),
  (13, .istore_n 3, [3], .null),
  (14, .iload_n 1, [1], .null),
  (15, .lookupswitch 208 #[(98, 176), (107, 57), (111, 185), (116, 132), (119, 102), (122, 153)], [57, 223, 98, 191, 107, 72, 111, 200, 116, 147, 119, 117, 122, 168], .null),
  (72, .iload_n 2, [2], .null),
  (73, .bipush 8, [], .int 8),
  (75, .if_icmp .ge 26, [101], .null),
  (78, .aload_n 0, [0], .null),
  (79, .getfield 25, [905, 11, 9, 0], .null),
  (82, .iconst 2, [], .int 2),
  (83, .iaload, [], .null),
  (84, .invokestatic 116, [0, 987, 1, 128], .null),
  (87, .ifCond .eq 14, [101], .null),
  (90, .aload_n 0, [0], .null),
  (91, .getfield 9, [896, 11, 0, 0], .null),
  (94, .iconst 0, [], .int 0),
  (95, .iaload, [], .null),
  (96, .bipush 7, [], .int 7),
  (98, .if_icmp .ne 5, [103], .null),
  (101, .iconst 0, [], .int 0),
  (102, .ireturn, [], .null),
  (103, .aload_n 0, [0], .null),
  (104, .iload_n 2, [2], .null),
  (105, .iload_n 3, [3], .null),
  (106, .aload_n 0, [0], .null),
  (107, .getfield 25, [905, 11, 9, 0], .null),
  (110, .iconst 2, [], .int 2),
  (111, .iaload, [], .null),
  (112, .invokevirtual 119, [2, 993, 4, 145, 25, 11], .null),
  (115, .iconst 1, [], .int 1),
  (116, .ireturn, [], .null),
  (117, .aload_n 0, [0], .null),
  (118, .iload_n 2, [2], .null),
  (119, .invokevirtual 123, [2, 1000, 2, 126, 26, 11], .null),
  (122, .ifCond .eq 10, [132], .null),
  (125, .iload_n 3, [3], .null),
  (126, .invokestatic 116, [0, 987, 1, 128], .null),
  (129, .ifCond .ne 5, [134], .null),
  (132, .iconst 0, [], .int 0),
  (133, .ireturn, [], .null),
  (134, .aload_n 0, [0], .null),
  (135, .getfield 9, [896, 11, 0, 0], .null),
  (138, .iload_n 2, [2], .null),
  (139, .iconst 2, [], .int 2),
  (140, .invokestatic 69, [0, 997, 2, 125], .null),
  (143, .iload_n 3, [3], .null),
  (144, .iastore, [], .null),
  (145, .iconst 1, [], .int 1),
  (146, .ireturn, [], .null),
  (147, .iload_n 2, [2], .null),
  (148, .invokestatic 53, [0, 990, 1, 127], .null),
  (151, .ifCond .ne 5, [156], .null),
  (154, .iconst 0, [], .int 0),
  (155, .ireturn, [], .null),
  (156, .aload_n 0, [0], .null),
  (157, .getfield 9, [896, 11, 0, 0], .null),
  (160, .bipush 35, [], .int 35),
  (162, .iload_n 2, [2], .null),
  (163, .iadd, [], .null),
  (164, .iload_n 3, [3], .null),
  (165, .iastore, [], .null),
  (166, .iconst 1, [], .int 1),
  (167, .ireturn, [], .null),
  (168, .iload_n 2, [2], .null),
  (169, .invokestatic 53, [0, 990, 1, 127], .null),
  (172, .ifCond .ne 5, [177], .null),
  (175, .iconst 0, [], .int 0),
  (176, .ireturn, [], .null),
  (177, .aload_n 0, [0], .null),
  (178, .getfield 9, [896, 11, 0, 0], .null),
  (181, .iconst 3, [], .int 3),
  (182, .dup2, [], .null),
  (183, .iaload, [], .null),
  (184, .iconst 1, [], .int 1),
  (185, .iload_n 2, [2], .null),
  (186, .ishl, [], .null),
  (187, .ixor, [], .null),
  (188, .iastore, [], .null),
  (189, .iconst 1, [], .int 1),
  (190, .ireturn, [], .null),
  (191, .aload_n 0, [0], .null),
  (192, .getfield 9, [896, 11, 0, 0], .null),
  (195, .iconst 2, [], .int 2),
  (196, .iload_n 2, [2], .null),
  (197, .iastore, [], .null),
  (198, .iconst 1, [], .int 1),
  (199, .ireturn, [], .null),
  (200, .aload_n 0, [0], .null),
  (201, .iload_n 2, [2], .null),
  (202, .invokevirtual 123, [2, 1000, 2, 126, 26, 11], .null),
  (205, .ifCond .ne 5, [210], .null),
  (208, .iconst 0, [], .int 0),
  (209, .ireturn, [], .null),
  (210, .aload_n 0, [0], .null),
  (211, .getfield 9, [896, 11, 0, 0], .null),
  (214, .iload_n 2, [2], .null),
  (215, .iconst 3, [], .int 3),
  (216, .invokestatic 69, [0, 997, 2, 125], .null),
  (219, .iload_n 3, [3], .null),
  (220, .iastore, [], .null),
  (221, .iconst 1, [], .int 1),
  (222, .ireturn, [], .null),
  (223, .iload_n 2, [2], .null),
  (224, .iconst 1, [], .int 1),
  (225, .bipush 60, [], .int 60),
  (227, .invokestatic 49, [0, 965, 3, 121], .null),
  (230, .ifCond .eq 17, [247], .null),
  (233, .aload_n 0, [0], .null),
  (234, .getfield 9, [896, 11, 0, 0], .null),
  (237, .iconst 1, [], .int 1),
  (238, .iaload, [], .null),
  (239, .iload_n 2, [2], .null),
  (240, .iadd, [], .null),
  (241, .sipush 999, [], .int 999),
  (244, .if_icmp .le 5, [249], .null),
  (247, .iconst 0, [], .int 0),
  (248, .ireturn, [], .null),
  (249, .aload_n 0, [0], .null),
  (250, .aload_n 0, [0], .null),
  (251, .getfield 9, [896, 11, 0, 0], .null),
  (254, .iload_n 2, [2], .null),
  (255, .invokevirtual 126, [2, 1004, 3, 139, 27, 11], .null),
  (258, .iconst 1, [], .int 1),
  (259, .ireturn, [], .null)]
def mm_c_X11_treaty : List mm_En := [
  (0, .aload_n 0, [0], .null),
  (1, .iload_n 1, [1], .null),
  (2, .iconst 0, [], .int 0),
  (3, .invokevirtual 129, [2, 958, 3, 197, 20, 11], .null),
  (6, .istore_n 2, [2], .null),
  (7, .iload_n 2, [2], .null),
  (8, .ifCond .eq 5, [13], .null),
  (11, .iload_n 2, [2], .null),
  (12, .ireturn, [], .null),
  (13, .aload_n 0, [0], .null),
  (14, .bipush 100, [], .int 100),
  (16, .iload_n 1, [1], .null),
  (17, .imul, [], .null),
  (18, .putfield 106, [903, 11, 7, 0], .null),
  (21, .aload_n 0, [0], .null),
  (22, .aload_n 0, [0], .null),
  (23, .getfield 43, [912, 11, 16, 0], .null),
  (26, .iload_n 1, [1], .null),
  (27, .iaload, [], .null),
  (28, .putfield 103, [904, 11, 8, 0], .null),
  (31, .aload_n 0, [0], .null),
  (32, .iconst 0, [], .int 0),
  (33, .putfield 99, [902, 11, 6, 0], .null),
  (36, .iconst 0, [], .int 0),
  (37, .istore_n 3, [3], .null),
  (38, .iconst 0, [], .int 0),
  (39, .istore 4, [4], .null),
  (41, .aload_n 0, [0], .null),
  (42, .invokevirtual 132, [2, 968, 1, 144, 21, 11], .null),
  (45, .ifCond .ne 13, [58], .null),
  (48, .sipush (-1000), [], .int (-1000)),
  (51, .aload_n 0, [0], .null),
  (52, .getfield 99, [902, 11, 6, 0], .null),
  (55, .isub, [], .null),
  (56, .istore 4, [4], .null),
  (58, .iinc 3 1, [3], .int 1),
  (61, .iload 4, [4], .null),
  (63, .ifCond .ne 14, [77], .null),
  (66, .aload_n 0, [0], .null),
  (67, .getfield 99, [902, 11, 6, 0], .null),
  (70, .aload_n 0, [0], .null),
  (71, .getfield 103, [904, 11, 8, 0], .null),
  (74, .if_icmp .lt (-33), [41], .null),
  (77, .aload_n 0, [0], .null),
  (78, .getfield 9, [896, 11, 0, 0], .null),
  (81, .aload_n 0, [0], .null),
  (82, .getfield 19, [899, 11, 3, 0], .null),
  (85, .invokestatic 136, [0, 980, 2, 124], .null),
  (88, .aload_n 0, [0], .null),
  (89, .iconst 0, [], .int 0),
  (90, .putfield 99, [902, 11, 6, 0], .null),
  (93, .iload 4, [4], .null),
  (95, .ifCond .ne 66, [161], .null),
  (98, .aload_n 0, [0], .null),
  (99, .getfield 99, [902, 11, 6, 0], .null),
  (102, .aload_n 0, [0], .null),
  (103, .getfield 103, [904, 11, 8, 0], .null),
  (106, .if_icmp .ge 55, [161], .null),
  (109, .aload_n 0, [0], .null),
  (110, .getfield 99, [902, 11, 6, 0], .null),
  (113, .istore 5, [5], .null),
  (115, .aload_n 0, [0], .null),
  (116, .invokevirtual 109, [2, 972, 1, 142, 22, 11], .null),
  (119, .istore 6, [6], .null),
  (121, .aload_n 0, [0], .null),
  (122, .invokevirtual 132, [2, 968, 1, 144, 21, 11], .null),
  (125, .istore 7, [7], .null),
  (127, .aload_n 0, [0], .null),
  (128, .iload 6, [6], .null),
  (130, .invokevirtual 140, [2, 983, 2, 146, 24, 11], .null),
  (133, .ifCond .eq 6, [139], .null),
  (136, .goto (-43), [93], .null),
  (139, .sipush (-2000), [], .int (-2000)),
  (142, .iload 5, [5], .null),
  (144, .isub, [], .null),
  (145, .istore 4, [4], .null),
  (147, .aload_n 0, [0], .null),
  (148, .getfield 19, [899, 11, 3, 0], .null),
  (151, .aload_n 0, [0], .null),
  (152, .getfield 9, [896, 11, 0, 0], .null),
  (155, .invokestatic 136, [0, 980, 2, 124], .null),
  (158, .goto (-65), [93], .null),
  (161, .iload 4, [4], .null),
  (163, .ifCond .ne 7, [170], .null),
  (166, .iload_n 3, [3], .null),
  (167, .goto 5, [172], .null),
  (170, .iload 4, [4], .null),
  (172, .ireturn, [], .null)]
def mm_c_X11_nextOf : List mm_En := [
  (0, .aload_n 0, [0], .null),
  (1, .getfield 9, [896, 11, 0, 0], .null),
  (4, .iload_n 1, [1], .null),
  (5, .iconst 0, [], .int 0),
  (6, .invokestatic 69, [0, 997, 2, 125], .null),
  (9, .iaload, [], .null),
  (10, .aload_n 0, [0], .null),
  (11, .getfield 9, [896, 11, 0, 0], .null),
  (14, .iload_n 1, [1], .null),
  (15, .iconst 1, [], .int 1),
  (16, .invokestatic 69, [0, 997, 2, 125], .null),
  (19, .iaload, [], .null),
  (20, .aload_n 0, [0], .null),
  (21, .getfield 9, [896, 11, 0, 0], .null),
  (24, .iconst 1, [], .int 1),
  (25, .iaload, [], .null),
  (26, .iconst 1, [], .int 1),
  (27, .iadd, [], .null),
  (28, .invokestatic 72, [0, 1028, 3, 131], .null),
  (31, .ireturn, [], .null)]
def mm_c_X11_drinker : List mm_En := [
  (0, .aload_n 0, [0], .null),
  (1, .iload_n 1, [1], .null),
  (2, .invokevirtual 123, [2, 1000, 2, 126, 26, 11], .null),
  (5, .ifCond .eq 12, [17], .null),
  (8, .iload_n 2, [2], .null),
  (9, .iconst 0, [], .int 0),
  (10, .iconst 4, [], .int 4),
  (11, .invokestatic 49, [0, 965, 3, 121], .null),
  (14, .ifCond .ne 5, [19], .null),
  (17, .iconst (-1), [], .int (-1)),
  (18, .ireturn, [], .null),
  (19, .iload_n 2, [2], .null),
  (20, .iconst 4, [], .int 4),
  (21, .if_icmp .ne 11, [32], .null),
  (24, .aload_n 0, [0], .null),
  (25, .iload_n 1, [1], .null),
  (26, .invokevirtual 143, [2, 1047, 2, 148, 30, 11], .null),
  (29, .goto 13, [42], .null),
  (32, .aload_n 0, [0], .null),
  (33, .getfield 9, [896, 11, 0, 0], .null),
  (36, .iload_n 1, [1], .null),
  (37, .iload_n 2, [2], .null),
  (38, .invokestatic 69, [0, 997, 2, 125], .null),
  (41, .iaload, [], .null),
  (42, .ireturn, [], .null)]
def mm_c_X11_manyOf : List mm_En := [
  (0, .iconst 0, [], .int 0),
  (1, .istore_n 2, [2], .null),
  (2, .iconst 0, [], .int 0),
  (3, .istore_n 3, [3], .null),
  (4, .iload_n 3, [3], .null),
  (5, .aload_n 0, [0], .null),
  (6, .getfield 9, [896, 11, 0, 0], .null),
  (9, .iconst 0, [], .int 0),
  (10, .iaload, [], .null),
  (11, .if_icmp .ge 31, [42], .null),
  (14, .iload_n 2, [2], .null),
  (15, .aload_n 0, [0], .null),
  (16, .getfield 9, [896, 11, 0, 0], .null),
  (19, .iload_n 3, [3], .null),
  (20, .iconst 2, [], .int 2),
  (21, .invokestatic 69, [0, 997, 2, 125], .null),
  (24, .iaload, [], .null),
  (25, .iload_n 1, [1], .null),
  (26, .if_icmp .ne 7, [33], .null),
  (29, .iconst 1, [], .int 1),
  (30, .goto 4, [34], .null),
  (33, .iconst 0, [], .int 0),
  (34, .iadd, [], .null),
  (35, .istore_n 2, [2], .null),
  (36, .iinc 3 1, [3], .int 1),
  (39, .goto (-35), [4], .null),
  (42, .iload_n 2, [2], .null),
  (43, .ireturn, [], .null)]
def mm_c_X11_waker : List mm_En := [
  (0, .iload_n 1, [1], .null),
  (1, .invokestatic 53, [0, 990, 1, 127], .null),
  (4, .ifCond .eq 12, [16], .null),
  (7, .iload_n 2, [2], .null),
  (8, .iconst 0, [], .int 0),
  (9, .iconst 2, [], .int 2),
  (10, .invokestatic 49, [0, 965, 3, 121], .null),
  (13, .ifCond .ne 5, [18], .null),
  (16, .iconst (-1), [], .int (-1)),
  (17, .ireturn, [], .null),
  (18, .iload_n 2, [2], .null),
  (19, .ifCond .ne 15, [34], .null),
  (22, .aload_n 0, [0], .null),
  (23, .getfield 9, [896, 11, 0, 0], .null),
  (26, .bipush 35, [], .int 35),
  (28, .iload_n 1, [1], .null),
  (29, .iadd, [], .null),
  (30, .iaload, [], .null),
  (31, .goto 32, [63], .null),
  (34, .iload_n 2, [2], .null),
  (35, .iconst 2, [], .int 2),
  (36, .if_icmp .ne 11, [47], .null),
  (39, .aload_n 0, [0], .null),
  (40, .iload_n 1, [1], .null),
  (41, .invokevirtual 147, [2, 1055, 2, 150, 31, 11], .null),
  (44, .goto 19, [63], .null),
  (47, .aload_n 0, [0], .null),
  (48, .getfield 9, [896, 11, 0, 0], .null),
  (51, .iload_n 1, [1], .null),
  (52, .invokestatic 65, [0, 1015, 2, 134], .null),
  (55, .ifCond .eq 7, [62], .null),
  (58, .iconst 1, [], .int 1),
  (59, .goto 4, [63], .null),
  (62, .iconst 0, [], .int 0),
  (63, .ireturn, [], .null)]
def mm_c_X11_comes : List mm_En := [
  (0, .iload_n 2, [2], .null),
  (1, .invokestatic 116, [0, 987, 1, 128], .null),
  (4, .ifCond .ne 5, [9], .null),
  (7, .iconst (-1), [], .int (-1)),
  (8, .ireturn, [], .null),
  (9, .aload_n 0, [0], .null),
  (10, .iload_n 1, [1], .null),
  (11, .invokevirtual 150, [2, 1063, 2, 198, 32, 11], .null),
  (14, .istore_n 3, [3], .null),
  (15, .iload_n 3, [3], .null),
  (16, .ifCond .eq 5, [21], .null),
  (19, .iload_n 3, [3], .null),
  (20, .ireturn, [], .null),
  (21, .aload_n 0, [0], .null),
  (22, .getfield 9, [896, 11, 0, 0], .null),
  (25, .iconst 0, [], .int 0),
  (26, .iaload, [], .null),
  (27, .bipush 7, [], .int 7),
  (29, .if_icmp .ne 6, [35], .null),
  (32, .bipush (-2), [], .int (-2)),
  (34, .ireturn, [], .null),
  (35, .aload_n 0, [0], .null),
  (36, .aload_n 0, [0], .null),
  (37, .getfield 34, [909, 11, 13, 0], .null),
  (40, .iload_n 1, [1], .null),
  (41, .iaload, [], .null),
  (42, .aload_n 0, [0], .null),
  (43, .getfield 37, [910, 11, 14, 0], .null),
  (46, .iload_n 1, [1], .null),
  (47, .iaload, [], .null),
  (48, .iload_n 2, [2], .null),
  (49, .invokevirtual 119, [2, 993, 4, 145, 25, 11], .null),
  (52, .aload_n 0, [0], .null),
  (53, .getfield 9, [896, 11, 0, 0], .null),
  (56, .iconst 0, [], .int 0),
  (57, .iaload, [], .null),
  (58, .iconst 1, [], .int 1),
  (59, .isub, [], .null),
  (60, .ireturn, [], .null)]
def mm_c_X11_sets : List mm_En := [
  (0, .aload_n 0, [0], .null),
  (1, .getfield 9, [896, 11, 0, 0], .null),
  (4, .iload_n 1, [1], .null),
  (5, .iaload, [], .null),
  (6, .istore_n 3, [3], .null),
  (7, .aload_n 0, [0], .null),
  (8, .getfield 9, [896, 11, 0, 0], .null),
  (11, .iload_n 1, [1], .null),
  (12, .iload_n 2, [2], .null),
  (13, .iastore, [], .null),
  (14, .iload_n 3, [3], .null),
  (15, .ireturn, [], .null)]
def mm_c_X11_wakes : List mm_En := [
  (0, .aload_n 0, [0], .null),
  (1, .iload_n 1, [1], .null),
  (2, .invokevirtual 123, [2, 1000, 2, 126, 26, 11], .null),
  (5, .ifCond .eq 23, [28], .null),
  (8, .iload_n 2, [2], .null),
  (9, .invokestatic 116, [0, 987, 1, 128], .null),
  (12, .ifCond .eq 16, [28], .null),
  (15, .aload_n 0, [0], .null),
  (16, .iload_n 1, [1], .null),
  (17, .iconst 2, [], .int 2),
  (18, .invokestatic 69, [0, 997, 2, 125], .null),
  (21, .iload_n 2, [2], .null),
  (22, .invokevirtual 153, [2, 1071, 3, 153, 33, 11], .null),
  (25, .goto 4, [29], .null),
  (28, .iconst (-1), [], .int (-1)),
  (29, .ireturn, [], .null)]
def mm_c_X11_tires : List mm_En := [
  (0, .iload_n 1, [1], .null),
  (1, .invokestatic 53, [0, 990, 1, 127], .null),
  (4, .ifCond .eq 25, [29], .null),
  (7, .iload_n 2, [2], .null),
  (8, .iconst 0, [], .int 0),
  (9, .bipush 99, [], .int 99),
  (11, .invokestatic 49, [0, 965, 3, 121], .null),
  (14, .ifCond .eq 15, [29], .null),
  (17, .aload_n 0, [0], .null),
  (18, .bipush 35, [], .int 35),
  (20, .iload_n 1, [1], .null),
  (21, .iadd, [], .null),
  (22, .iload_n 2, [2], .null),
  (23, .invokevirtual 153, [2, 1071, 3, 153, 33, 11], .null),
  (26, .goto 4, [30], .null),
  (29, .iconst (-1), [], .int (-1)),
  (30, .ireturn, [], .null)]
def mm_c_X11_sleeps : List mm_En := [
  (0, .iload_n 1, [1], .null),
  (1, .invokestatic 53, [0, 990, 1, 127], .null),
  (4, .ifCond .ne 5, [9], .null),
  (7, .iconst (-1), [], .int (-1)),
  (8, .ireturn, [], .null),
  (9, .aload_n 0, [0], .null),
  (10, .getfield 9, [896, 11, 0, 0], .null),
  (13, .iconst 3, [], .int 3),
  (14, .dup2, [], .null),
  (15, .iaload, [], .null),
  (16, .iconst 1, [], .int 1),
  (17, .iload_n 1, [1], .null),
  (18, .ishl, [], .null),
  (19, .ixor, [], .null),
  (20, .iastore, [], .null),
  (21, .aload_n 0, [0], .null),
  (22, .getfield 9, [896, 11, 0, 0], .null),
  (25, .iload_n 1, [1], .null),
  (26, .invokestatic 65, [0, 1015, 2, 134], .null),
  (29, .ifCond .eq 7, [36], .null),
  (32, .iconst 1, [], .int 1),
  (33, .goto 4, [37], .null),
  (36, .iconst 0, [], .int 0),
  (37, .ireturn, [], .null)]
def mm_c_X11_bags : List mm_En := [
  (0, .iload_n 1, [1], .null),
  (1, .iconst 0, [], .int 0),
  (2, .sipush 999, [], .int 999),
  (5, .invokestatic 49, [0, 965, 3, 121], .null),
  (8, .ifCond .eq 12, [20], .null),
  (11, .aload_n 0, [0], .null),
  (12, .iconst 2, [], .int 2),
  (13, .iload_n 1, [1], .null),
  (14, .invokevirtual 153, [2, 1071, 3, 153, 33, 11], .null),
  (17, .goto 4, [21], .null),
  (20, .iconst (-1), [], .int (-1)),
  (21, .ireturn, [], .null)]
def mm_c_X11_days : List mm_En := [
  (0, .iload_n 1, [1], .null),
  (1, .iconst 1, [], .int 1),
  (2, .bipush 60, [], .int 60),
  (4, .invokestatic 49, [0, 965, 3, 121], .null),
  (7, .ifCond .ne 5, [12], .null),
  (10, .iconst (-1), [], .int (-1)),
  (11, .ireturn, [], .null),
  (12, .aload_n 0, [0], .null),
  (13, .getfield 9, [896, 11, 0, 0], .null),
  (16, .iconst 1, [], .int 1),
  (17, .iaload, [], .null),
  (18, .iload_n 1, [1], .null),
  (19, .iadd, [], .null),
  (20, .sipush 999, [], .int 999),
  (23, .if_icmp .le 6, [29], .null),
  (26, .bipush (-3), [], .int (-3)),
  (28, .ireturn, [], .null),
  (29, .aload_n 0, [0], .null),
  (30, .aload_n 0, [0], .null),
  (31, .getfield 9, [896, 11, 0, 0], .null),
  (34, .iload_n 1, [1], .null),
  (35, .invokevirtual 126, [2, 1004, 3, 139, 27, 11], .null),
  (38, .aload_n 0, [0], .null),
  (39, .getfield 9, [896, 11, 0, 0], .null),
  (42, .invokestatic 156, [0, 1091, 1, 140], .null),
  (45, .ireturn, [], .null)]
def mm_c_X11_isLate : List mm_En := [
  (0, .iload_n 0, [0], .null),
  (1, .iconst 0, [], .int 0),
  (2, .bipush 60, [], .int 60),
  (4, .invokestatic 49, [0, 965, 3, 121], .null),
  (7, .ireturn, [], .null)]
def mm_c_X11_takes : List mm_En := [
  (0, .aload_n 0, [0], .null),
  (1, .getfield 9, [896, 11, 0, 0], .null),
  (4, .aload_n 0, [0], .null),
  (5, .getfield 13, [897, 11, 1, 0], .null),
  (8, .invokestatic 136, [0, 980, 2, 124], .null),
  (11, .aload_n 0, [0], .null),
  (12, .aload_n 0, [0], .null),
  (13, .getfield 13, [897, 11, 1, 0], .null),
  (16, .iload_n 1, [1], .null),
  (17, .invokevirtual 126, [2, 1004, 3, 139, 27, 11], .null),
  (20, .return_, [], .null)]
def mm_c_X11_owesThen : List mm_En := [
  (0, .aload_n 0, [0], .null),
  (1, .iload_n 1, [1], .null),
  (2, .invokevirtual 123, [2, 1000, 2, 126, 26, 11], .null),
  (5, .ifCond .eq 10, [15], .null),
  (8, .iload_n 2, [2], .null),
  (9, .invokestatic 160, [0, 1098, 1, 159], .null),
  (12, .ifCond .ne 5, [17], .null),
  (15, .iconst (-1), [], .int (-1)),
  (16, .ireturn, [], .null),
  (17, .aload_n 0, [0], .null),
  (18, .iload_n 2, [2], .null),
  (19, .invokevirtual 163, [2, 1101, 2, 160, 34, 11], .null),
  (22, .aload_n 0, [0], .null),
  (23, .getfield 13, [897, 11, 1, 0], .null),
  (26, .iload_n 1, [1], .null),
  (27, .iconst 3, [], .int 3),
  (28, .invokestatic 69, [0, 997, 2, 125], .null),
  (31, .iaload, [], .null),
  (32, .ireturn, [], .null)]
def mm_c_X11_tiredThen : List mm_En := [
  (0, .iload_n 1, [1], .null),
  (1, .invokestatic 53, [0, 990, 1, 127], .null),
  (4, .ifCond .eq 10, [14], .null),
  (7, .iload_n 2, [2], .null),
  (8, .invokestatic 160, [0, 1098, 1, 159], .null),
  (11, .ifCond .ne 5, [16], .null),
  (14, .iconst (-1), [], .int (-1)),
  (15, .ireturn, [], .null),
  (16, .aload_n 0, [0], .null),
  (17, .iload_n 2, [2], .null),
  (18, .invokevirtual 163, [2, 1101, 2, 160, 34, 11], .null),
  (21, .aload_n 0, [0], .null),
  (22, .getfield 13, [897, 11, 1, 0], .null),
  (25, .bipush 35, [], .int 35),
  (27, .iload_n 1, [1], .null),
  (28, .iadd, [], .null),
  (29, .iaload, [], .null),
  (30, .ireturn, [], .null)]
def mm_c_X11_then : List mm_En := [
  (0, .iload_n 1, [1], .null),
  (1, .invokestatic 160, [0, 1098, 1, 159], .null),
  (4, .ifCond .eq 12, [16], .null),
  (7, .iload_n 2, [2], .null),
  (8, .iconst 0, [], .int 0),
  (9, .iconst 2, [], .int 2),
  (10, .invokestatic 49, [0, 965, 3, 121], .null),
  (13, .ifCond .ne 5, [18], .null),
  (16, .iconst (-1), [], .int (-1)),
  (17, .ireturn, [], .null),
  (18, .aload_n 0, [0], .null),
  (19, .iload_n 1, [1], .null),
  (20, .invokevirtual 163, [2, 1101, 2, 160, 34, 11], .null),
  (23, .iload_n 2, [2], .null),
  (24, .ifCond .ne 12, [36], .null),
  (27, .aload_n 0, [0], .null),
  (28, .getfield 13, [897, 11, 1, 0], .null),
  (31, .iconst 2, [], .int 2),
  (32, .iaload, [], .null),
  (33, .goto 24, [57], .null),
  (36, .iload_n 2, [2], .null),
  (37, .iconst 1, [], .int 1),
  (38, .if_icmp .ne 12, [50], .null),
  (41, .aload_n 0, [0], .null),
  (42, .getfield 13, [897, 11, 1, 0], .null),
  (45, .iconst 3, [], .int 3),
  (46, .iaload, [], .null),
  (47, .goto 10, [57], .null),
  (50, .aload_n 0, [0], .null),
  (51, .getfield 13, [897, 11, 1, 0], .null),
  (54, .invokestatic 156, [0, 1091, 1, 140], .null),
  (57, .ireturn, [], .null)]
def mm_c_X11_firstAsleep : List mm_En := [
  (0, .iload_n 1, [1], .null),
  (1, .invokestatic 53, [0, 990, 1, 127], .null),
  (4, .ifCond .ne 5, [9], .null),
  (7, .iconst (-1), [], .int (-1)),
  (8, .ireturn, [], .null),
  (9, .aload_n 0, [0], .null),
  (10, .getfield 9, [896, 11, 0, 0], .null),
  (13, .aload_n 0, [0], .null),
  (14, .getfield 13, [897, 11, 1, 0], .null),
  (17, .invokestatic 136, [0, 980, 2, 124], .null),
  (20, .iconst 0, [], .int 0),
  (21, .istore_n 2, [2], .null),
  (22, .iload_n 2, [2], .null),
  (23, .bipush 60, [], .int 60),
  (25, .if_icmp .gt 30, [55], .null),
  (28, .aload_n 0, [0], .null),
  (29, .getfield 13, [897, 11, 1, 0], .null),
  (32, .iload_n 1, [1], .null),
  (33, .invokestatic 65, [0, 1015, 2, 134], .null),
  (36, .ifCond .ne 5, [41], .null),
  (39, .iload_n 2, [2], .null),
  (40, .ireturn, [], .null),
  (41, .aload_n 0, [0], .null),
  (42, .aload_n 0, [0], .null),
  (43, .getfield 13, [897, 11, 1, 0], .null),
  (46, .invokevirtual 95, [2, 1008, 2, 138, 28, 11], .null),
  (49, .iinc 2 1, [2], .int 1),
  (52, .goto (-30), [22], .null),
  (55, .bipush (-4), [], .int (-4)),
  (57, .ireturn, [], .null)]
def mm_c_X11_out : List mm_En := [
  (0, .aload_n 0, [0], .null),
  (1, .getfield 9, [896, 11, 0, 0], .null),
  (4, .aload_n 0, [0], .null),
  (5, .getfield 13, [897, 11, 1, 0], .null),
  (8, .invokestatic 136, [0, 980, 2, 124], .null),
  (11, .iconst 0, [], .int 0),
  (12, .istore_n 1, [1], .null),
  (13, .iload_n 1, [1], .null),
  (14, .bipush 60, [], .int 60),
  (16, .if_icmp .gt 28, [44], .null),
  (19, .aload_n 0, [0], .null),
  (20, .getfield 13, [897, 11, 1, 0], .null),
  (23, .iconst 2, [], .int 2),
  (24, .iaload, [], .null),
  (25, .ifCond .ne 5, [30], .null),
  (28, .iload_n 1, [1], .null),
  (29, .ireturn, [], .null),
  (30, .aload_n 0, [0], .null),
  (31, .aload_n 0, [0], .null),
  (32, .getfield 13, [897, 11, 1, 0], .null),
  (35, .invokevirtual 95, [2, 1008, 2, 138, 28, 11], .null),
  (38, .iinc 1 1, [1], .int 1),
  (41, .goto (-28), [13], .null),
  (44, .bipush (-4), [], .int (-4)),
  (46, .ireturn, [], .null)]
def mm_c_X11_owedNow : List mm_En := [
  (0, .aload_n 0, [0], .null),
  (1, .iload_n 1, [1], .null),
  (2, .invokevirtual 163, [2, 1101, 2, 160, 34, 11], .null),
  (5, .aload_n 0, [0], .null),
  (6, .getfield 13, [897, 11, 1, 0], .null),
  (9, .invokestatic 156, [0, 1091, 1, 140], .null),
  (12, .ireturn, [], .null)]
def mm_c_X11_bestWaker : List mm_En := [
  (0, .aload_n 0, [0], .null),
  (1, .iload_n 1, [1], .null),
  (2, .invokevirtual 123, [2, 1000, 2, 126, 26, 11], .null),
  (5, .ifCond .eq 19, [24], .null),
  (8, .iload_n 2, [2], .null),
  (9, .invokestatic 160, [0, 1098, 1, 159], .null),
  (12, .ifCond .eq 12, [24], .null),
  (15, .iload_n 3, [3], .null),
  (16, .iconst 0, [], .int 0),
  (17, .iconst 1, [], .int 1),
  (18, .invokestatic 49, [0, 965, 3, 121], .null),
  (21, .ifCond .ne 5, [26], .null),
  (24, .iconst (-1), [], .int (-1)),
  (25, .ireturn, [], .null),
  (26, .bipush 9, [], .int 9),
  (28, .istore 4, [4], .null),
  (30, .ldc 167, [1125], .int 1000000000),
  (32, .istore 5, [5], .null),
  (34, .iconst 0, [], .int 0),
  (35, .istore 6, [6], .null),
  (37, .iload 6, [6], .null),
  (39, .iconst 5, [], .int 5),
  (40, .if_icmp .gt 91, [131], .null),
  (43, .aload_n 0, [0], .null),
  (44, .getfield 9, [896, 11, 0, 0], .null),
  (47, .aload_n 0, [0], .null),
  (48, .getfield 13, [897, 11, 1, 0], .null),
  (51, .invokestatic 136, [0, 980, 2, 124], .null),
  (54, .aload_n 0, [0], .null),
  (55, .getfield 13, [897, 11, 1, 0], .null),
  (58, .iload_n 1, [1], .null),
  (59, .iconst 2, [], .int 2),
  (60, .invokestatic 69, [0, 997, 2, 125], .null),
  (63, .iload 6, [6], .null),
  (65, .iconst 5, [], .int 5),
  (66, .if_icmp .ge 8, [74], .null),
  (69, .iload 6, [6], .null),
  (71, .goto 5, [76], .null),
  (74, .bipush 9, [], .int 9),
  (76, .iastore, [], .null),
  (77, .aload_n 0, [0], .null),
  (78, .aload_n 0, [0], .null),
  (79, .getfield 13, [897, 11, 1, 0], .null),
  (82, .iload_n 2, [2], .null),
  (83, .invokevirtual 126, [2, 1004, 3, 139, 27, 11], .null),
  (86, .aload_n 0, [0], .null),
  (87, .getfield 13, [897, 11, 1, 0], .null),
  (90, .invokestatic 156, [0, 1091, 1, 140], .null),
  (93, .iload 5, [5], .null),
  (95, .if_icmp .lt 6, [101], .null),
  (98, .goto 27, [125], .null),
  (101, .iload 6, [6], .null),
  (103, .iconst 5, [], .int 5),
  (104, .if_icmp .ge 8, [112], .null),
  (107, .iload 6, [6], .null),
  (109, .goto 5, [114], .null),
  (112, .bipush 9, [], .int 9),
  (114, .istore 4, [4], .null),
  (116, .aload_n 0, [0], .null),
  (117, .getfield 13, [897, 11, 1, 0], .null),
  (120, .invokestatic 156, [0, 1091, 1, 140], .null),
  (123, .istore 5, [5], .null),
  (125, .iinc 6 1, [6], .int 1),
  (128, .goto (-91), [37], .null),
  (131, .iload_n 3, [3], .null),
  (132, .ifCond .ne 8, [140], .null),
  (135, .iload 4, [4], .null),
  (137, .goto 5, [142], .null),
  (140, .iload 5, [5], .null),
  (142, .ireturn, [], .null)]
def mm_c_X11_canWake : List mm_En := [
  (0, .aload_n 0, [0], .null),
  (1, .getfield 9, [896, 11, 0, 0], .null),
  (4, .iload_n 1, [1], .null),
  (5, .invokestatic 65, [0, 1015, 2, 134], .null),
  (8, .ifCond .eq 15, [23], .null),
  (11, .iload_n 2, [2], .null),
  (12, .iload_n 1, [1], .null),
  (13, .invokestatic 61, [0, 1018, 2, 129], .null),
  (16, .ifCond .ne 7, [23], .null),
  (19, .iconst 1, [], .int 1),
  (20, .goto 4, [24], .null),
  (23, .iconst 0, [], .int 0),
  (24, .ireturn, [], .null)]
def mm_c_X11_matches : List mm_En := [
  (0, .aload_n 0, [0], .null),
  (1, .getfield 9, [896, 11, 0, 0], .null),
  (4, .iconst 0, [], .int 0),
  (5, .iaload, [], .null),
  (6, .istore_n 1, [1], .null),
  (7, .iload_n 1, [1], .null),
  (8, .ifCond .lt 147, [155], .null),
  (11, .iconst 0, [], .int 0),
  (12, .istore_n 2, [2], .null),
  (13, .iload_n 2, [2], .null),
  (14, .bipush 32, [], .int 32),
  (16, .if_icmp .ge 133, [149], .null),
  (19, .iload_n 1, [1], .null),
  (20, .aload_n 0, [0], .null),
  (21, .getfield 9, [896, 11, 0, 0], .null),
  (24, .iconst 0, [], .int 0),
  (25, .iaload, [], .null),
  (26, .if_icmp .ne 7, [33], .null),
  (29, .iconst 0, [], .int 0),
  (30, .goto 15, [45], .null),
  (33, .aload_n 0, [0], .null),
  (34, .getfield 28, [906, 11, 10, 0], .null),
  (37, .iload_n 1, [1], .null),
  (38, .iconst 1, [], .int 1),
  (39, .iadd, [], .null),
  (40, .iconst 5, [], .int 5),
  (41, .ishl, [], .null),
  (42, .iload_n 2, [2], .null),
  (43, .ior, [], .null),
  (44, .iaload, [], .null),
  (45, .istore_n 3, [3], .null),
  (46, .iconst 0, [], .int 0),
  (47, .istore 4, [4], .null),
  (49, .iload 4, [4], .null),
  (51, .iconst 5, [], .int 5),
  (52, .if_icmp .ge 80, [132], .null),
  (55, .iload_n 1, [1], .null),
  (56, .aload_n 0, [0], .null),
  (57, .getfield 9, [896, 11, 0, 0], .null),
  (60, .iconst 0, [], .int 0),
  (61, .iaload, [], .null),
  (62, .if_icmp .ge 70, [132], .null),
  (65, .aload_n 0, [0], .null),
  (66, .iload 4, [4], .null),
  (68, .iload_n 2, [2], .null),
  (69, .invokevirtual 168, [2, 1134, 3, 168, 36, 11], .null),
  (72, .ifCond .eq 54, [126], .null),
  (75, .aload_n 0, [0], .null),
  (76, .iload_n 1, [1], .null),
  (77, .invokevirtual 143, [2, 1047, 2, 148, 30, 11], .null),
  (80, .aload_n 0, [0], .null),
  (81, .getfield 28, [906, 11, 10, 0], .null),
  (84, .iload_n 1, [1], .null),
  (85, .iconst 1, [], .int 1),
  (86, .iadd, [], .null),
  (87, .iconst 5, [], .int 5),
  (88, .ishl, [], .null),
  (89, .iload_n 2, [2], .null),
  (90, .ior, [], .null),
  (91, .iconst 1, [], .int 1),
  (92, .iload 4, [4], .null),
  (94, .ishl, [], .null),
  (95, .ior, [], .null),
  (96, .iaload, [], .null),
  (97, .iadd, [], .null),
  (98, .iload_n 3, [3], .null),
  (99, .if_icmp .le 27, [126], .null),
  (102, .aload_n 0, [0], .null),
  (103, .iload_n 1, [1], .null),
  (104, .invokevirtual 143, [2, 1047, 2, 148, 30, 11], .null),
  (107, .aload_n 0, [0], .null),
  (108, .getfield 28, [906, 11, 10, 0], .null),
  (111, .iload_n 1, [1], .null),
  (112, .iconst 1, [], .int 1),
  (113, .iadd, [], .null),
  (114, .iconst 5, [], .int 5),
  (115, .ishl, [], .null),
  (116, .iload_n 2, [2], .null),
  (117, .ior, [], .null),
  (118, .iconst 1, [], .int 1),
  (119, .iload 4, [4], .null),
  (121, .ishl, [], .null),
  (122, .ior, [], .null),
  (123, .iaload, [], .null),
  (124, .iadd, [], .null),
  (125, .istore_n 3, [3], .null),
  (126, .iinc 4 1, [4], .int 1),
  (129, .goto (-80), [49], .null),
  (132, .aload_n 0, [0], .null),
  (133, .getfield 28, [906, 11, 10, 0], .null),
  (136, .iload_n 1, [1], .null),
  (137, .iconst 5, [], .int 5),
  (138, .ishl, [], .null),
  (139, .iload_n 2, [2], .null),
  (140, .ior, [], .null),
  (141, .iload_n 3, [3], .null),
  (142, .iastore, [], .null),
  (143, .iinc 2 1, [2], .int 1),
  (146, .goto (-133), [13], .null),
  (149, .iinc 1 (-1), [1], .int (-1)),
  (152, .goto (-145), [7], .null),
  (155, .return_, [], .null)]
def mm_c_X11_wakerOf : List mm_En := [
  (0, .iconst 0, [], .int 0),
  (1, .istore_n 3, [3], .null),
  (2, .iload_n 3, [3], .null),
  (3, .iconst 5, [], .int 5),
  (4, .if_icmp .ge 55, [59], .null),
  (7, .aload_n 0, [0], .null),
  (8, .iload_n 3, [3], .null),
  (9, .iload_n 2, [2], .null),
  (10, .invokevirtual 168, [2, 1134, 3, 168, 36, 11], .null),
  (13, .ifCond .eq 40, [53], .null),
  (16, .aload_n 0, [0], .null),
  (17, .iload_n 1, [1], .null),
  (18, .invokevirtual 143, [2, 1047, 2, 148, 30, 11], .null),
  (21, .aload_n 0, [0], .null),
  (22, .getfield 28, [906, 11, 10, 0], .null),
  (25, .iload_n 1, [1], .null),
  (26, .iconst 1, [], .int 1),
  (27, .iadd, [], .null),
  (28, .iconst 5, [], .int 5),
  (29, .ishl, [], .null),
  (30, .iload_n 2, [2], .null),
  (31, .ior, [], .null),
  (32, .iconst 1, [], .int 1),
  (33, .iload_n 3, [3], .null),
  (34, .ishl, [], .null),
  (35, .ior, [], .null),
  (36, .iaload, [], .null),
  (37, .iadd, [], .null),
  (38, .aload_n 0, [0], .null),
  (39, .getfield 28, [906, 11, 10, 0], .null),
  (42, .iload_n 1, [1], .null),
  (43, .iconst 5, [], .int 5),
  (44, .ishl, [], .null),
  (45, .iload_n 2, [2], .null),
  (46, .ior, [], .null),
  (47, .iaload, [], .null),
  (48, .if_icmp .ne 5, [53], .null),
  (51, .iload_n 3, [3], .null),
  (52, .ireturn, [], .null),
  (53, .iinc 3 1, [3], .int 1),
  (56, .goto (-54), [2], .null),
  (59, .bipush (-4), [], .int (-4)),
  (61, .ireturn, [], .null)]
def mm_c_X11_match : List mm_En := [
  (0, .iload_n 1, [1], .null),
  (1, .iconst (-1), [], .int (-1)),
  (2, .if_icmp .eq 13, [15], .null),
  (5, .aload_n 0, [0], .null),
  (6, .iload_n 1, [1], .null),
  (7, .invokevirtual 123, [2, 1000, 2, 126, 26, 11], .null),
  (10, .ifCond .ne 5, [15], .null),
  (13, .iconst (-1), [], .int (-1)),
  (14, .ireturn, [], .null),
  (15, .aload_n 0, [0], .null),
  (16, .invokevirtual 171, [2, 1130, 1, 169, 35, 11], .null),
  (19, .iload_n 1, [1], .null),
  (20, .ifCond .ge 10, [30], .null),
  (23, .aload_n 0, [0], .null),
  (24, .getfield 28, [906, 11, 10, 0], .null),
  (27, .iconst 0, [], .int 0),
  (28, .iaload, [], .null),
  (29, .ireturn, [], .null),
  (30, .iconst 0, [], .int 0),
  (31, .istore_n 2, [2], .null),
  (32, .iconst 0, [], .int 0),
  (33, .istore_n 3, [3], .null),
  (34, .iload_n 3, [3], .null),
  (35, .iload_n 1, [1], .null),
  (36, .if_icmp .ge 33, [69], .null),
  (39, .aload_n 0, [0], .null),
  (40, .iload_n 3, [3], .null),
  (41, .iload_n 2, [2], .null),
  (42, .invokevirtual 174, [2, 1138, 3, 170, 37, 11], .null),
  (45, .istore 4, [4], .null),
  (47, .iload_n 2, [2], .null),
  (48, .iload 4, [4], .null),
  (50, .ifCond .ge 7, [57], .null),
  (53, .iconst 0, [], .int 0),
  (54, .goto 7, [61], .null),
  (57, .iconst 1, [], .int 1),
  (58, .iload 4, [4], .null),
  (60, .ishl, [], .null),
  (61, .ior, [], .null),
  (62, .istore_n 2, [2], .null),
  (63, .iinc 3 1, [3], .int 1),
  (66, .goto (-32), [34], .null),
  (69, .aload_n 0, [0], .null),
  (70, .iload_n 1, [1], .null),
  (71, .iload_n 2, [2], .null),
  (72, .invokevirtual 174, [2, 1138, 3, 170, 37, 11], .null),
  (75, .ireturn, [], .null)]
def mm_c_X11_milk : List mm_En := [
  (0, .iload_n 1, [1], .null),
  (1, .iconst 0, [], .int 0),
  (2, .bipush 30, [], .int 30),
  (4, .invokestatic 49, [0, 965, 3, 121], .null),
  (7, .ifCond .ne 5, [12], .null),
  (10, .iconst (-1), [], .int (-1)),
  (11, .ireturn, [], .null),
  (12, .aload_n 0, [0], .null),
  (13, .iload_n 1, [1], .null),
  (14, .invokevirtual 177, [2, 1146, 2, 166, 38, 11], .null),
  (17, .istore_n 2, [2], .null),
  (18, .bipush (-4), [], .int (-4)),
  (20, .istore_n 3, [3], .null),
  (21, .iconst 0, [], .int 0),
  (22, .istore 4, [4], .null),
  (24, .iload 4, [4], .null),
  (26, .aload_n 0, [0], .null),
  (27, .getfield 9, [896, 11, 0, 0], .null),
  (30, .iconst 0, [], .int 0),
  (31, .iaload, [], .null),
  (32, .if_icmp .ge 64, [96], .null),
  (35, .aload_n 0, [0], .null),
  (36, .getfield 9, [896, 11, 0, 0], .null),
  (39, .aload_n 0, [0], .null),
  (40, .getfield 13, [897, 11, 1, 0], .null),
  (43, .invokestatic 136, [0, 980, 2, 124], .null),
  (46, .aload_n 0, [0], .null),
  (47, .getfield 13, [897, 11, 1, 0], .null),
  (50, .iconst 4, [], .int 4),
  (51, .iconst 1, [], .int 1),
  (52, .iload 4, [4], .null),
  (54, .ishl, [], .null),
  (55, .iastore, [], .null),
  (56, .aload_n 0, [0], .null),
  (57, .aload_n 0, [0], .null),
  (58, .getfield 13, [897, 11, 1, 0], .null),
  (61, .iload_n 1, [1], .null),
  (62, .invokevirtual 126, [2, 1004, 3, 139, 27, 11], .null),
  (65, .aload_n 0, [0], .null),
  (66, .getfield 13, [897, 11, 1, 0], .null),
  (69, .invokestatic 156, [0, 1091, 1, 140], .null),
  (72, .iload_n 2, [2], .null),
  (73, .if_icmp .lt 6, [79], .null),
  (76, .goto 14, [90], .null),
  (79, .iload 4, [4], .null),
  (81, .istore_n 3, [3], .null),
  (82, .aload_n 0, [0], .null),
  (83, .getfield 13, [897, 11, 1, 0], .null),
  (86, .invokestatic 156, [0, 1091, 1, 140], .null),
  (89, .istore_n 2, [2], .null),
  (90, .iinc 4 1, [4], .int 1),
  (93, .goto (-69), [24], .null),
  (96, .iload_n 3, [3], .null),
  (97, .ireturn, [], .null)]
def mm_c_X11_fewest : List mm_En := [
  (0, .iload_n 1, [1], .null),
  (1, .iconst 0, [], .int 0),
  (2, .bipush 30, [], .int 30),
  (4, .invokestatic 49, [0, 965, 3, 121], .null),
  (7, .ifCond .ne 5, [12], .null),
  (10, .iconst (-1), [], .int (-1)),
  (11, .ireturn, [], .null),
  (12, .aload_n 0, [0], .null),
  (13, .iload_n 1, [1], .null),
  (14, .invokevirtual 177, [2, 1146, 2, 166, 38, 11], .null),
  (17, .istore_n 2, [2], .null),
  (18, .bipush 31, [], .int 31),
  (20, .istore_n 3, [3], .null),
  (21, .iconst 0, [], .int 0),
  (22, .istore 4, [4], .null),
  (24, .iload 4, [4], .null),
  (26, .bipush 32, [], .int 32),
  (28, .if_icmp .ge 88, [116], .null),
  (31, .iload 4, [4], .null),
  (33, .invokestatic 180, [0, 1154, 1, 130], .null),
  (36, .iload_n 3, [3], .null),
  (37, .invokestatic 180, [0, 1154, 1, 130], .null),
  (40, .if_icmp .lt 6, [46], .null),
  (43, .goto 67, [110], .null),
  (46, .aload_n 0, [0], .null),
  (47, .getfield 9, [896, 11, 0, 0], .null),
  (50, .aload_n 0, [0], .null),
  (51, .getfield 13, [897, 11, 1, 0], .null),
  (54, .invokestatic 136, [0, 980, 2, 124], .null),
  (57, .aload_n 0, [0], .null),
  (58, .getfield 13, [897, 11, 1, 0], .null),
  (61, .bipush 6, [], .int 6),
  (63, .bipush 31, [], .int 31),
  (65, .iload 4, [4], .null),
  (67, .iconst (-1), [], .int (-1)),
  (68, .ixor, [], .null),
  (69, .iand, [], .null),
  (70, .iastore, [], .null),
  (71, .aload_n 0, [0], .null),
  (72, .getfield 13, [897, 11, 1, 0], .null),
  (75, .iconst 3, [], .int 3),
  (76, .dup2, [], .null),
  (77, .iaload, [], .null),
  (78, .aload_n 0, [0], .null),
  (79, .getfield 13, [897, 11, 1, 0], .null),
  (82, .bipush 6, [], .int 6),
  (84, .iaload, [], .null),
  (85, .ior, [], .null),
  (86, .iastore, [], .null),
  (87, .aload_n 0, [0], .null),
  (88, .aload_n 0, [0], .null),
  (89, .getfield 13, [897, 11, 1, 0], .null),
  (92, .iload_n 1, [1], .null),
  (93, .invokevirtual 126, [2, 1004, 3, 139, 27, 11], .null),
  (96, .aload_n 0, [0], .null),
  (97, .getfield 13, [897, 11, 1, 0], .null),
  (100, .invokestatic 156, [0, 1091, 1, 140], .null),
  (103, .iload_n 2, [2], .null),
  (104, .if_icmp .gt 6, [110], .null),
  (107, .iload 4, [4], .null),
  (109, .istore_n 3, [3], .null),
  (110, .iinc 4 1, [4], .int 1),
  (113, .goto (-89), [24], .null),
  (116, .iload_n 3, [3], .null),
  (117, .ireturn, [], .null)]
def mm_c_X11_store : List mm_En := [
  (0, .iload_n 1, [1], .null),
  (1, .invokestatic 160, [0, 1098, 1, 159], .null),
  (4, .ifCond .ne 5, [9], .null),
  (7, .iconst (-1), [], .int (-1)),
  (8, .ireturn, [], .null),
  (9, .iconst 0, [], .int 0),
  (10, .istore_n 2, [2], .null),
  (11, .iload_n 2, [2], .null),
  (12, .sipush 999, [], .int 999),
  (15, .if_icmp .gt 47, [62], .null),
  (18, .aload_n 0, [0], .null),
  (19, .getfield 9, [896, 11, 0, 0], .null),
  (22, .aload_n 0, [0], .null),
  (23, .getfield 13, [897, 11, 1, 0], .null),
  (26, .invokestatic 136, [0, 980, 2, 124], .null),
  (29, .aload_n 0, [0], .null),
  (30, .getfield 13, [897, 11, 1, 0], .null),
  (33, .iconst 2, [], .int 2),
  (34, .iload_n 2, [2], .null),
  (35, .iastore, [], .null),
  (36, .aload_n 0, [0], .null),
  (37, .aload_n 0, [0], .null),
  (38, .getfield 13, [897, 11, 1, 0], .null),
  (41, .iload_n 1, [1], .null),
  (42, .invokevirtual 126, [2, 1004, 3, 139, 27, 11], .null),
  (45, .aload_n 0, [0], .null),
  (46, .getfield 13, [897, 11, 1, 0], .null),
  (49, .iconst 2, [], .int 2),
  (50, .iaload, [], .null),
  (51, .ifCond .le 5, [56], .null),
  (54, .iload_n 2, [2], .null),
  (55, .ireturn, [], .null),
  (56, .iinc 2 1, [2], .int 1),
  (59, .goto (-48), [11], .null),
  (62, .bipush (-4), [], .int (-4)),
  (64, .ireturn, [], .null)]
def mm_c_X11_heaviest : List mm_En := [
  (0, .iload_n 1, [1], .null),
  (1, .iconst 0, [], .int 0),
  (2, .iconst 3, [], .int 3),
  (3, .invokestatic 49, [0, 965, 3, 121], .null),
  (6, .ifCond .ne 5, [11], .null),
  (9, .iconst (-1), [], .int (-1)),
  (10, .ireturn, [], .null),
  (11, .iconst 0, [], .int 0),
  (12, .istore_n 2, [2], .null),
  (13, .iconst 0, [], .int 0),
  (14, .istore_n 3, [3], .null),
  (15, .iload_n 3, [3], .null),
  (16, .iconst 5, [], .int 5),
  (17, .if_icmp .ge 24, [41], .null),
  (20, .aload_n 0, [0], .null),
  (21, .iload_n 3, [3], .null),
  (22, .invokevirtual 147, [2, 1055, 2, 150, 31, 11], .null),
  (25, .aload_n 0, [0], .null),
  (26, .iload_n 2, [2], .null),
  (27, .invokevirtual 147, [2, 1055, 2, 150, 31, 11], .null),
  (30, .if_icmp .le 5, [35], .null),
  (33, .iload_n 3, [3], .null),
  (34, .istore_n 2, [2], .null),
  (35, .iinc 3 1, [3], .int 1),
  (38, .goto (-23), [15], .null),
  (41, .bipush (-4), [], .int (-4)),
  (43, .istore_n 3, [3], .null),
  (44, .iconst 0, [], .int 0),
  (45, .istore 4, [4], .null),
  (47, .iconst 0, [], .int 0),
  (48, .istore 5, [5], .null),
  (50, .iload 5, [5], .null),
  (52, .aload_n 0, [0], .null),
  (53, .getfield 9, [896, 11, 0, 0], .null),
  (56, .iconst 0, [], .int 0),
  (57, .iaload, [], .null),
  (58, .if_icmp .ge 74, [132], .null),
  (61, .iload_n 3, [3], .null),
  (62, .ifCond .lt 27, [89], .null),
  (65, .aload_n 0, [0], .null),
  (66, .getfield 9, [896, 11, 0, 0], .null),
  (69, .iload 5, [5], .null),
  (71, .iconst 3, [], .int 3),
  (72, .invokestatic 69, [0, 997, 2, 125], .null),
  (75, .iaload, [], .null),
  (76, .aload_n 0, [0], .null),
  (77, .getfield 9, [896, 11, 0, 0], .null),
  (80, .iload_n 3, [3], .null),
  (81, .iconst 3, [], .int 3),
  (82, .invokestatic 69, [0, 997, 2, 125], .null),
  (85, .iaload, [], .null),
  (86, .if_icmp .le 6, [92], .null),
  (89, .iload 5, [5], .null),
  (91, .istore_n 3, [3], .null),
  (92, .iload 4, [4], .null),
  (94, .aload_n 0, [0], .null),
  (95, .getfield 9, [896, 11, 0, 0], .null),
  (98, .aload_n 0, [0], .null),
  (99, .getfield 9, [896, 11, 0, 0], .null),
  (102, .iload 5, [5], .null),
  (104, .iconst 2, [], .int 2),
  (105, .invokestatic 69, [0, 997, 2, 125], .null),
  (108, .iaload, [], .null),
  (109, .invokestatic 65, [0, 1015, 2, 134], .null),
  (112, .ifCond .eq 7, [119], .null),
  (115, .iconst 0, [], .int 0),
  (116, .goto 7, [123], .null),
  (119, .iconst 1, [], .int 1),
  (120, .iload 5, [5], .null),
  (122, .ishl, [], .null),
  (123, .ior, [], .null),
  (124, .istore 4, [4], .null),
  (126, .iinc 5 1, [5], .int 1),
  (129, .goto (-79), [50], .null),
  (132, .iload_n 1, [1], .null),
  (133, .ifCond .ne 7, [140], .null),
  (136, .iload_n 2, [2], .null),
  (137, .goto 27, [164], .null),
  (140, .iload_n 1, [1], .null),
  (141, .iconst 1, [], .int 1),
  (142, .if_icmp .ne 11, [153], .null),
  (145, .aload_n 0, [0], .null),
  (146, .iload_n 2, [2], .null),
  (147, .invokevirtual 147, [2, 1055, 2, 150, 31, 11], .null),
  (150, .goto 14, [164], .null),
  (153, .iload_n 1, [1], .null),
  (154, .iconst 2, [], .int 2),
  (155, .if_icmp .ne 7, [162], .null),
  (158, .iload_n 3, [3], .null),
  (159, .goto 5, [164], .null),
  (162, .iload 4, [4], .null),
  (164, .ireturn, [], .null)]
def mm_c_X11_rest : List mm_En := [
  (0, .iload_n 1, [1], .null),
  (1, .iconst 1, [], .int 1),
  (2, .bipush 30, [], .int 30),
  (4, .invokestatic 49, [0, 965, 3, 121], .null),
  (7, .ifCond .eq 12, [19], .null),
  (10, .iload_n 2, [2], .null),
  (11, .iconst 0, [], .int 0),
  (12, .iconst 1, [], .int 1),
  (13, .invokestatic 49, [0, 965, 3, 121], .null),
  (16, .ifCond .ne 5, [21], .null),
  (19, .iconst (-1), [], .int (-1)),
  (20, .ireturn, [], .null),
  (21, .iconst 0, [], .int 0),
  (22, .istore_n 3, [3], .null),
  (23, .ldc 167, [1125], .int 1000000000),
  (25, .istore 4, [4], .null),
  (27, .iconst 0, [], .int 0),
  (28, .istore 5, [5], .null),
  (30, .iload 5, [5], .null),
  (32, .iconst 5, [], .int 5),
  (33, .if_icmp .ge 69, [102], .null),
  (36, .aload_n 0, [0], .null),
  (37, .getfield 9, [896, 11, 0, 0], .null),
  (40, .aload_n 0, [0], .null),
  (41, .getfield 13, [897, 11, 1, 0], .null),
  (44, .invokestatic 136, [0, 980, 2, 124], .null),
  (47, .aload_n 0, [0], .null),
  (48, .getfield 13, [897, 11, 1, 0], .null),
  (51, .iconst 3, [], .int 3),
  (52, .dup2, [], .null),
  (53, .iaload, [], .null),
  (54, .iconst 1, [], .int 1),
  (55, .iload 5, [5], .null),
  (57, .ishl, [], .null),
  (58, .ior, [], .null),
  (59, .iastore, [], .null),
  (60, .aload_n 0, [0], .null),
  (61, .aload_n 0, [0], .null),
  (62, .getfield 13, [897, 11, 1, 0], .null),
  (65, .iload_n 1, [1], .null),
  (66, .invokevirtual 126, [2, 1004, 3, 139, 27, 11], .null),
  (69, .aload_n 0, [0], .null),
  (70, .getfield 13, [897, 11, 1, 0], .null),
  (73, .invokestatic 156, [0, 1091, 1, 140], .null),
  (76, .iload 4, [4], .null),
  (78, .if_icmp .lt 6, [84], .null),
  (81, .goto 15, [96], .null),
  (84, .iload 5, [5], .null),
  (86, .istore_n 3, [3], .null),
  (87, .aload_n 0, [0], .null),
  (88, .getfield 13, [897, 11, 1, 0], .null),
  (91, .invokestatic 156, [0, 1091, 1, 140], .null),
  (94, .istore 4, [4], .null),
  (96, .iinc 5 1, [5], .int 1),
  (99, .goto (-69), [30], .null),
  (102, .iload_n 2, [2], .null),
  (103, .ifCond .ne 7, [110], .null),
  (106, .iload_n 3, [3], .null),
  (107, .goto 5, [112], .null),
  (110, .iload 4, [4], .null),
  (112, .ireturn, [], .null)]
def mm_c_X11_leastOf : List mm_En := [
  (0, .iload_n 0, [0], .null),
  (1, .ifCond .ne 8, [9], .null),
  (4, .bipush (-128), [], .int (-128)),
  (6, .goto 16, [22], .null),
  (9, .iload_n 0, [0], .null),
  (10, .iconst 1, [], .int 1),
  (11, .if_icmp .ne 9, [20], .null),
  (14, .sipush (-32768), [], .int (-32768)),
  (17, .goto 5, [22], .null),
  (20, .ldc 183, [1180], .int (-2147483648)),
  (22, .ireturn, [], .null)]
def mm_c_X11_isTold : List mm_En := [
  (0, .aload_n 0, [0], .null),
  (1, .getfield 46, [913, 11, 17, 0], .null),
  (4, .bipush 100, [], .int 100),
  (6, .iload_n 1, [1], .null),
  (7, .imul, [], .null),
  (8, .iload_n 2, [2], .null),
  (9, .iadd, [], .null),
  (10, .iaload, [], .null),
  (11, .aload_n 0, [0], .null),
  (12, .getfield 40, [911, 11, 15, 0], .null),
  (15, .iload_n 1, [1], .null),
  (16, .iaload, [], .null),
  (17, .invokestatic 184, [0, 1177, 1, 177], .null),
  (20, .if_icmp .eq 18, [38], .null),
  (23, .aload_n 0, [0], .null),
  (24, .getfield 46, [913, 11, 17, 0], .null),
  (27, .bipush 100, [], .int 100),
  (29, .iload_n 1, [1], .null),
  (30, .imul, [], .null),
  (31, .iload_n 2, [2], .null),
  (32, .iadd, [], .null),
  (33, .iaload, [], .null),
  (34, .iload_n 3, [3], .null),
  (35, .if_icmp .ne 7, [42], .null),
  (38, .iconst 1, [], .int 1),
  (39, .goto 4, [43], .null),
  (42, .iconst 0, [], .int 0),
  (43, .ireturn, [], .null)]
def mm_c_X11_whatIs : List mm_En := [
  (0, .aload_n 0, [0], .null),
  (1, .iload_n 2, [2], .null),
  (2, .invokevirtual 123, [2, 1000, 2, 126, 26, 11], .null),
  (5, .ifCond .eq 12, [17], .null),
  (8, .iload_n 3, [3], .null),
  (9, .iconst 0, [], .int 0),
  (10, .iconst 1, [], .int 1),
  (11, .invokestatic 49, [0, 965, 3, 121], .null),
  (14, .ifCond .ne 5, [19], .null),
  (17, .iconst (-1), [], .int (-1)),
  (18, .ireturn, [], .null),
  (19, .aload_n 0, [0], .null),
  (20, .iload_n 1, [1], .null),
  (21, .iconst (-1), [], .int (-1)),
  (22, .invokevirtual 129, [2, 958, 3, 197, 20, 11], .null),
  (25, .istore 4, [4], .null),
  (27, .iload 4, [4], .null),
  (29, .ifCond .eq 6, [35], .null),
  (32, .iload 4, [4], .null),
  (34, .ireturn, [], .null),
  (35, .iconst 0, [], .int 0),
  (36, .istore 5, [5], .null),
  (38, .iconst 0, [], .int 0),
  (39, .istore 6, [6], .null),
  (41, .iload 6, [6], .null),
  (43, .iload_n 3, [3], .null),
  (44, .ifCond .ne 8, [52], .null),
  (47, .bipush 8, [], .int 8),
  (49, .goto 5, [54], .null),
  (52, .bipush 10, [], .int 10),
  (54, .if_icmp .ge 103, [157], .null),
  (57, .iconst 1, [], .int 1),
  (58, .istore 7, [7], .null),
  (60, .aload_n 0, [0], .null),
  (61, .getfield 9, [896, 11, 0, 0], .null),
  (64, .aload_n 0, [0], .null),
  (65, .getfield 13, [897, 11, 1, 0], .null),
  (68, .invokestatic 136, [0, 980, 2, 124], .null),
  (71, .aload_n 0, [0], .null),
  (72, .getfield 13, [897, 11, 1, 0], .null),
  (75, .iload_n 2, [2], .null),
  (76, .iload_n 3, [3], .null),
  (77, .invokestatic 69, [0, 997, 2, 125], .null),
  (80, .iload 6, [6], .null),
  (82, .iastore, [], .null),
  (83, .iconst 0, [], .int 0),
  (84, .istore 8, [8], .null),
  (86, .iload 8, [8], .null),
  (88, .aload_n 0, [0], .null),
  (89, .getfield 43, [912, 11, 16, 0], .null),
  (92, .iload_n 1, [1], .null),
  (93, .iaload, [], .null),
  (94, .if_icmp .ge 39, [133], .null),
  (97, .iload 7, [7], .null),
  (99, .aload_n 0, [0], .null),
  (100, .iload_n 1, [1], .null),
  (101, .iload 8, [8], .null),
  (103, .aload_n 0, [0], .null),
  (104, .getfield 13, [897, 11, 1, 0], .null),
  (107, .iload_n 2, [2], .null),
  (108, .iconst 3, [], .int 3),
  (109, .invokestatic 69, [0, 997, 2, 125], .null),
  (112, .iaload, [], .null),
  (113, .invokevirtual 187, [2, 1173, 4, 178, 39, 11], .null),
  (116, .iand, [], .null),
  (117, .istore 7, [7], .null),
  (119, .aload_n 0, [0], .null),
  (120, .aload_n 0, [0], .null),
  (121, .getfield 13, [897, 11, 1, 0], .null),
  (124, .invokevirtual 95, [2, 1008, 2, 138, 28, 11], .null),
  (127, .iinc 8 1, [8], .int 1),
  (130, .goto (-44), [86], .null),
  (133, .iload 5, [5], .null),
  (135, .iload 7, [7], .null),
  (137, .ifCond .eq 10, [147], .null),
  (140, .iconst 1, [], .int 1),
  (141, .iload 6, [6], .null),
  (143, .ishl, [], .null),
  (144, .goto 4, [148], .null),
  (147, .iconst 0, [], .int 0),
  (148, .ior, [], .null),
  (149, .istore 5, [5], .null),
  (151, .iinc 6 1, [6], .int 1),
  (154, .goto (-113), [41], .null),
  (157, .iload 5, [5], .null),
  (159, .ireturn, [], .null)]
def mm_c_X11_isShedSo : List mm_En := [
  (0, .aload_n 0, [0], .null),
  (1, .getfield 9, [896, 11, 0, 0], .null),
  (4, .aload_n 0, [0], .null),
  (5, .getfield 13, [897, 11, 1, 0], .null),
  (8, .invokestatic 136, [0, 980, 2, 124], .null),
  (11, .aload_n 0, [0], .null),
  (12, .getfield 13, [897, 11, 1, 0], .null),
  (15, .iconst 2, [], .int 2),
  (16, .iload_n 2, [2], .null),
  (17, .iastore, [], .null),
  (18, .iconst 0, [], .int 0),
  (19, .istore_n 3, [3], .null),
  (20, .iload_n 3, [3], .null),
  (21, .aload_n 0, [0], .null),
  (22, .getfield 43, [912, 11, 16, 0], .null),
  (25, .iload_n 1, [1], .null),
  (26, .iaload, [], .null),
  (27, .if_icmp .ge 34, [61], .null),
  (30, .aload_n 0, [0], .null),
  (31, .aload_n 0, [0], .null),
  (32, .getfield 13, [897, 11, 1, 0], .null),
  (35, .invokevirtual 95, [2, 1008, 2, 138, 28, 11], .null),
  (38, .aload_n 0, [0], .null),
  (39, .iload_n 1, [1], .null),
  (40, .iload_n 3, [3], .null),
  (41, .aload_n 0, [0], .null),
  (42, .getfield 13, [897, 11, 1, 0], .null),
  (45, .iconst 2, [], .int 2),
  (46, .iaload, [], .null),
  (47, .invokevirtual 187, [2, 1173, 4, 178, 39, 11], .null),
  (50, .ifCond .ne 5, [55], .null),
  (53, .iconst 0, [], .int 0),
  (54, .ireturn, [], .null),
  (55, .iinc 3 1, [3], .int 1),
  (58, .goto (-38), [20], .null),
  (61, .iconst 1, [], .int 1),
  (62, .ireturn, [], .null)]
def mm_c_X11_shed : List mm_En := [
  (0, .iload_n 2, [2], .null),
  (1, .iconst 0, [], .int 0),
  (2, .iconst 2, [], .int 2),
  (3, .invokestatic 49, [0, 965, 3, 121], .null),
  (6, .ifCond .ne 5, [11], .null),
  (9, .iconst (-1), [], .int (-1)),
  (10, .ireturn, [], .null),
  (11, .aload_n 0, [0], .null),
  (12, .iload_n 1, [1], .null),
  (13, .iconst (-1), [], .int (-1)),
  (14, .invokevirtual 129, [2, 958, 3, 197, 20, 11], .null),
  (17, .istore_n 3, [3], .null),
  (18, .iload_n 3, [3], .null),
  (19, .ifCond .eq 5, [24], .null),
  (22, .iload_n 3, [3], .null),
  (23, .ireturn, [], .null),
  (24, .iconst 0, [], .int 0),
  (25, .istore 4, [4], .null),
  (27, .bipush (-4), [], .int (-4)),
  (29, .istore 5, [5], .null),
  (31, .bipush (-4), [], .int (-4)),
  (33, .istore 6, [6], .null),
  (35, .iconst 0, [], .int 0),
  (36, .istore 7, [7], .null),
  (38, .iload 7, [7], .null),
  (40, .sipush 200, [], .int 200),
  (43, .if_icmp .gt 43, [86], .null),
  (46, .aload_n 0, [0], .null),
  (47, .iload_n 1, [1], .null),
  (48, .iload 7, [7], .null),
  (50, .invokevirtual 190, [2, 1185, 3, 180, 40, 11], .null),
  (53, .ifCond .ne 6, [59], .null),
  (56, .goto 24, [80], .null),
  (59, .iload 4, [4], .null),
  (61, .ifCond .ne 8, [69], .null),
  (64, .iload 7, [7], .null),
  (66, .goto 5, [71], .null),
  (69, .iload 5, [5], .null),
  (71, .istore 5, [5], .null),
  (73, .iload 7, [7], .null),
  (75, .istore 6, [6], .null),
  (77, .iinc 4 1, [4], .int 1),
  (80, .iinc 7 1, [7], .int 1),
  (83, .goto (-45), [38], .null),
  (86, .iload_n 2, [2], .null),
  (87, .ifCond .ne 8, [95], .null),
  (90, .iload 4, [4], .null),
  (92, .goto 15, [107], .null),
  (95, .iload_n 2, [2], .null),
  (96, .iconst 1, [], .int 1),
  (97, .if_icmp .ne 8, [105], .null),
  (100, .iload 5, [5], .null),
  (102, .goto 5, [107], .null),
  (105, .iload 6, [6], .null),
  (107, .ireturn, [], .null)]
def mm_c_X11_hasBy : List mm_En := [
  (0, .aload_n 0, [0], .null),
  (1, .getfield 9, [896, 11, 0, 0], .null),
  (4, .aload_n 0, [0], .null),
  (5, .getfield 13, [897, 11, 1, 0], .null),
  (8, .invokestatic 136, [0, 980, 2, 124], .null),
  (11, .aload_n 0, [0], .null),
  (12, .getfield 13, [897, 11, 1, 0], .null),
  (15, .iconst 5, [], .int 5),
  (16, .iconst 1, [], .int 1),
  (17, .iload_n 3, [3], .null),
  (18, .isub, [], .null),
  (19, .iload_n 2, [2], .null),
  (20, .ishl, [], .null),
  (21, .iconst 1, [], .int 1),
  (22, .iload 5, [5], .null),
  (24, .isub, [], .null),
  (25, .iload 4, [4], .null),
  (27, .ishl, [], .null),
  (28, .ior, [], .null),
  (29, .iastore, [], .null),
  (30, .aload_n 0, [0], .null),
  (31, .getfield 22, [900, 11, 4, 0], .null),
  (34, .iload_n 1, [1], .null),
  (35, .iconst 0, [], .int 0),
  (36, .iastore, [], .null),
  (37, .aload_n 0, [0], .null),
  (38, .aload_n 0, [0], .null),
  (39, .getfield 13, [897, 11, 1, 0], .null),
  (42, .iload 6, [6], .null),
  (44, .invokevirtual 126, [2, 1004, 3, 139, 27, 11], .null),
  (47, .aload_n 0, [0], .null),
  (48, .getfield 22, [900, 11, 4, 0], .null),
  (51, .iload_n 1, [1], .null),
  (52, .iaload, [], .null),
  (53, .aload_n 0, [0], .null),
  (54, .getfield 13, [897, 11, 1, 0], .null),
  (57, .iload_n 1, [1], .null),
  (58, .iconst 3, [], .int 3),
  (59, .invokestatic 69, [0, 997, 2, 125], .null),
  (62, .iaload, [], .null),
  (63, .aload_n 0, [0], .null),
  (64, .getfield 9, [896, 11, 0, 0], .null),
  (67, .iload_n 1, [1], .null),
  (68, .iconst 3, [], .int 3),
  (69, .invokestatic 69, [0, 997, 2, 125], .null),
  (72, .iaload, [], .null),
  (73, .isub, [], .null),
  (74, .iconst 2, [], .int 2),
  (75, .idiv, [], .null),
  (76, .isub, [], .null),
  (77, .ireturn, [], .null)]
def mm_c_X11_two : List mm_En := [
  (0, .aload_n 0, [0], .null),
  (1, .iload_n 1, [1], .null),
  (2, .invokevirtual 123, [2, 1000, 2, 126, 26, 11], .null),
  (5, .ifCond .eq 26, [31], .null),
  (8, .aload_n 0, [0], .null),
  (9, .iload_n 2, [2], .null),
  (10, .invokevirtual 123, [2, 1000, 2, 126, 26, 11], .null),
  (13, .ifCond .eq 18, [31], .null),
  (16, .iload_n 1, [1], .null),
  (17, .iload_n 2, [2], .null),
  (18, .if_icmp .eq 13, [31], .null),
  (21, .iload_n 3, [3], .null),
  (22, .iconst 1, [], .int 1),
  (23, .bipush 30, [], .int 30),
  (25, .invokestatic 49, [0, 965, 3, 121], .null),
  (28, .ifCond .ne 5, [33], .null),
  (31, .iconst (-1), [], .int (-1)),
  (32, .ireturn, [], .null),
  (33, .iconst 0, [], .int 0),
  (34, .istore 4, [4], .null),
  (36, .iload 4, [4], .null),
  (38, .iconst 4, [], .int 4),
  (39, .if_icmp .ge 88, [127], .null),
  (42, .iload 4, [4], .null),
  (44, .iconst 2, [], .int 2),
  (45, .idiv, [], .null),
  (46, .istore 5, [5], .null),
  (48, .iload 4, [4], .null),
  (50, .iconst 2, [], .int 2),
  (51, .irem, [], .null),
  (52, .istore 6, [6], .null),
  (54, .aload_n 0, [0], .null),
  (55, .iload_n 1, [1], .null),
  (56, .iload_n 1, [1], .null),
  (57, .iconst 1, [], .int 1),
  (58, .iload 5, [5], .null),
  (60, .isub, [], .null),
  (61, .iload_n 2, [2], .null),
  (62, .iload 6, [6], .null),
  (64, .iload_n 3, [3], .null),
  (65, .invokevirtual 193, [2, 1193, 7, 182, 41, 11], .null),
  (68, .aload_n 0, [0], .null),
  (69, .iload_n 1, [1], .null),
  (70, .iload_n 1, [1], .null),
  (71, .iload 5, [5], .null),
  (73, .iload_n 2, [2], .null),
  (74, .iload 6, [6], .null),
  (76, .iload_n 3, [3], .null),
  (77, .invokevirtual 193, [2, 1193, 7, 182, 41, 11], .null),
  (80, .if_icmp .gt 41, [121], .null),
  (83, .aload_n 0, [0], .null),
  (84, .iload_n 2, [2], .null),
  (85, .iload_n 1, [1], .null),
  (86, .iload 5, [5], .null),
  (88, .iload_n 2, [2], .null),
  (89, .iconst 1, [], .int 1),
  (90, .iload 6, [6], .null),
  (92, .isub, [], .null),
  (93, .iload_n 3, [3], .null),
  (94, .invokevirtual 193, [2, 1193, 7, 182, 41, 11], .null),
  (97, .aload_n 0, [0], .null),
  (98, .iload_n 2, [2], .null),
  (99, .iload_n 1, [1], .null),
  (100, .iload 5, [5], .null),
  (102, .iload_n 2, [2], .null),
  (103, .iload 6, [6], .null),
  (105, .iload_n 3, [3], .null),
  (106, .invokevirtual 193, [2, 1193, 7, 182, 41, 11], .null),
  (109, .if_icmp .gt 12, [121], .null),
  (112, .bipush 10, [], .int 10),
  (114, .iload 5, [5], .null),
  (116, .imul, [], .null),
  (117, .iload 6, [6], .null),
  (119, .iadd, [], .null),
  (120, .ireturn, [], .null),
  (121, .iinc 4 1, [4], .int 1),
  (124, .goto (-88), [36], .null),
  (127, .bipush (-4), [], .int (-4)),
  (129, .ireturn, [], .null)]
def mm_c_X11_gcd : List mm_En := [
  (0, .lload_n 0, [0], .null),
  (1, .lstore 4, [4], .null),
  (3, .lload_n 2, [2], .null),
  (4, .lstore 6, [6], .null),
  (6, .lload 6, [6], .null),
  (8, .lconst 0, [], .long 0),
  (9, .lcmp, [], .null),
  (10, .ifCond .eq 21, [31], .null),
  (13, .lload 4, [4], .null),
  (15, .lload 6, [6], .null),
  (17, .lrem, [], .null),
  (18, .lstore 8, [8], .null),
  (20, .lload 6, [6], .null),
  (22, .lstore 4, [4], .null),
  (24, .lload 8, [8], .null),
  (26, .lstore 6, [6], .null),
  (28, .goto (-22), [6], .null),
  (31, .lload 4, [4], .null),
  (33, .lreturn, [], .null)]
def mm_c_X11_partOf : List mm_En := [
  (0, .lload_n 0, [0], .null),
  (1, .lconst 0, [], .long 0),
  (2, .lcmp, [], .null),
  (3, .ifCond .ne 7, [10], .null),
  (6, .iload 4, [4], .null),
  (8, .i2l, [], .null),
  (9, .lreturn, [], .null),
  (10, .iload 4, [4], .null),
  (12, .ifCond .ne 7, [19], .null),
  (15, .lload_n 0, [0], .null),
  (16, .goto 4, [20], .null),
  (19, .lload_n 2, [2], .null),
  (20, .lload_n 0, [0], .null),
  (21, .lload_n 2, [2], .null),
  (22, .invokestatic 197, [0, 1205, 2, 184], .null),
  (25, .ldiv, [], .null),
  (26, .lreturn, [], .null)]
def mm_c_X11_falls : List mm_En := [
  (0, .iload_n 1, [1], .null),
  (1, .iconst 0, [], .int 0),
  (2, .bipush 7, [], .int 7),
  (4, .invokestatic 49, [0, 965, 3, 121], .null),
  (7, .ifCond .eq 34, [41], .null),
  (10, .iload_n 2, [2], .null),
  (11, .iconst 2, [], .int 2),
  (12, .bipush 20, [], .int 20),
  (14, .invokestatic 49, [0, 965, 3, 121], .null),
  (17, .ifCond .eq 24, [41], .null),
  (20, .iload_n 3, [3], .null),
  (21, .iconst 0, [], .int 0),
  (22, .sipush 999, [], .int 999),
  (25, .invokestatic 49, [0, 965, 3, 121], .null),
  (28, .ifCond .eq 13, [41], .null),
  (31, .iload 4, [4], .null),
  (33, .iconst 0, [], .int 0),
  (34, .iconst 1, [], .int 1),
  (35, .invokestatic 49, [0, 965, 3, 121], .null),
  (38, .ifCond .ne 7, [45], .null),
  (41, .ldc2_w 201, [1201], .long 1000000001),
  (44, .lreturn, [], .null),
  (45, .lconst 0, [], .long 0),
  (46, .lstore 5, [5], .null),
  (48, .lconst 1, [], .long 1),
  (49, .lstore 7, [7], .null),
  (51, .iconst 0, [], .int 0),
  (52, .istore 9, [9], .null),
  (54, .iload 9, [9], .null),
  (56, .iload_n 1, [1], .null),
  (57, .if_icmp .ge 16, [73], .null),
  (60, .lload 7, [7], .null),
  (62, .iload_n 2, [2], .null),
  (63, .i2l, [], .null),
  (64, .lmul, [], .null),
  (65, .lstore 7, [7], .null),
  (67, .iinc 9 1, [9], .int 1),
  (70, .goto (-16), [54], .null),
  (73, .iconst 0, [], .int 0),
  (74, .istore 9, [9], .null),
  (76, .iload 9, [9], .null),
  (78, .iconst 1, [], .int 1),
  (79, .iload_n 1, [1], .null),
  (80, .ishl, [], .null),
  (81, .if_icmp .ge 109, [190], .null),
  (84, .lconst 1, [], .long 1),
  (85, .lstore 10, [10], .null),
  (87, .aload_n 0, [0], .null),
  (88, .getfield 9, [896, 11, 0, 0], .null),
  (91, .aload_n 0, [0], .null),
  (92, .getfield 13, [897, 11, 1, 0], .null),
  (95, .invokestatic 136, [0, 980, 2, 124], .null),
  (98, .iconst 0, [], .int 0),
  (99, .istore 12, [12], .null),
  (101, .iload 12, [12], .null),
  (103, .iload_n 1, [1], .null),
  (104, .if_icmp .ge 58, [162], .null),
  (107, .lload 10, [10], .null),
  (109, .iload 9, [9], .null),
  (111, .iload 12, [12], .null),
  (113, .invokestatic 61, [0, 1018, 2, 129], .null),
  (116, .ifCond .eq 7, [123], .null),
  (119, .lconst 1, [], .long 1),
  (120, .goto 7, [127], .null),
  (123, .iload_n 2, [2], .null),
  (124, .iconst 1, [], .int 1),
  (125, .isub, [], .null),
  (126, .i2l, [], .null),
  (127, .lmul, [], .null),
  (128, .lstore 10, [10], .null),
  (130, .iload 9, [9], .null),
  (132, .iload 12, [12], .null),
  (134, .invokestatic 61, [0, 1018, 2, 129], .null),
  (137, .ifCond .eq 11, [148], .null),
  (140, .aload_n 0, [0], .null),
  (141, .getfield 13, [897, 11, 1, 0], .null),
  (144, .iconst 3, [], .int 3),
  (145, .bipush 31, [], .int 31),
  (147, .iastore, [], .null),
  (148, .aload_n 0, [0], .null),
  (149, .aload_n 0, [0], .null),
  (150, .getfield 13, [897, 11, 1, 0], .null),
  (153, .invokevirtual 95, [2, 1008, 2, 138, 28, 11], .null),
  (156, .iinc 12 1, [12], .int 1),
  (159, .goto (-58), [101], .null),
  (162, .lload 5, [5], .null),
  (164, .aload_n 0, [0], .null),
  (165, .getfield 13, [897, 11, 1, 0], .null),
  (168, .invokestatic 156, [0, 1091, 1, 140], .null),
  (171, .iload_n 3, [3], .null),
  (172, .if_icmp .lt 8, [180], .null),
  (175, .lload 10, [10], .null),
  (177, .goto 4, [181], .null),
  (180, .lconst 0, [], .long 0),
  (181, .ladd, [], .null),
  (182, .lstore 5, [5], .null),
  (184, .iinc 9 1, [9], .int 1),
  (187, .goto (-111), [76], .null),
  (190, .lload 5, [5], .null),
  (192, .lload 7, [7], .null),
  (194, .iload 4, [4], .null),
  (196, .invokestatic 203, [0, 1202, 3, 185], .null),
  (199, .lreturn, [], .null)]
def mm_c_X11_mean : List mm_En := [
  (0, .iload_n 1, [1], .null),
  (1, .iconst 0, [], .int 0),
  (2, .iconst 1, [], .int 1),
  (3, .invokestatic 49, [0, 965, 3, 121], .null),
  (6, .ifCond .eq 21, [27], .null),
  (9, .aload_n 0, [0], .null),
  (10, .getfield 9, [896, 11, 0, 0], .null),
  (13, .invokestatic 207, [0, 1212, 1, 141], .null),
  (16, .i2l, [], .null),
  (17, .ldc2_w 210, [1215], .long 5),
  (20, .iload_n 1, [1], .null),
  (21, .invokestatic 203, [0, 1202, 3, 185], .null),
  (24, .goto 6, [30], .null),
  (27, .ldc2_w 201, [1201], .long 1000000001),
  (30, .lreturn, [], .null)]
def mm_c_X11_forged : List mm_En := [
  (0, .aload_n 0, [0], .null),
  (1, .iload_n 1, [1], .null),
  (2, .iconst (-1), [], .int (-1)),
  (3, .invokevirtual 129, [2, 958, 3, 197, 20, 11], .null),
  (6, .istore_n 2, [2], .null),
  (7, .iload_n 2, [2], .null),
  (8, .ifCond .eq 5, [13], .null),
  (11, .iload_n 2, [2], .null),
  (12, .ireturn, [], .null),
  (13, .iconst 0, [], .int 0),
  (14, .istore_n 3, [3], .null),
  (15, .iload_n 3, [3], .null),
  (16, .aload_n 0, [0], .null),
  (17, .getfield 43, [912, 11, 16, 0], .null),
  (20, .iload_n 1, [1], .null),
  (21, .iaload, [], .null),
  (22, .if_icmp .ge 43, [65], .null),
  (25, .aload_n 0, [0], .null),
  (26, .iload_n 3, [3], .null),
  (27, .invokevirtual 123, [2, 1000, 2, 126, 26, 11], .null),
  (30, .ifCond .eq 27, [57], .null),
  (33, .aload_n 0, [0], .null),
  (34, .getfield 46, [913, 11, 17, 0], .null),
  (37, .bipush 100, [], .int 100),
  (39, .iload_n 1, [1], .null),
  (40, .imul, [], .null),
  (41, .iload_n 3, [3], .null),
  (42, .iadd, [], .null),
  (43, .iaload, [], .null),
  (44, .aload_n 0, [0], .null),
  (45, .getfield 9, [896, 11, 0, 0], .null),
  (48, .iload_n 3, [3], .null),
  (49, .iconst 3, [], .int 3),
  (50, .invokestatic 69, [0, 997, 2, 125], .null),
  (53, .iaload, [], .null),
  (54, .if_icmp .eq 5, [59], .null),
  (57, .iload_n 3, [3], .null),
  (58, .ireturn, [], .null),
  (59, .iinc 3 1, [3], .int 1),
  (62, .goto (-47), [15], .null),
  (65, .bipush (-4), [], .int (-4)),
  (67, .ireturn, [], .null)]
def mm_c_X11_judge : List mm_En := [
  (0, .aload_n 0, [0], .null),
  (1, .iload_n 1, [1], .null),
  (2, .iconst (-1), [], .int (-1)),
  (3, .invokevirtual 129, [2, 958, 3, 197, 20, 11], .null),
  (6, .istore_n 2, [2], .null),
  (7, .iload_n 2, [2], .null),
  (8, .ifCond .eq 5, [13], .null),
  (11, .iload_n 2, [2], .null),
  (12, .ireturn, [], .null),
  (13, .aload_n 0, [0], .null),
  (14, .getfield 9, [896, 11, 0, 0], .null),
  (17, .aload_n 0, [0], .null),
  (18, .getfield 13, [897, 11, 1, 0], .null),
  (21, .invokestatic 136, [0, 980, 2, 124], .null),
  (24, .iconst 0, [], .int 0),
  (25, .istore_n 3, [3], .null),
  (26, .iload_n 3, [3], .null),
  (27, .aload_n 0, [0], .null),
  (28, .getfield 43, [912, 11, 16, 0], .null),
  (31, .iload_n 1, [1], .null),
  (32, .iaload, [], .null),
  (33, .if_icmp .ge 34, [67], .null),
  (36, .aload_n 0, [0], .null),
  (37, .iload_n 1, [1], .null),
  (38, .iload_n 3, [3], .null),
  (39, .aload_n 0, [0], .null),
  (40, .getfield 13, [897, 11, 1, 0], .null),
  (43, .iconst 2, [], .int 2),
  (44, .iaload, [], .null),
  (45, .invokevirtual 187, [2, 1173, 4, 178, 39, 11], .null),
  (48, .ifCond .ne 5, [53], .null),
  (51, .iload_n 3, [3], .null),
  (52, .ireturn, [], .null),
  (53, .aload_n 0, [0], .null),
  (54, .aload_n 0, [0], .null),
  (55, .getfield 13, [897, 11, 1, 0], .null),
  (58, .invokevirtual 95, [2, 1008, 2, 138, 28, 11], .null),
  (61, .iinc 3 1, [3], .int 1),
  (64, .goto (-38), [26], .null),
  (67, .bipush (-4), [], .int (-4)),
  (69, .ireturn, [], .null)]
def mm_c_X11_drawn : List mm_En := [
  (0, .aload_n 0, [0], .null),
  (1, .aload_n 0, [0], .null),
  (2, .getfield 212, [907, 11, 11, 0], .null),
  (5, .ldc 215, [1232], .int 1103515245),
  (7, .imul, [], .null),
  (8, .sipush 12345, [], .int 12345),
  (11, .iadd, [], .null),
  (12, .putfield 212, [907, 11, 11, 0], .null),
  (15, .aload_n 0, [0], .null),
  (16, .getfield 212, [907, 11, 11, 0], .null),
  (19, .ldc 216, [1233], .int 2147483647),
  (21, .iand, [], .null),
  (22, .ldc 217, [1234], .int 65536),
  (24, .idiv, [], .null),
  (25, .iload_n 1, [1], .null),
  (26, .irem, [], .null),
  (27, .ireturn, [], .null)]
def mm_c_X11_years : List mm_En := [
  (0, .iload_n 1, [1], .null),
  (1, .iconst 1, [], .int 1),
  (2, .bipush 20, [], .int 20),
  (4, .invokestatic 49, [0, 965, 3, 121], .null),
  (7, .ifCond .eq 12, [19], .null),
  (10, .iload_n 3, [3], .null),
  (11, .iconst 0, [], .int 0),
  (12, .iconst 1, [], .int 1),
  (13, .invokestatic 49, [0, 965, 3, 121], .null),
  (16, .ifCond .ne 5, [21], .null),
  (19, .iconst (-1), [], .int (-1)),
  (20, .ireturn, [], .null),
  (21, .aload_n 0, [0], .null),
  (22, .iload_n 2, [2], .null),
  (23, .putfield 212, [907, 11, 11, 0], .null),
  (26, .iconst 0, [], .int 0),
  (27, .istore 4, [4], .null),
  (29, .iconst 0, [], .int 0),
  (30, .istore 5, [5], .null),
  (32, .iload 5, [5], .null),
  (34, .iload_n 1, [1], .null),
  (35, .if_icmp .ge 94, [129], .null),
  (38, .aload_n 0, [0], .null),
  (39, .getfield 9, [896, 11, 0, 0], .null),
  (42, .aload_n 0, [0], .null),
  (43, .getfield 13, [897, 11, 1, 0], .null),
  (46, .invokestatic 136, [0, 980, 2, 124], .null),
  (49, .iconst 0, [], .int 0),
  (50, .istore 6, [6], .null),
  (52, .iload 6, [6], .null),
  (54, .aload_n 0, [0], .null),
  (55, .getfield 9, [896, 11, 0, 0], .null),
  (58, .iconst 0, [], .int 0),
  (59, .iaload, [], .null),
  (60, .if_icmp .ge 25, [85], .null),
  (63, .aload_n 0, [0], .null),
  (64, .getfield 13, [897, 11, 1, 0], .null),
  (67, .iload 6, [6], .null),
  (69, .iconst 2, [], .int 2),
  (70, .invokestatic 69, [0, 997, 2, 125], .null),
  (73, .aload_n 0, [0], .null),
  (74, .iconst 5, [], .int 5),
  (75, .invokevirtual 218, [2, 1228, 2, 190, 42, 11], .null),
  (78, .iastore, [], .null),
  (79, .iinc 6 1, [6], .int 1),
  (82, .goto (-30), [52], .null),
  (85, .aload_n 0, [0], .null),
  (86, .aload_n 0, [0], .null),
  (87, .getfield 13, [897, 11, 1, 0], .null),
  (90, .bipush 12, [], .int 12),
  (92, .invokevirtual 126, [2, 1004, 3, 139, 27, 11], .null),
  (95, .iload 4, [4], .null),
  (97, .iload_n 3, [3], .null),
  (98, .ifCond .ne 13, [111], .null),
  (101, .aload_n 0, [0], .null),
  (102, .getfield 13, [897, 11, 1, 0], .null),
  (105, .invokestatic 156, [0, 1091, 1, 140], .null),
  (108, .goto 12, [120], .null),
  (111, .aload_n 0, [0], .null),
  (112, .getfield 13, [897, 11, 1, 0], .null),
  (115, .iconst 3, [], .int 3),
  (116, .iaload, [], .null),
  (117, .invokestatic 180, [0, 1154, 1, 130], .null),
  (120, .iadd, [], .null),
  (121, .istore 4, [4], .null),
  (123, .iinc 5 1, [5], .int 1),
  (126, .goto (-94), [32], .null),
  (129, .iload 4, [4], .null),
  (131, .ireturn, [], .null)]
def mm_c_X11_image : List mm_En := [
  (0, .aload_n 0, [0], .null),
  (1, .getfield 9, [896, 11, 0, 0], .null),
  (4, .aload_n 0, [0], .null),
  (5, .getfield 16, [898, 11, 2, 0], .null),
  (8, .invokestatic 136, [0, 980, 2, 124], .null),
  (11, .aload_n 0, [0], .null),
  (12, .iconst 1, [], .int 1),
  (13, .putfield 221, [901, 11, 5, 0], .null),
  (16, .aload_n 0, [0], .null),
  (17, .getfield 9, [896, 11, 0, 0], .null),
  (20, .iconst 1, [], .int 1),
  (21, .iaload, [], .null),
  (22, .ireturn, [], .null)]
def mm_c_X11_restore : List mm_En := [
  (0, .aload_n 0, [0], .null),
  (1, .getfield 221, [901, 11, 5, 0], .null),
  (4, .ifCond .ne 6, [10], .null),
  (7, .bipush (-3), [], .int (-3)),
  (9, .ireturn, [], .null),
  (10, .aload_n 0, [0], .null),
  (11, .getfield 16, [898, 11, 2, 0], .null),
  (14, .aload_n 0, [0], .null),
  (15, .getfield 9, [896, 11, 0, 0], .null),
  (18, .invokestatic 136, [0, 980, 2, 124], .null),
  (21, .aload_n 0, [0], .null),
  (22, .getfield 9, [896, 11, 0, 0], .null),
  (25, .iconst 1, [], .int 1),
  (26, .iaload, [], .null),
  (27, .ireturn, [], .null)]
def mm_c_X11_count : List mm_En := [
  (0, .iload_n 1, [1], .null),
  (1, .tableswitch 69 0 5 #[39, 39, 39, 46, 54, 61], [39, 0, 70, 40, 40, 40, 47, 55, 62], .null),
  (40, .aload_n 0, [0], .null),
  (41, .getfield 9, [896, 11, 0, 0], .null),
  (44, .iload_n 1, [1], .null),
  (45, .iaload, [], .null),
  (46, .ireturn, [], .null),
  (47, .aload_n 0, [0], .null),
  (48, .getfield 9, [896, 11, 0, 0], .null),
  (51, .invokestatic 156, [0, 1091, 1, 140], .null),
  (54, .ireturn, [], .null),
  (55, .aload_n 0, [0], .null),
  (56, .getfield 9, [896, 11, 0, 0], .null),
  (59, .iconst 3, [], .int 3),
  (60, .iaload, [], .null),
  (61, .ireturn, [], .null),
  (62, .aload_n 0, [0], .null),
  (63, .getfield 9, [896, 11, 0, 0], .null),
  (66, .invokestatic 207, [0, 1212, 1, 141], .null),
  (69, .ireturn, [], .null),
  (70, .iconst (-1), [], .int (-1)),
  (71, .ireturn, [], .null)]
def mm_c_X11_thrown : List mm_En := [
  (0, .aload_n 0, [0], .null),
  (1, .getfield 225, [914, 11, 18, 0], .null),
  (4, .ireturn, [], .null)]
def mm_c_X11_isShelf : List mm_En := [
  (0, .iload_n 0, [0], .null),
  (1, .iconst 0, [], .int 0),
  (2, .bipush 7, [], .int 7),
  (4, .invokestatic 49, [0, 965, 3, 121], .null),
  (7, .ireturn, [], .null)]
def mm_c_X11_wrongRow : List mm_En := [
  (0, .iload_n 1, [1], .null),
  (1, .invokestatic 228, [0, 962, 1, 196], .null),
  (4, .ifCond .ne 7, [11], .null),
  (7, .iconst (-1), [], .int (-1)),
  (8, .goto 47, [55], .null),
  (11, .aload_n 0, [0], .null),
  (12, .getfield 31, [908, 11, 12, 0], .null),
  (15, .iload_n 1, [1], .null),
  (16, .iaload, [], .null),
  (17, .ifCond .ne 8, [25], .null),
  (20, .bipush (-11), [], .int (-11)),
  (22, .goto 33, [55], .null),
  (25, .aload_n 0, [0], .null),
  (26, .getfield 31, [908, 11, 12, 0], .null),
  (29, .iload_n 1, [1], .null),
  (30, .iaload, [], .null),
  (31, .iconst 2, [], .int 2),
  (32, .if_icmp .ne 17, [49], .null),
  (35, .iload_n 2, [2], .null),
  (36, .ifCond .lt 18, [54], .null),
  (39, .aload_n 0, [0], .null),
  (40, .getfield 40, [911, 11, 15, 0], .null),
  (43, .iload_n 1, [1], .null),
  (44, .iaload, [], .null),
  (45, .iload_n 2, [2], .null),
  (46, .if_icmp .eq 8, [54], .null),
  (49, .bipush (-12), [], .int (-12)),
  (51, .goto 4, [55], .null),
  (54, .iconst 0, [], .int 0),
  (55, .ireturn, [], .null)]
def mm_c_X11_wrongKept : List mm_En := [
  (0, .iload_n 1, [1], .null),
  (1, .invokestatic 228, [0, 962, 1, 196], .null),
  (4, .ifCond .ne 7, [11], .null),
  (7, .iconst (-1), [], .int (-1)),
  (8, .goto 33, [41], .null),
  (11, .aload_n 0, [0], .null),
  (12, .getfield 31, [908, 11, 12, 0], .null),
  (15, .iload_n 1, [1], .null),
  (16, .iaload, [], .null),
  (17, .ifCond .ne 8, [25], .null),
  (20, .bipush (-11), [], .int (-11)),
  (22, .goto 19, [41], .null),
  (25, .aload_n 0, [0], .null),
  (26, .getfield 31, [908, 11, 12, 0], .null),
  (29, .iload_n 1, [1], .null),
  (30, .iaload, [], .null),
  (31, .iconst 2, [], .int 2),
  (32, .if_icmp .ne 8, [40], .null),
  (35, .bipush (-12), [], .int (-12)),
  (37, .goto 4, [41], .null),
  (40, .iconst 0, [], .int 0),
  (41, .ireturn, [], .null)]
def mm_c_X11_keep : List mm_En := [
  (0, .iload_n 1, [1], .null),
  (1, .invokestatic 228, [0, 962, 1, 196], .null),
  (4, .ifCond .eq 38, [42], .null),
  (7, .iload_n 2, [2], .null),
  (8, .iconst 0, [], .int 0),
  (9, .iconst 1, [], .int 1),
  (10, .invokestatic 49, [0, 965, 3, 121], .null),
  (13, .ifCond .eq 29, [42], .null),
  (16, .iload_n 2, [2], .null),
  (17, .iconst 1, [], .int 1),
  (18, .if_icmp .ne 26, [44], .null),
  (21, .iload_n 3, [3], .null),
  (22, .iconst 0, [], .int 0),
  (23, .bipush 7, [], .int 7),
  (25, .invokestatic 49, [0, 965, 3, 121], .null),
  (28, .ifCond .eq 14, [42], .null),
  (31, .iload 4, [4], .null),
  (33, .iconst 0, [], .int 0),
  (34, .bipush 9, [], .int 9),
  (36, .invokestatic 49, [0, 965, 3, 121], .null),
  (39, .ifCond .ne 5, [44], .null),
  (42, .iconst (-1), [], .int (-1)),
  (43, .ireturn, [], .null),
  (44, .aload_n 0, [0], .null),
  (45, .getfield 31, [908, 11, 12, 0], .null),
  (48, .iload_n 1, [1], .null),
  (49, .iload_n 2, [2], .null),
  (50, .iastore, [], .null),
  (51, .aload_n 0, [0], .null),
  (52, .getfield 34, [909, 11, 13, 0], .null),
  (55, .iload_n 1, [1], .null),
  (56, .iload_n 3, [3], .null),
  (57, .iastore, [], .null),
  (58, .aload_n 0, [0], .null),
  (59, .getfield 37, [910, 11, 14, 0], .null),
  (62, .iload_n 1, [1], .null),
  (63, .iload 4, [4], .null),
  (65, .iastore, [], .null),
  (66, .iconst 0, [], .int 0),
  (67, .ireturn, [], .null)]
def mm_c_X11_row : List mm_En := [
  (0, .iload_n 1, [1], .null),
  (1, .invokestatic 228, [0, 962, 1, 196], .null),
  (4, .ifCond .eq 18, [22], .null),
  (7, .iload_n 2, [2], .null),
  (8, .iconst 0, [], .int 0),
  (9, .iconst 2, [], .int 2),
  (10, .invokestatic 49, [0, 965, 3, 121], .null),
  (13, .ifCond .eq 9, [22], .null),
  (16, .iload_n 3, [3], .null),
  (17, .bipush 100, [], .int 100),
  (19, .if_icmp .le 5, [24], .null),
  (22, .iconst (-1), [], .int (-1)),
  (23, .ireturn, [], .null),
  (24, .iload_n 3, [3], .null),
  (25, .ifCond .ge 6, [31], .null),
  (28, .bipush (-14), [], .int (-14)),
  (30, .ireturn, [], .null),
  (31, .aload_n 0, [0], .null),
  (32, .getfield 31, [908, 11, 12, 0], .null),
  (35, .iload_n 1, [1], .null),
  (36, .iconst 2, [], .int 2),
  (37, .iastore, [], .null),
  (38, .aload_n 0, [0], .null),
  (39, .getfield 40, [911, 11, 15, 0], .null),
  (42, .iload_n 1, [1], .null),
  (43, .iload_n 2, [2], .null),
  (44, .iastore, [], .null),
  (45, .aload_n 0, [0], .null),
  (46, .getfield 43, [912, 11, 16, 0], .null),
  (49, .iload_n 1, [1], .null),
  (50, .iload_n 3, [3], .null),
  (51, .iastore, [], .null),
  (52, .iconst 0, [], .int 0),
  (53, .istore 4, [4], .null),
  (55, .iload 4, [4], .null),
  (57, .bipush 100, [], .int 100),
  (59, .if_icmp .ge 22, [81], .null),
  (62, .aload_n 0, [0], .null),
  (63, .getfield 46, [913, 11, 17, 0], .null),
  (66, .bipush 100, [], .int 100),
  (68, .iload_n 1, [1], .null),
  (69, .imul, [], .null),
  (70, .iload 4, [4], .null),
  (72, .iadd, [], .null),
  (73, .iconst 0, [], .int 0),
  (74, .iastore, [], .null),
  (75, .iinc 4 1, [4], .int 1),
  (78, .goto (-23), [55], .null),
  (81, .iconst 0, [], .int 0),
  (82, .ireturn, [], .null)]
def mm_c_X11_put : List mm_En := [
  (0, .aload_n 0, [0], .null),
  (1, .iload_n 1, [1], .null),
  (2, .iconst (-1), [], .int (-1)),
  (3, .invokevirtual 129, [2, 958, 3, 197, 20, 11], .null),
  (6, .istore 4, [4], .null),
  (8, .iload 4, [4], .null),
  (10, .ifCond .eq 6, [16], .null),
  (13, .iload 4, [4], .null),
  (15, .ireturn, [], .null),
  (16, .iload_n 2, [2], .null),
  (17, .iconst 0, [], .int 0),
  (18, .aload_n 0, [0], .null),
  (19, .getfield 43, [912, 11, 16, 0], .null),
  (22, .iload_n 1, [1], .null),
  (23, .iaload, [], .null),
  (24, .iconst 1, [], .int 1),
  (25, .isub, [], .null),
  (26, .invokestatic 49, [0, 965, 3, 121], .null),
  (29, .ifCond .ne 6, [35], .null),
  (32, .bipush (-13), [], .int (-13)),
  (34, .ireturn, [], .null),
  (35, .aload_n 0, [0], .null),
  (36, .getfield 46, [913, 11, 17, 0], .null),
  (39, .bipush 100, [], .int 100),
  (41, .iload_n 1, [1], .null),
  (42, .imul, [], .null),
  (43, .iload_n 2, [2], .null),
  (44, .iadd, [], .null),
  (45, .aload_n 0, [0], .null),
  (46, .getfield 40, [911, 11, 15, 0], .null),
  (49, .iload_n 1, [1], .null),
  (50, .iaload, [], .null),
  (51, .ifCond .ne 8, [59], .null),
  (54, .iload_n 3, [3], .null),
  (55, .i2b, [], .null),
  (56, .goto 19, [75], .null),
  (59, .aload_n 0, [0], .null),
  (60, .getfield 40, [911, 11, 15, 0], .null),
  (63, .iload_n 1, [1], .null),
  (64, .iaload, [], .null),
  (65, .iconst 1, [], .int 1),
  (66, .if_icmp .ne 8, [74], .null),
  (69, .iload_n 3, [3], .null),
  (70, .i2s, [], .null),
  (71, .goto 4, [75], .null),
  (74, .iload_n 3, [3], .null),
  (75, .iastore, [], .null),
  (76, .iconst 0, [], .int 0),
  (77, .ireturn, [], .null)]
def mm_c_X11_element : List mm_En := [
  (0, .aload_n 0, [0], .null),
  (1, .iload_n 1, [1], .null),
  (2, .invokestatic 228, [0, 962, 1, 196], .null),
  (5, .ifCond .ne 7, [12], .null),
  (8, .iconst 1, [], .int 1),
  (9, .goto 34, [43], .null),
  (12, .aload_n 0, [0], .null),
  (13, .getfield 31, [908, 11, 12, 0], .null),
  (16, .iload_n 1, [1], .null),
  (17, .iaload, [], .null),
  (18, .iconst 2, [], .int 2),
  (19, .if_icmp .ne 19, [38], .null),
  (22, .iload_n 2, [2], .null),
  (23, .iconst 0, [], .int 0),
  (24, .aload_n 0, [0], .null),
  (25, .getfield 43, [912, 11, 16, 0], .null),
  (28, .iload_n 1, [1], .null),
  (29, .iaload, [], .null),
  (30, .iconst 1, [], .int 1),
  (31, .isub, [], .null),
  (32, .invokestatic 49, [0, 965, 3, 121], .null),
  (35, .ifCond .ne 7, [42], .null),
  (38, .iconst 2, [], .int 2),
  (39, .goto 4, [43], .null),
  (42, .iconst 0, [], .int 0),
  (43, .putfield 225, [914, 11, 18, 0], .null),
  (46, .aload_n 0, [0], .null),
  (47, .getfield 225, [914, 11, 18, 0], .null),
  (50, .ifCond .ne 18, [68], .null),
  (53, .aload_n 0, [0], .null),
  (54, .getfield 46, [913, 11, 17, 0], .null),
  (57, .bipush 100, [], .int 100),
  (59, .iload_n 1, [1], .null),
  (60, .imul, [], .null),
  (61, .iload_n 2, [2], .null),
  (62, .iadd, [], .null),
  (63, .iaload, [], .null),
  (64, .i2l, [], .null),
  (65, .goto 4, [69], .null),
  (68, .lconst 0, [], .long 0),
  (69, .lreturn, [], .null)]
def mm_c_X11_copy : List mm_En := [
  (0, .iload_n 1, [1], .null),
  (1, .invokestatic 228, [0, 962, 1, 196], .null),
  (4, .ifCond .eq 10, [14], .null),
  (7, .iload_n 3, [3], .null),
  (8, .invokestatic 228, [0, 962, 1, 196], .null),
  (11, .ifCond .ne 5, [16], .null),
  (14, .iconst (-1), [], .int (-1)),
  (15, .ireturn, [], .null),
  (16, .aload_n 0, [0], .null),
  (17, .getfield 31, [908, 11, 12, 0], .null),
  (20, .iload_n 1, [1], .null),
  (21, .iaload, [], .null),
  (22, .ifCond .eq 12, [34], .null),
  (25, .aload_n 0, [0], .null),
  (26, .getfield 31, [908, 11, 12, 0], .null),
  (29, .iload_n 3, [3], .null),
  (30, .iaload, [], .null),
  (31, .ifCond .ne 6, [37], .null),
  (34, .bipush (-11), [], .int (-11)),
  (36, .ireturn, [], .null),
  (37, .aload_n 0, [0], .null),
  (38, .getfield 31, [908, 11, 12, 0], .null),
  (41, .iload_n 1, [1], .null),
  (42, .iaload, [], .null),
  (43, .iconst 2, [], .int 2),
  (44, .if_icmp .ne 28, [72], .null),
  (47, .aload_n 0, [0], .null),
  (48, .getfield 31, [908, 11, 12, 0], .null),
  (51, .iload_n 3, [3], .null),
  (52, .iaload, [], .null),
  (53, .iconst 2, [], .int 2),
  (54, .if_icmp .ne 18, [72], .null),
  (57, .aload_n 0, [0], .null),
  (58, .getfield 40, [911, 11, 15, 0], .null),
  (61, .iload_n 1, [1], .null),
  (62, .iaload, [], .null),
  (63, .aload_n 0, [0], .null),
  (64, .getfield 40, [911, 11, 15, 0], .null),
  (67, .iload_n 3, [3], .null),
  (68, .iaload, [], .null),
  (69, .if_icmp .eq 6, [75], .null),
  (72, .bipush (-12), [], .int (-12)),
  (74, .ireturn, [], .null),
  (75, .iload 5, [5], .null),
  (77, .ifCond .lt 39, [116], .null),
  (80, .iload_n 2, [2], .null),
  (81, .ifCond .lt 35, [116], .null),
  (84, .iload 4, [4], .null),
  (86, .ifCond .lt 30, [116], .null),
  (89, .iload 5, [5], .null),
  (91, .aload_n 0, [0], .null),
  (92, .getfield 43, [912, 11, 16, 0], .null),
  (95, .iload_n 1, [1], .null),
  (96, .iaload, [], .null),
  (97, .iload_n 2, [2], .null),
  (98, .isub, [], .null),
  (99, .if_icmp .gt 17, [116], .null),
  (102, .iload 5, [5], .null),
  (104, .aload_n 0, [0], .null),
  (105, .getfield 43, [912, 11, 16, 0], .null),
  (108, .iload_n 3, [3], .null),
  (109, .iaload, [], .null),
  (110, .iload 4, [4], .null),
  (112, .isub, [], .null),
  (113, .if_icmp .le 6, [119], .null),
  (116, .bipush (-13), [], .int (-13)),
  (118, .ireturn, [], .null),
  (119, .iconst 0, [], .int 0),
  (120, .istore 6, [6], .null),
  (122, .iload 6, [6], .null),
  (124, .iload 5, [5], .null),
  (126, .if_icmp .ge 58, [184], .null),
  (129, .iload_n 2, [2], .null),
  (130, .iload 4, [4], .null),
  (132, .if_icmp .le 8, [140], .null),
  (135, .iload 6, [6], .null),
  (137, .goto 10, [147], .null),
  (140, .iload 5, [5], .null),
  (142, .iconst 1, [], .int 1),
  (143, .isub, [], .null),
  (144, .iload 6, [6], .null),
  (146, .isub, [], .null),
  (147, .istore 7, [7], .null),
  (149, .aload_n 0, [0], .null),
  (150, .getfield 46, [913, 11, 17, 0], .null),
  (153, .bipush 100, [], .int 100),
  (155, .iload_n 3, [3], .null),
  (156, .imul, [], .null),
  (157, .iload 4, [4], .null),
  (159, .iadd, [], .null),
  (160, .iload 7, [7], .null),
  (162, .iadd, [], .null),
  (163, .aload_n 0, [0], .null),
  (164, .getfield 46, [913, 11, 17, 0], .null),
  (167, .bipush 100, [], .int 100),
  (169, .iload_n 1, [1], .null),
  (170, .imul, [], .null),
  (171, .iload_n 2, [2], .null),
  (172, .iadd, [], .null),
  (173, .iload 7, [7], .null),
  (175, .iadd, [], .null),
  (176, .iaload, [], .null),
  (177, .iastore, [], .null),
  (178, .iinc 6 1, [6], .int 1),
  (181, .goto (-59), [122], .null),
  (184, .iload 5, [5], .null),
  (186, .ireturn, [], .null)]
def mm_c_X11_costBy : List mm_En := [
  (0, .iload_n 0, [0], .null),
  (1, .tableswitch 67 1 7 #[43, 45, 49, 51, 43, 57, 65], [43, 1, 68, 44, 46, 50, 52, 44, 58, 66], .null),
  (44, .iconst 4, [], .int 4),
  (45, .ireturn, [], .null),
  (46, .iconst 3, [], .int 3),
  (47, .iload_n 1, [1], .null),
  (48, .iadd, [], .null),
  (49, .ireturn, [], .null),
  (50, .iconst 2, [], .int 2),
  (51, .ireturn, [], .null),
  (52, .iconst 2, [], .int 2),
  (53, .iconst 3, [], .int 3),
  (54, .iload_n 1, [1], .null),
  (55, .iadd, [], .null),
  (56, .imul, [], .null),
  (57, .ireturn, [], .null),
  (58, .iconst 2, [], .int 2),
  (59, .iconst 3, [], .int 3),
  (60, .iload_n 1, [1], .null),
  (61, .iadd, [], .null),
  (62, .imul, [], .null),
  (63, .iconst 5, [], .int 5),
  (64, .isub, [], .null),
  (65, .ireturn, [], .null),
  (66, .iconst 1, [], .int 1),
  (67, .ireturn, [], .null),
  (68, .iconst 3, [], .int 3),
  (69, .ireturn, [], .null)]
def mm_c_X11_cost : List mm_En := [
  (0, .aload_n 0, [0], .null),
  (1, .iload_n 1, [1], .null),
  (2, .invokevirtual 150, [2, 1063, 2, 198, 32, 11], .null),
  (5, .istore_n 2, [2], .null),
  (6, .iload_n 2, [2], .null),
  (7, .ifCond .eq 7, [14], .null),
  (10, .iload_n 2, [2], .null),
  (11, .goto 18, [29], .null),
  (14, .aload_n 0, [0], .null),
  (15, .getfield 34, [909, 11, 13, 0], .null),
  (18, .iload_n 1, [1], .null),
  (19, .iaload, [], .null),
  (20, .aload_n 0, [0], .null),
  (21, .getfield 37, [910, 11, 14, 0], .null),
  (24, .iload_n 1, [1], .null),
  (25, .iaload, [], .null),
  (26, .invokestatic 231, [0, 1275, 2, 204], .null),
  (29, .ireturn, [], .null)]
def mm_c_X11_toss : List mm_En := [
  (0, .aload_n 0, [0], .null),
  (1, .iload_n 1, [1], .null),
  (2, .invokevirtual 150, [2, 1063, 2, 198, 32, 11], .null),
  (5, .istore_n 2, [2], .null),
  (6, .iload_n 2, [2], .null),
  (7, .ifCond .eq 5, [12], .null),
  (10, .iload_n 2, [2], .null),
  (11, .ireturn, [], .null),
  (12, .aload_n 0, [0], .null),
  (13, .getfield 34, [909, 11, 13, 0], .null),
  (16, .iload_n 1, [1], .null),
  (17, .iaload, [], .null),
  (18, .istore_n 3, [3], .null),
  (19, .aload_n 0, [0], .null),
  (20, .getfield 37, [910, 11, 14, 0], .null),
  (23, .iload_n 1, [1], .null),
  (24, .iaload, [], .null),
  (25, .istore 4, [4], .null),
  (27, .iload_n 3, [3], .null),
  (28, .iconst 3, [], .int 3),
  (29, .if_icmp .eq 14, [43], .null),
  (32, .iload_n 3, [3], .null),
  (33, .bipush 7, [], .int 7),
  (35, .if_icmp .eq 8, [43], .null),
  (38, .iload 4, [4], .null),
  (40, .ifCond .ne 6, [46], .null),
  (43, .bipush (-15), [], .int (-15)),
  (45, .ireturn, [], .null),
  (46, .iload_n 3, [3], .null),
  (47, .bipush 6, [], .int 6),
  (49, .if_icmp .ne 16, [65], .null),
  (52, .sipush 200, [], .int 200),
  (55, .iload_n 3, [3], .null),
  (56, .iload 4, [4], .null),
  (58, .invokestatic 231, [0, 1275, 2, 204], .null),
  (61, .iadd, [], .null),
  (62, .goto 23, [85], .null),
  (65, .iload_n 3, [3], .null),
  (66, .iconst 2, [], .int 2),
  (67, .if_icmp .eq 8, [75], .null),
  (70, .iload_n 3, [3], .null),
  (71, .iconst 4, [], .int 4),
  (72, .if_icmp .ne 11, [83], .null),
  (75, .bipush 100, [], .int 100),
  (77, .iload 4, [4], .null),
  (79, .iadd, [], .null),
  (80, .goto 5, [85], .null),
  (83, .iload 4, [4], .null),
  (85, .ireturn, [], .null)]
def mm_c_J6_bitCount_0f7a4 : List mm_En := [
  (0, .iload_n 0, [0], .null),
  (1, .iload_n 0, [0], .null),
  (2, .iconst 1, [], .int 1),
  (3, .iushr, [], .null),
  (4, .ldc_w 265, [554], .int 1431655765),
  (7, .iand, [], .null),
  (8, .isub, [], .null),
  (9, .istore_n 0, [0], .null),
  (10, .iload_n 0, [0], .null),
  (11, .ldc_w 266, [555], .int 858993459),
  (14, .iand, [], .null),
  (15, .iload_n 0, [0], .null),
  (16, .iconst 2, [], .int 2),
  (17, .iushr, [], .null),
  (18, .ldc_w 266, [555], .int 858993459),
  (21, .iand, [], .null),
  (22, .iadd, [], .null),
  (23, .istore_n 0, [0], .null),
  (24, .iload_n 0, [0], .null),
  (25, .iload_n 0, [0], .null),
  (26, .iconst 4, [], .int 4),
  (27, .iushr, [], .null),
  (28, .iadd, [], .null),
  (29, .ldc_w 267, [556], .int 252645135),
  (32, .iand, [], .null),
  (33, .istore_n 0, [0], .null),
  (34, .iload_n 0, [0], .null),
  (35, .iload_n 0, [0], .null),
  (36, .bipush 8, [], .int 8),
  (38, .iushr, [], .null),
  (39, .iadd, [], .null),
  (40, .istore_n 0, [0], .null),
  (41, .iload_n 0, [0], .null),
  (42, .iload_n 0, [0], .null),
  (43, .bipush 16, [], .int 16),
  (45, .iushr, [], .null),
  (46, .iadd, [], .null),
  (47, .istore_n 0, [0], .null),
  (48, .iload_n 0, [0], .null),
  (49, .bipush 63, [], .int 63),
  (51, .iand, [], .null),
  (52, .ireturn, [], .null)]
def mm_c_J7_fill_53178 : List mm_En := [
  (0, .iconst 0, [], .int 0),
  (1, .istore_n 2, [2], .null),
  (2, .aload_n 0, [0], .null),
  (3, .arraylength, [], .null),
  (4, .istore_n 3, [3], .null),
  (5, .iload_n 2, [2], .null),
  (6, .iload_n 3, [3], .null),
  (7, .if_icmp .ge 13, [20], .null),
  (10, .aload_n 0, [0], .null),
  (11, .iload_n 2, [2], .null),
  (12, .iload_n 1, [1], .null),
  (13, .iastore, [], .null),
  (14, .iinc 2 1, [2], .int 1),
  (17, .goto (-12), [5], .null),
  (20, .return_, [], .null)]
abbrev mm_m_X0_cupsOn : mm_Me := (yX0_cupsOn, prog_2_method_2_code, 3, (some (Jvm.ClassFile.FieldType.int)), 1, mm_c_X0_cupsOn, [355, 47, 354, 0, 2])
abbrev mm_m_X0_tiringFor : mm_Me := (yX0_tiringFor, prog_2_method_3_code, 3, (some (Jvm.ClassFile.FieldType.int)), 1, mm_c_X0_tiringFor, [389, 47, 388, 0, 2])
abbrev mm_m_X0_debtFor : mm_Me := (yX0_debtFor, prog_2_method_4_code, 3, (some (Jvm.ClassFile.FieldType.int)), 1, mm_c_X0_debtFor, [416, 47, 415, 0, 2])
abbrev mm_m_X0_priceOf : mm_Me := (yX0_priceOf, prog_2_method_5_code, 2, (some (Jvm.ClassFile.FieldType.int)), 1, mm_c_X0_priceOf, [736, 47, 735, 0, 1])
abbrev mm_m_X0_failureOf : mm_Me := (yX0_failureOf, prog_2_method_6_code, 2, (some (Jvm.ClassFile.FieldType.int)), 1, mm_c_X0_failureOf, [851, 47, 850, 0, 1])
abbrev mm_m_X1_becomeLike : mm_Me := (yX1_becomeLike, prog_3_method_2_code, 2, none, 1, mm_c_X1_becomeLike, [287, 53, 285, 0, 1])
abbrev mm_m_X1_has : mm_Me := (yX1_has, prog_3_method_3_code, 2, (some (Jvm.ClassFile.FieldType.boolean)), 0, mm_c_X1_has, [317, 53, 315, 0, 1])
abbrev mm_m_X1_isAwake : mm_Me := (yX1_isAwake, prog_3_method_4_code, 2, (some (Jvm.ClassFile.FieldType.boolean)), 1, mm_c_X1_isAwake, [338, 53, 336, 0, 1])
abbrev mm_m_X1_joins : mm_Me := (yX1_joins, prog_3_method_5_code, 4, (some (Jvm.ClassFile.FieldType.boolean)), 0, mm_c_X1_joins, [313, 53, 311, 0, 3])
abbrev mm_m_X1_thirstOf : mm_Me := (yX1_thirstOf, prog_3_method_6_code, 3, (some (Jvm.ClassFile.FieldType.int)), 4, mm_c_X1_thirstOf, [444, 53, 442, 0, 2])
abbrev mm_m_X1_thirstOfAll : mm_Me := (yX1_thirstOfAll, prog_3_method_7_code, 4, (some (Jvm.ClassFile.FieldType.int)), 5, mm_c_X1_thirstOfAll, [568, 53, 566, 0, 1])
abbrev mm_m_X1_goDays : mm_Me := (yX1_goDays, prog_3_method_8_code, 4, none, 5, mm_c_X1_goDays, [330, 53, 328, 0, 1])
abbrev mm_m_X1_restSleepers : mm_Me := (yX1_restSleepers, prog_3_method_9_code, 2, none, 2, mm_c_X1_restSleepers, [334, 53, 333, 0, 0])
abbrev mm_m_X1_pour : mm_Me := (yX1_pour, prog_3_method_10_code, 6, none, 4, mm_c_X1_pour, [345, 53, 344, 0, 1])
abbrev mm_m_X1_endDay : mm_Me := (yX1_endDay, prog_3_method_11_code, 2, none, 2, mm_c_X1_endDay, [435, 53, 434, 0, 0])
abbrev mm_m_X1_obeys : mm_Me := (yX1_obeys, prog_3_method_12_code, 8, (some (Jvm.ClassFile.FieldType.boolean)), 6, mm_c_X1_obeys, [297, 53, 295, 0, 2])
abbrev mm_m_X1_turnsOver : mm_Me := (yX1_turnsOver, prog_3_method_13_code, 2, (some (Jvm.ClassFile.FieldType.boolean)), 1, mm_c_X1_turnsOver, [324, 53, 323, 0, 1])
abbrev mm_m_X1_setIn : mm_Me := (yX1_setIn, prog_3_method_14_code, 3, (some (Jvm.ClassFile.FieldType.boolean)), 0, mm_c_X1_setIn, [320, 53, 319, 1, 3])
abbrev mm_m_X1_owedInAll : mm_Me := (yX1_owedInAll, prog_3_method_15_code, 3, (some (Jvm.ClassFile.FieldType.int)), 0, mm_c_X1_owedInAll, [485, 53, 483, 0, 0])
abbrev mm_m_X1_tiredInAll : mm_Me := (yX1_tiredInAll, prog_3_method_16_code, 3, (some (Jvm.ClassFile.FieldType.int)), 0, mm_c_X1_tiredInAll, [657, 53, 655, 0, 0])
abbrev mm_m_X1_drinkersOf : mm_Me := (yX1_drinkersOf, prog_3_method_17_code, 4, (some (Jvm.ClassFile.FieldType.int)), 0, mm_c_X1_drinkersOf, [453, 53, 451, 0, 1])
abbrev mm_m_X1_heaviestWaker : mm_Me := (yX1_heaviestWaker, prog_3_method_18_code, 3, (some (Jvm.ClassFile.FieldType.int)), 1, mm_c_X1_heaviestWaker, [577, 53, 575, 0, 0])
abbrev mm_m_X1_deepestDrinker : mm_Me := (yX1_deepestDrinker, prog_3_method_19_code, 4, (some (Jvm.ClassFile.FieldType.int)), 0, mm_c_X1_deepestDrinker, [582, 53, 580, 0, 0])
abbrev mm_m_X1_aloneBits : mm_Me := (yX1_aloneBits, prog_3_method_20_code, 3, (some (Jvm.ClassFile.FieldType.int)), 2, mm_c_X1_aloneBits, [586, 53, 584, 0, 0])
abbrev mm_m_X2_cupsOn : mm_Me := (yX2_cupsOn, prog_4_method_2_code, 3, (some (Jvm.ClassFile.FieldType.int)), 2, mm_c_X2_cupsOn, [359, 49, 358, 0, 2])
abbrev mm_m_X2_priceOf : mm_Me := (yX2_priceOf, prog_4_method_3_code, 2, (some (Jvm.ClassFile.FieldType.int)), 2, mm_c_X2_priceOf, [740, 49, 739, 0, 1])
abbrev mm_m_X3_cupsOn : mm_Me := (yX3_cupsOn, prog_5_method_2_code, 3, (some (Jvm.ClassFile.FieldType.int)), 1, mm_c_X3_cupsOn, [363, 46, 362, 0, 2])
abbrev mm_m_X3_tiringFor : mm_Me := (yX3_tiringFor, prog_5_method_3_code, 3, (some (Jvm.ClassFile.FieldType.int)), 0, mm_c_X3_tiringFor, [394, 46, 393, 0, 2])
abbrev mm_m_X3_priceOf : mm_Me := (yX3_priceOf, prog_5_method_4_code, 2, (some (Jvm.ClassFile.FieldType.int)), 1, mm_c_X3_priceOf, [744, 46, 743, 0, 1])
abbrev mm_m_X4_cupsOn : mm_Me := (yX4_cupsOn, prog_6_method_2_code, 3, (some (Jvm.ClassFile.FieldType.int)), 0, mm_c_X4_cupsOn, [379, 45, 350, 0, 2])
abbrev mm_m_X4_tiringFor : mm_Me := (yX4_tiringFor, prog_6_method_3_code, 3, (some (Jvm.ClassFile.FieldType.int)), 0, mm_c_X4_tiringFor, [409, 45, 384, 0, 2])
abbrev mm_m_X4_debtFor : mm_Me := (yX4_debtFor, prog_6_method_4_code, 3, (some (Jvm.ClassFile.FieldType.int)), 0, mm_c_X4_debtFor, [431, 45, 411, 0, 2])
abbrev mm_m_X4_priceOf : mm_Me := (yX4_priceOf, prog_6_method_5_code, 2, (some (Jvm.ClassFile.FieldType.int)), 0, mm_c_X4_priceOf, [758, 45, 731, 0, 1])
abbrev mm_m_X4_failureOf : mm_Me := (yX4_failureOf, prog_6_method_7_code, 2, (some (Jvm.ClassFile.FieldType.int)), 0, mm_c_X4_failureOf, [862, 45, 846, 0, 1])
abbrev mm_m_X5_cupsOn : mm_Me := (yX5_cupsOn, prog_7_method_2_code, 3, (some (Jvm.ClassFile.FieldType.int)), 2, mm_c_X5_cupsOn, [367, 50, 366, 0, 2])
abbrev mm_m_X5_tiringFor : mm_Me := (yX5_tiringFor, prog_7_method_3_code, 3, (some (Jvm.ClassFile.FieldType.int)), 1, mm_c_X5_tiringFor, [397, 50, 396, 0, 2])
abbrev mm_m_X6_cupsOn : mm_Me := (yX6_cupsOn, prog_8_method_2_code, 3, (some (Jvm.ClassFile.FieldType.int)), 0, mm_c_X6_cupsOn, [371, 48, 370, 0, 2])
abbrev mm_m_X6_tiringFor : mm_Me := (yX6_tiringFor, prog_8_method_3_code, 3, (some (Jvm.ClassFile.FieldType.int)), 0, mm_c_X6_tiringFor, [402, 48, 401, 0, 2])
abbrev mm_m_X6_priceOf : mm_Me := (yX6_priceOf, prog_8_method_4_code, 2, (some (Jvm.ClassFile.FieldType.int)), 0, mm_c_X6_priceOf, [749, 48, 748, 0, 1])
abbrev mm_m_X7_cupsOn : mm_Me := (yX7_cupsOn, prog_9_method_2_code, 3, (some (Jvm.ClassFile.FieldType.int)), 0, mm_c_X7_cupsOn, [374, 52, 373, 0, 2])
abbrev mm_m_X7_tiringFor : mm_Me := (yX7_tiringFor, prog_9_method_3_code, 3, (some (Jvm.ClassFile.FieldType.int)), 0, mm_c_X7_tiringFor, [405, 52, 404, 0, 2])
abbrev mm_m_X7_debtFor : mm_Me := (yX7_debtFor, prog_9_method_4_code, 3, (some (Jvm.ClassFile.FieldType.int)), 0, mm_c_X7_debtFor, [424, 52, 423, 0, 2])
abbrev mm_m_X7_priceOf : mm_Me := (yX7_priceOf, prog_9_method_5_code, 2, (some (Jvm.ClassFile.FieldType.int)), 1, mm_c_X7_priceOf, [752, 52, 751, 0, 1])
abbrev mm_m_X8_becomeRow : mm_Me := (yX8_becomeRow, prog_10_method_2_code, 3, none, 1, mm_c_X8_becomeRow, [703, 54, 701, 0, 2])
abbrev mm_m_X8_hasPlace : mm_Me := (yX8_hasPlace, prog_10_method_3_code, 2, (some (Jvm.ClassFile.FieldType.boolean)), 0, mm_c_X8_hasPlace, [274, 54, 272, 0, 1])
abbrev mm_m_X8_hasPlaces : mm_Me := (yX8_hasPlaces, prog_10_method_4_code, 3, (some (Jvm.ClassFile.FieldType.boolean)), 0, mm_c_X8_hasPlaces, [723, 54, 721, 0, 2])
abbrev mm_m_X8_at : mm_Me := (yX8_at, prog_10_method_5_code, 2, (some (Jvm.ClassFile.FieldType.int)), 1, mm_c_X8_at, [270, 54, 268, 0, 1])
abbrev mm_m_X8_setAt : mm_Me := (yX8_setAt, prog_10_method_6_code, 3, none, 1, mm_c_X8_setAt, [715, 54, 713, 0, 2])
abbrev mm_m_X8_numberAt : mm_Me := (yX8_numberAt, prog_10_method_7_code, 5, (some (Jvm.ClassFile.FieldType.int)), 2, mm_c_X8_numberAt, [301, 54, 299, 0, 2])
abbrev mm_m_X8_leastOfSort : mm_Me := (yX8_leastOfSort, prog_10_method_8_code, 1, (some (Jvm.ClassFile.FieldType.int)), 0, mm_c_X8_leastOfSort, [610, 54, 609, 0, 0])
abbrev mm_m_X8_allows : mm_Me := (yX8_allows, prog_10_method_9_code, 3, (some (Jvm.ClassFile.FieldType.boolean)), 2, mm_c_X8_allows, [606, 54, 604, 0, 2])
abbrev mm_m_X9_cupsOn : mm_Me := (yX9_cupsOn, prog_11_method_2_code, 3, (some (Jvm.ClassFile.FieldType.int)), 3, mm_c_X9_cupsOn, [377, 51, 376, 0, 2])
abbrev mm_m_X9_tiringFor : mm_Me := (yX9_tiringFor, prog_11_method_3_code, 3, (some (Jvm.ClassFile.FieldType.int)), 0, mm_c_X9_tiringFor, [408, 51, 407, 0, 2])
abbrev mm_m_X9_debtFor : mm_Me := (yX9_debtFor, prog_11_method_4_code, 3, (some (Jvm.ClassFile.FieldType.int)), 2, mm_c_X9_debtFor, [427, 51, 426, 0, 2])
abbrev mm_m_X9_priceOf : mm_Me := (yX9_priceOf, prog_11_method_5_code, 2, (some (Jvm.ClassFile.FieldType.int)), 3, mm_c_X9_priceOf, [756, 51, 755, 0, 1])
abbrev mm_m_X9_failureOf : mm_Me := (yX9_failureOf, prog_11_method_6_code, 2, (some (Jvm.ClassFile.FieldType.int)), 4, mm_c_X9_failureOf, [860, 51, 859, 0, 1])
abbrev mm_m_X10_treaty : mm_Me := (yX10_treaty, prog_1_method_2_code, 7, (some (Jvm.ClassFile.FieldType.int)), 7, mm_c_X10_treaty, [256, 44, 254, 0, 1])
abbrev mm_m_X10_drinker : mm_Me := (yX10_drinker, prog_1_method_3_code, 3, (some (Jvm.ClassFile.FieldType.int)), 5, mm_c_X10_drinker, [439, 44, 437, 0, 2])
abbrev mm_m_X10_waker : mm_Me := (yX10_waker, prog_1_method_4_code, 3, (some (Jvm.ClassFile.FieldType.int)), 2, mm_c_X10_waker, [448, 44, 446, 0, 2])
abbrev mm_m_X10_comes : mm_Me := (yX10_comes, prog_1_method_5_code, 4, (some (Jvm.ClassFile.FieldType.int)), 2, mm_c_X10_comes, [457, 44, 455, 0, 2])
abbrev mm_m_X10_wakes : mm_Me := (yX10_wakes, prog_1_method_6_code, 4, (some (Jvm.ClassFile.FieldType.int)), 2, mm_c_X10_wakes, [463, 44, 461, 0, 2])
abbrev mm_m_X10_tires : mm_Me := (yX10_tires, prog_1_method_7_code, 4, (some (Jvm.ClassFile.FieldType.int)), 1, mm_c_X10_tires, [467, 44, 465, 0, 2])
abbrev mm_m_X10_sleeps : mm_Me := (yX10_sleeps, prog_1_method_8_code, 2, (some (Jvm.ClassFile.FieldType.int)), 2, mm_c_X10_sleeps, [471, 44, 469, 0, 1])
abbrev mm_m_X10_bags : mm_Me := (yX10_bags, prog_1_method_9_code, 3, (some (Jvm.ClassFile.FieldType.int)), 1, mm_c_X10_bags, [476, 44, 474, 0, 1])
abbrev mm_m_X10_days : mm_Me := (yX10_days, prog_1_method_10_code, 2, (some (Jvm.ClassFile.FieldType.int)), 6, mm_c_X10_days, [480, 44, 478, 0, 1])
abbrev mm_m_X10_owesThen : mm_Me := (yX10_owesThen, prog_1_method_11_code, 3, (some (Jvm.ClassFile.FieldType.int)), 7, mm_c_X10_owesThen, [489, 44, 487, 0, 2])
abbrev mm_m_X10_tiredThen : mm_Me := (yX10_tiredThen, prog_1_method_12_code, 3, (some (Jvm.ClassFile.FieldType.int)), 7, mm_c_X10_tiredThen, [497, 44, 495, 0, 2])
abbrev mm_m_X10_then : mm_Me := (yX10_then, prog_1_method_13_code, 3, (some (Jvm.ClassFile.FieldType.int)), 7, mm_c_X10_then, [501, 44, 499, 0, 2])
abbrev mm_m_X10_firstAsleep : mm_Me := (yX10_firstAsleep, prog_1_method_14_code, 3, (some (Jvm.ClassFile.FieldType.int)), 6, mm_c_X10_firstAsleep, [505, 44, 503, 0, 1])
abbrev mm_m_X10_out : mm_Me := (yX10_out, prog_1_method_15_code, 2, (some (Jvm.ClassFile.FieldType.int)), 6, mm_c_X10_out, [509, 44, 507, 0, 0])
abbrev mm_m_X10_bestWaker : mm_Me := (yX10_bestWaker, prog_1_method_16_code, 9, (some (Jvm.ClassFile.FieldType.int)), 7, mm_c_X10_bestWaker, [513, 44, 511, 0, 3])
abbrev mm_m_X10_match : mm_Me := (yX10_match, prog_1_method_17_code, 5, (some (Jvm.ClassFile.FieldType.int)), 6, mm_c_X10_match, [521, 44, 519, 0, 1])
abbrev mm_m_X10_milk : mm_Me := (yX10_milk, prog_1_method_18_code, 6, (some (Jvm.ClassFile.FieldType.int)), 7, mm_c_X10_milk, [542, 44, 540, 0, 1])
abbrev mm_m_X10_fewest : mm_Me := (yX10_fewest, prog_1_method_19_code, 5, (some (Jvm.ClassFile.FieldType.int)), 7, mm_c_X10_fewest, [550, 44, 548, 0, 1])
abbrev mm_m_X10_store : mm_Me := (yX10_store, prog_1_method_20_code, 4, (some (Jvm.ClassFile.FieldType.int)), 6, mm_c_X10_store, [564, 44, 562, 0, 1])
abbrev mm_m_X10_heaviest : mm_Me := (yX10_heaviest, prog_1_method_21_code, 2, (some (Jvm.ClassFile.FieldType.int)), 3, mm_c_X10_heaviest, [573, 44, 571, 0, 1])
abbrev mm_m_X10_rest : mm_Me := (yX10_rest, prog_1_method_22_code, 7, (some (Jvm.ClassFile.FieldType.int)), 7, mm_c_X10_rest, [590, 44, 588, 0, 2])
abbrev mm_m_X10_whatIs : mm_Me := (yX10_whatIs, prog_1_method_23_code, 8, (some (Jvm.ClassFile.FieldType.int)), 7, mm_c_X10_whatIs, [598, 44, 596, 0, 3])
abbrev mm_m_X10_shed : mm_Me := (yX10_shed, prog_1_method_24_code, 8, (some (Jvm.ClassFile.FieldType.int)), 7, mm_c_X10_shed, [615, 44, 613, 0, 2])
abbrev mm_m_X10_two : mm_Me := (yX10_two, prog_1_method_25_code, 7, (some (Jvm.ClassFile.FieldType.int)), 6, mm_c_X10_two, [627, 44, 625, 0, 3])
abbrev mm_m_X10_falls : mm_Me := (yX10_falls, prog_1_method_26_code, 8, (some (Jvm.ClassFile.FieldType.long)), 7, mm_c_X10_falls, [635, 44, 633, 0, 4])
abbrev mm_m_X10_mean : mm_Me := (yX10_mean, prog_1_method_27_code, 2, (some (Jvm.ClassFile.FieldType.long)), 1, mm_c_X10_mean, [653, 44, 651, 0, 1])
abbrev mm_m_X10_forged : mm_Me := (yX10_forged, prog_1_method_28_code, 5, (some (Jvm.ClassFile.FieldType.int)), 2, mm_c_X10_forged, [662, 44, 660, 0, 1])
abbrev mm_m_X10_judge : mm_Me := (yX10_judge, prog_1_method_29_code, 5, (some (Jvm.ClassFile.FieldType.int)), 6, mm_c_X10_judge, [666, 44, 664, 0, 1])
abbrev mm_m_X10_years : mm_Me := (yX10_years, prog_1_method_30_code, 9, (some (Jvm.ClassFile.FieldType.int)), 6, mm_c_X10_years, [670, 44, 668, 0, 3])
abbrev mm_m_X10_image : mm_Me := (yX10_image, prog_1_method_31_code, 1, (some (Jvm.ClassFile.FieldType.int)), 2, mm_c_X10_image, [683, 44, 681, 0, 0])
abbrev mm_m_X10_restore : mm_Me := (yX10_restore, prog_1_method_32_code, 1, (some (Jvm.ClassFile.FieldType.int)), 2, mm_c_X10_restore, [687, 44, 685, 0, 0])
abbrev mm_m_X10_count : mm_Me := (yX10_count, prog_1_method_33_code, 2, (some (Jvm.ClassFile.FieldType.int)), 1, mm_c_X10_count, [691, 44, 689, 0, 1])
abbrev mm_m_X10_keep : mm_Me := (yX10_keep, prog_1_method_34_code, 5, (some (Jvm.ClassFile.FieldType.int)), 1, mm_c_X10_keep, [695, 44, 693, 0, 4])
abbrev mm_m_X10_row : mm_Me := (yX10_row, prog_1_method_35_code, 4, (some (Jvm.ClassFile.FieldType.int)), 2, mm_c_X10_row, [699, 44, 697, 0, 3])
abbrev mm_m_X10_put : mm_Me := (yX10_put, prog_1_method_36_code, 5, (some (Jvm.ClassFile.FieldType.int)), 2, mm_c_X10_put, [710, 44, 708, 0, 3])
abbrev mm_m_X10_copy : mm_Me := (yX10_copy, prog_1_method_38_code, 8, (some (Jvm.ClassFile.FieldType.int)), 1, mm_c_X10_copy, [719, 44, 717, 0, 5])
abbrev mm_m_X10_cost : mm_Me := (yX10_cost, prog_1_method_39_code, 3, (some (Jvm.ClassFile.FieldType.int)), 4, mm_c_X10_cost, [728, 44, 726, 0, 1])
abbrev mm_m_X10_isBetween : mm_Me := (yX10_isBetween, prog_1_method_41_code, 3, (some (Jvm.ClassFile.FieldType.boolean)), 0, mm_c_X10_isBetween, [283, 44, 282, 1, 3])
abbrev mm_m_X10_isWaker : mm_Me := (yX10_isWaker, prog_1_method_42_code, 1, (some (Jvm.ClassFile.FieldType.boolean)), 0, mm_c_X10_isWaker, [309, 44, 308, 1, 1])
abbrev mm_m_X10_isWakerOrNobody : mm_Me := (yX10_isWakerOrNobody, prog_1_method_43_code, 1, (some (Jvm.ClassFile.FieldType.boolean)), 1, mm_c_X10_isWakerOrNobody, [306, 44, 305, 1, 1])
abbrev mm_m_X10_isShelf : mm_Me := (yX10_isShelf, prog_1_method_44_code, 1, (some (Jvm.ClassFile.FieldType.boolean)), 0, mm_c_X10_isShelf, [263, 44, 262, 1, 1])
abbrev mm_m_X10_kindNumbered : mm_Me := (yX10_kindNumbered, prog_1_method_45_code, 2, (some ((Jvm.ClassFile.FieldType.object "BeansOnTheOtherSide$Drinker"))), 1, mm_c_X10_kindNumbered, [348, 44, 347, 1, 2])
abbrev mm_m_X10_refusalUnless : mm_Me := (yX10_refusalUnless, prog_1_method_46_code, 3, (some (Jvm.ClassFile.FieldType.int)), 1, mm_c_X10_refusalUnless, [260, 44, 259, 0, 2])
abbrev mm_m_X10_refusedLong : mm_Me := (yX10_refusedLong, prog_1_method_47_code, 1, (some (Jvm.ClassFile.FieldType.long)), 0, mm_c_X10_refusedLong, [638, 44, 637, 1, 1])
abbrev mm_m_X10_digitsBehind : mm_Me := (yX10_digitsBehind, prog_1_method_48_code, 1, (some (Jvm.ClassFile.FieldType.int)), 0, mm_c_X10_digitsBehind, [280, 44, 279, 1, 1])
abbrev mm_m_X10_isLetter : mm_Me := (yX10_isLetter, prog_1_method_49_code, 1, (some (Jvm.ClassFile.FieldType.boolean)), 1, mm_c_X10_isLetter, [277, 44, 276, 1, 1])
abbrev mm_m_X10_firstBadByte : mm_Me := (yX10_firstBadByte, prog_1_method_50_code, 5, (some (Jvm.ClassFile.FieldType.int)), 2, mm_c_X10_firstBadByte, [266, 44, 265, 1, 1])
abbrev mm_m_X10_thinkDaysOn : mm_Me := (yX10_thinkDaysOn, prog_1_method_51_code, 2, none, 6, mm_c_X10_thinkDaysOn, [493, 44, 492, 0, 1])
abbrev mm_m_X10_owedBehindWithWaker : mm_Me := (yX10_owedBehindWithWaker, prog_1_method_52_code, 4, (some (Jvm.ClassFile.FieldType.int)), 6, mm_c_X10_owedBehindWithWaker, [517, 44, 516, 0, 3])
abbrev mm_m_X10_owedBehindWithMilk : mm_Me := (yX10_owedBehindWithMilk, prog_1_method_53_code, 3, (some (Jvm.ClassFile.FieldType.int)), 6, mm_c_X10_owedBehindWithMilk, [546, 44, 545, 0, 2])
abbrev mm_m_X10_owedBehindWithout : mm_Me := (yX10_owedBehindWithout, prog_1_method_54_code, 3, (some (Jvm.ClassFile.FieldType.int)), 6, mm_c_X10_owedBehindWithout, [594, 44, 593, 0, 2])
abbrev mm_m_X10_owedBehindKeeping : mm_Me := (yX10_owedBehindKeeping, prog_1_method_55_code, 3, (some (Jvm.ClassFile.FieldType.int)), 6, mm_c_X10_owedBehindKeeping, [560, 44, 559, 0, 2])
abbrev mm_m_X10_owedBehindFalls : mm_Me := (yX10_owedBehindFalls, prog_1_method_56_code, 4, (some (Jvm.ClassFile.FieldType.int)), 6, mm_c_X10_owedBehindFalls, [643, 44, 642, 0, 2])
abbrev mm_m_X10_mindOwesAsTold : mm_Me := (yX10_mindOwesAsTold, prog_1_method_57_code, 4, (some (Jvm.ClassFile.FieldType.boolean)), 6, mm_c_X10_mindOwesAsTold, [602, 44, 601, 0, 2])
abbrev mm_m_X10_gainInMind : mm_Me := (yX10_gainInMind, prog_1_method_58_code, 2, (some (Jvm.ClassFile.FieldType.int)), 0, mm_c_X10_gainInMind, [631, 44, 630, 0, 1])
abbrev mm_m_X10_fillDrunkBehind : mm_Me := (yX10_fillDrunkBehind, prog_1_method_59_code, 3, none, 6, mm_c_X10_fillDrunkBehind, [619, 44, 618, 0, 0])
abbrev mm_m_X10_bagsGoAsTold : mm_Me := (yX10_bagsGoAsTold, prog_1_method_60_code, 4, (some (Jvm.ClassFile.FieldType.boolean)), 3, mm_c_X10_bagsGoAsTold, [623, 44, 622, 0, 2])
abbrev mm_m_X10_matchCell : mm_Me := (yX10_matchCell, prog_1_method_61_code, 2, (some (Jvm.ClassFile.FieldType.int)), 1, mm_c_X10_matchCell, [533, 44, 532, 1, 2])
abbrev mm_m_X10_mostWokenFrom : mm_Me := (yX10_mostWokenFrom, prog_1_method_62_code, 3, (some (Jvm.ClassFile.FieldType.int)), 2, mm_c_X10_mostWokenFrom, [530, 44, 529, 0, 2])
abbrev mm_m_X10_fillMostWoken : mm_Me := (yX10_fillMostWoken, prog_1_method_63_code, 6, none, 5, mm_c_X10_fillMostWoken, [525, 44, 524, 0, 0])
abbrev mm_m_X10_firstMatchOf : mm_Me := (yX10_firstMatchOf, prog_1_method_64_code, 6, (some (Jvm.ClassFile.FieldType.int)), 5, mm_c_X10_firstMatchOf, [538, 44, 537, 0, 2])
abbrev mm_m_X10_power : mm_Me := (yX10_power, prog_1_method_65_code, 6, (some (Jvm.ClassFile.FieldType.long)), 0, mm_c_X10_power, [646, 44, 645, 1, 2])
abbrev mm_m_X10_partOfFraction : mm_Me := (yX10_partOfFraction, prog_1_method_66_code, 12, (some (Jvm.ClassFile.FieldType.long)), 0, mm_c_X10_partOfFraction, [649, 44, 648, 1, 3])
abbrev mm_m_X10_nextSeed : mm_Me := (yX10_nextSeed, prog_1_method_67_code, 1, (some (Jvm.ClassFile.FieldType.int)), 0, mm_c_X10_nextSeed, [673, 44, 672, 1, 1])
abbrev mm_m_X10_drawOf : mm_Me := (yX10_drawOf, prog_1_method_68_code, 2, (some (Jvm.ClassFile.FieldType.int)), 0, mm_c_X10_drawOf, [677, 44, 676, 1, 2])
abbrev mm_m_X11_isIn : mm_Me := (yX11_isIn, prog_13_method_2_code, 3, (some (Jvm.ClassFile.FieldType.boolean)), 0, mm_c_X11_isIn, [967, 55, 966, 1, 3])
abbrev mm_m_X11_least : mm_Me := (yX11_least, prog_13_method_3_code, 2, (some (Jvm.ClassFile.FieldType.int)), 0, mm_c_X11_least, [1033, 55, 1032, 1, 2])
abbrev mm_m_X11_lessBy : mm_Me := (yX11_lessBy, prog_13_method_4_code, 2, (some (Jvm.ClassFile.FieldType.int)), 0, mm_c_X11_lessBy, [1023, 55, 1022, 1, 2])
abbrev mm_m_X11_copies : mm_Me := (yX11_copies, prog_13_method_5_code, 3, none, 0, mm_c_X11_copies, [982, 55, 981, 1, 2])
abbrev mm_m_X11_of : mm_Me := (yX11_of, prog_13_method_6_code, 2, (some (Jvm.ClassFile.FieldType.int)), 0, mm_c_X11_of, [999, 55, 998, 1, 2])
abbrev mm_m_X11_isDrinker : mm_Me := (yX11_isDrinker, prog_13_method_7_code, 2, (some (Jvm.ClassFile.FieldType.boolean)), 1, mm_c_X11_isDrinker, [1003, 55, 1002, 0, 1])
abbrev mm_m_X11_isWaker : mm_Me := (yX11_isWaker, prog_13_method_8_code, 1, (some (Jvm.ClassFile.FieldType.boolean)), 1, mm_c_X11_isWaker, [992, 55, 991, 1, 1])
abbrev mm_m_X11_isWakerOrNone : mm_Me := (yX11_isWakerOrNone, prog_13_method_9_code, 1, (some (Jvm.ClassFile.FieldType.boolean)), 2, mm_c_X11_isWakerOrNone, [989, 55, 988, 1, 1])
abbrev mm_m_X11_has : mm_Me := (yX11_has, prog_13_method_10_code, 2, (some (Jvm.ClassFile.FieldType.boolean)), 0, mm_c_X11_has, [1020, 55, 1019, 1, 2])
abbrev mm_m_X11_bits : mm_Me := (yX11_bits, prog_13_method_11_code, 3, (some (Jvm.ClassFile.FieldType.int)), 0, mm_c_X11_bits, [1156, 55, 1155, 1, 1])
abbrev mm_m_X11_drinksBy : mm_Me := (yX11_drinksBy, prog_13_method_12_code, 5, (some (Jvm.ClassFile.FieldType.int)), 0, mm_c_X11_drinksBy, [1030, 55, 1029, 1, 3])
abbrev mm_m_X11_tiresBy : mm_Me := (yX11_tiresBy, prog_13_method_13_code, 3, (some (Jvm.ClassFile.FieldType.int)), 1, mm_c_X11_tiresBy, [1036, 55, 1035, 1, 3])
abbrev mm_m_X11_owesBy : mm_Me := (yX11_owesBy, prog_13_method_14_code, 3, (some (Jvm.ClassFile.FieldType.int)), 0, mm_c_X11_owesBy, [1039, 55, 1038, 1, 3])
abbrev mm_m_X11_isAwake : mm_Me := (yX11_isAwake, prog_13_method_15_code, 2, (some (Jvm.ClassFile.FieldType.boolean)), 1, mm_c_X11_isAwake, [1017, 55, 1016, 1, 2])
abbrev mm_m_X11_wakesUp : mm_Me := (yX11_wakesUp, prog_13_method_16_code, 2, none, 2, mm_c_X11_wakesUp, [1014, 55, 1013, 1, 2])
abbrev mm_m_X11_drinks : mm_Me := (yX11_drinks, prog_13_method_17_code, 8, none, 2, mm_c_X11_drinks, [1027, 55, 1026, 0, 2])
abbrev mm_m_X11_liesDown : mm_Me := (yX11_liesDown, prog_13_method_18_code, 2, none, 2, mm_c_X11_liesDown, [1042, 55, 1041, 1, 2])
abbrev mm_m_X11_day : mm_Me := (yX11_day, prog_13_method_19_code, 3, none, 3, mm_c_X11_day, [1011, 55, 1010, 0, 1])
abbrev mm_m_X11_daysOn : mm_Me := (yX11_daysOn, prog_13_method_20_code, 4, none, 4, mm_c_X11_daysOn, [1007, 55, 1006, 0, 2])
abbrev mm_m_X11_allOwed : mm_Me := (yX11_allOwed, prog_13_method_21_code, 3, (some (Jvm.ClassFile.FieldType.int)), 1, mm_c_X11_allOwed, [1093, 55, 1092, 1, 1])
abbrev mm_m_X11_allTired : mm_Me := (yX11_allTired, prog_13_method_22_code, 3, (some (Jvm.ClassFile.FieldType.int)), 0, mm_c_X11_allTired, [1214, 55, 1213, 1, 1])
abbrev mm_m_X11_here : mm_Me := (yX11_here, prog_13_method_23_code, 1, (some (Jvm.ClassFile.FieldType.int)), 0, mm_c_X11_here, [975, 55, 974, 0, 0])
abbrev mm_m_X11_readsNumber : mm_Me := (yX11_readsNumber, prog_13_method_24_code, 4, (some (Jvm.ClassFile.FieldType.boolean)), 1, mm_c_X11_readsNumber, [979, 55, 978, 0, 2])
abbrev mm_m_X11_readsStatement : mm_Me := (yX11_readsStatement, prog_13_method_25_code, 3, (some (Jvm.ClassFile.FieldType.boolean)), 2, mm_c_X11_readsStatement, [971, 55, 970, 0, 0])
abbrev mm_m_X11_adds : mm_Me := (yX11_adds, prog_13_method_26_code, 5, none, 1, mm_c_X11_adds, [996, 55, 995, 0, 3])
abbrev mm_m_X11_isDone : mm_Me := (yX11_isDone, prog_13_method_27_code, 4, (some (Jvm.ClassFile.FieldType.boolean)), 5, mm_c_X11_isDone, [986, 55, 985, 0, 1])
abbrev mm_m_X11_treaty : mm_Me := (yX11_treaty, prog_13_method_28_code, 8, (some (Jvm.ClassFile.FieldType.int)), 6, mm_c_X11_treaty, [957, 55, 955, 0, 1])
abbrev mm_m_X11_nextOf : mm_Me := (yX11_nextOf, prog_13_method_29_code, 2, (some (Jvm.ClassFile.FieldType.int)), 1, mm_c_X11_nextOf, [1050, 55, 1049, 0, 1])
abbrev mm_m_X11_drinker : mm_Me := (yX11_drinker, prog_13_method_30_code, 3, (some (Jvm.ClassFile.FieldType.int)), 2, mm_c_X11_drinker, [1046, 55, 1044, 0, 2])
abbrev mm_m_X11_manyOf : mm_Me := (yX11_manyOf, prog_13_method_31_code, 4, (some (Jvm.ClassFile.FieldType.int)), 1, mm_c_X11_manyOf, [1058, 55, 1057, 0, 1])
abbrev mm_m_X11_waker : mm_Me := (yX11_waker, prog_13_method_32_code, 3, (some (Jvm.ClassFile.FieldType.int)), 2, mm_c_X11_waker, [1054, 55, 1052, 0, 2])
abbrev mm_m_X11_comes : mm_Me := (yX11_comes, prog_13_method_33_code, 4, (some (Jvm.ClassFile.FieldType.int)), 3, mm_c_X11_comes, [1062, 55, 1060, 0, 2])
abbrev mm_m_X11_sets : mm_Me := (yX11_sets, prog_13_method_34_code, 4, (some (Jvm.ClassFile.FieldType.int)), 0, mm_c_X11_sets, [1074, 55, 1073, 0, 2])
abbrev mm_m_X11_wakes : mm_Me := (yX11_wakes, prog_13_method_35_code, 3, (some (Jvm.ClassFile.FieldType.int)), 3, mm_c_X11_wakes, [1070, 55, 1068, 0, 2])
abbrev mm_m_X11_tires : mm_Me := (yX11_tires, prog_13_method_36_code, 3, (some (Jvm.ClassFile.FieldType.int)), 2, mm_c_X11_tires, [1078, 55, 1076, 0, 2])
abbrev mm_m_X11_sleeps : mm_Me := (yX11_sleeps, prog_13_method_37_code, 2, (some (Jvm.ClassFile.FieldType.int)), 2, mm_c_X11_sleeps, [1082, 55, 1080, 0, 1])
abbrev mm_m_X11_bags : mm_Me := (yX11_bags, prog_13_method_38_code, 2, (some (Jvm.ClassFile.FieldType.int)), 1, mm_c_X11_bags, [1086, 55, 1084, 0, 1])
abbrev mm_m_X11_days : mm_Me := (yX11_days, prog_13_method_39_code, 2, (some (Jvm.ClassFile.FieldType.int)), 5, mm_c_X11_days, [1090, 55, 1088, 0, 1])
abbrev mm_m_X11_isLate : mm_Me := (yX11_isLate, prog_13_method_40_code, 1, (some (Jvm.ClassFile.FieldType.boolean)), 1, mm_c_X11_isLate, [1100, 55, 1099, 1, 1])
abbrev mm_m_X11_takes : mm_Me := (yX11_takes, prog_13_method_41_code, 2, none, 5, mm_c_X11_takes, [1104, 55, 1103, 0, 1])
abbrev mm_m_X11_owesThen : mm_Me := (yX11_owesThen, prog_13_method_42_code, 3, (some (Jvm.ClassFile.FieldType.int)), 6, mm_c_X11_owesThen, [1097, 55, 1095, 0, 2])
abbrev mm_m_X11_tiredThen : mm_Me := (yX11_tiredThen, prog_13_method_43_code, 3, (some (Jvm.ClassFile.FieldType.int)), 6, mm_c_X11_tiredThen, [1108, 55, 1106, 0, 2])
abbrev mm_m_X11_then : mm_Me := (yX11_then, prog_13_method_44_code, 3, (some (Jvm.ClassFile.FieldType.int)), 6, mm_c_X11_then, [1112, 55, 1110, 0, 2])
abbrev mm_m_X11_firstAsleep : mm_Me := (yX11_firstAsleep, prog_13_method_45_code, 3, (some (Jvm.ClassFile.FieldType.int)), 4, mm_c_X11_firstAsleep, [1116, 55, 1114, 0, 1])
abbrev mm_m_X11_out : mm_Me := (yX11_out, prog_13_method_46_code, 2, (some (Jvm.ClassFile.FieldType.int)), 4, mm_c_X11_out, [1120, 55, 1118, 0, 0])
abbrev mm_m_X11_owedNow : mm_Me := (yX11_owedNow, prog_13_method_47_code, 2, (some (Jvm.ClassFile.FieldType.int)), 6, mm_c_X11_owedNow, [1149, 55, 1148, 0, 1])
abbrev mm_m_X11_bestWaker : mm_Me := (yX11_bestWaker, prog_13_method_48_code, 7, (some (Jvm.ClassFile.FieldType.int)), 5, mm_c_X11_bestWaker, [1124, 55, 1122, 0, 3])
abbrev mm_m_X11_canWake : mm_Me := (yX11_canWake, prog_13_method_49_code, 3, (some (Jvm.ClassFile.FieldType.boolean)), 2, mm_c_X11_canWake, [1137, 55, 1136, 0, 2])
abbrev mm_m_X11_matches : mm_Me := (yX11_matches, prog_13_method_50_code, 5, none, 3, mm_c_X11_matches, [1133, 55, 1132, 0, 0])
abbrev mm_m_X11_wakerOf : mm_Me := (yX11_wakerOf, prog_13_method_51_code, 4, (some (Jvm.ClassFile.FieldType.int)), 3, mm_c_X11_wakerOf, [1141, 55, 1140, 0, 2])
abbrev mm_m_X11_match : mm_Me := (yX11_match, prog_13_method_52_code, 5, (some (Jvm.ClassFile.FieldType.int)), 4, mm_c_X11_match, [1129, 55, 1127, 0, 1])
abbrev mm_m_X11_milk : mm_Me := (yX11_milk, prog_13_method_53_code, 5, (some (Jvm.ClassFile.FieldType.int)), 7, mm_c_X11_milk, [1145, 55, 1143, 0, 1])
abbrev mm_m_X11_fewest : mm_Me := (yX11_fewest, prog_13_method_54_code, 5, (some (Jvm.ClassFile.FieldType.int)), 7, mm_c_X11_fewest, [1153, 55, 1151, 0, 1])
abbrev mm_m_X11_store : mm_Me := (yX11_store, prog_13_method_55_code, 3, (some (Jvm.ClassFile.FieldType.int)), 5, mm_c_X11_store, [1160, 55, 1158, 0, 1])
abbrev mm_m_X11_heaviest : mm_Me := (yX11_heaviest, prog_13_method_56_code, 6, (some (Jvm.ClassFile.FieldType.int)), 2, mm_c_X11_heaviest, [1164, 55, 1162, 0, 1])
abbrev mm_m_X11_rest : mm_Me := (yX11_rest, prog_13_method_57_code, 6, (some (Jvm.ClassFile.FieldType.int)), 5, mm_c_X11_rest, [1168, 55, 1166, 0, 2])
abbrev mm_m_X11_leastOf : mm_Me := (yX11_leastOf, prog_13_method_58_code, 1, (some (Jvm.ClassFile.FieldType.int)), 0, mm_c_X11_leastOf, [1179, 55, 1178, 1, 1])
abbrev mm_m_X11_isTold : mm_Me := (yX11_isTold, prog_13_method_59_code, 4, (some (Jvm.ClassFile.FieldType.boolean)), 1, mm_c_X11_isTold, [1176, 55, 1175, 0, 3])
abbrev mm_m_X11_whatIs : mm_Me := (yX11_whatIs, prog_13_method_60_code, 9, (some (Jvm.ClassFile.FieldType.int)), 4, mm_c_X11_whatIs, [1172, 55, 1170, 0, 3])
abbrev mm_m_X11_isShedSo : mm_Me := (yX11_isShedSo, prog_13_method_61_code, 4, (some (Jvm.ClassFile.FieldType.boolean)), 4, mm_c_X11_isShedSo, [1188, 55, 1187, 0, 2])
abbrev mm_m_X11_shed : mm_Me := (yX11_shed, prog_13_method_62_code, 8, (some (Jvm.ClassFile.FieldType.int)), 5, mm_c_X11_shed, [1184, 55, 1182, 0, 2])
abbrev mm_m_X11_hasBy : mm_Me := (yX11_hasBy, prog_13_method_63_code, 7, (some (Jvm.ClassFile.FieldType.int)), 5, mm_c_X11_hasBy, [1196, 55, 1195, 0, 6])
abbrev mm_m_X11_two : mm_Me := (yX11_two, prog_13_method_64_code, 7, (some (Jvm.ClassFile.FieldType.int)), 6, mm_c_X11_two, [1192, 55, 1190, 0, 3])
abbrev mm_m_X11_gcd : mm_Me := (yX11_gcd, prog_13_method_65_code, 10, (some (Jvm.ClassFile.FieldType.long)), 0, mm_c_X11_gcd, [1207, 55, 1206, 1, 2])
abbrev mm_m_X11_partOf : mm_Me := (yX11_partOf, prog_13_method_66_code, 5, (some (Jvm.ClassFile.FieldType.long)), 1, mm_c_X11_partOf, [1204, 55, 1203, 1, 3])
abbrev mm_m_X11_falls : mm_Me := (yX11_falls, prog_13_method_67_code, 13, (some (Jvm.ClassFile.FieldType.long)), 4, mm_c_X11_falls, [1200, 55, 1198, 0, 4])
abbrev mm_m_X11_mean : mm_Me := (yX11_mean, prog_13_method_68_code, 2, (some (Jvm.ClassFile.FieldType.long)), 2, mm_c_X11_mean, [1211, 55, 1209, 0, 1])
abbrev mm_m_X11_forged : mm_Me := (yX11_forged, prog_13_method_69_code, 4, (some (Jvm.ClassFile.FieldType.int)), 3, mm_c_X11_forged, [1219, 55, 1217, 0, 1])
abbrev mm_m_X11_judge : mm_Me := (yX11_judge, prog_13_method_70_code, 4, (some (Jvm.ClassFile.FieldType.int)), 4, mm_c_X11_judge, [1223, 55, 1221, 0, 1])
abbrev mm_m_X11_drawn : mm_Me := (yX11_drawn, prog_13_method_71_code, 2, (some (Jvm.ClassFile.FieldType.int)), 0, mm_c_X11_drawn, [1231, 55, 1230, 0, 1])
abbrev mm_m_X11_years : mm_Me := (yX11_years, prog_13_method_72_code, 7, (some (Jvm.ClassFile.FieldType.int)), 5, mm_c_X11_years, [1227, 55, 1225, 0, 3])
abbrev mm_m_X11_image : mm_Me := (yX11_image, prog_13_method_73_code, 1, (some (Jvm.ClassFile.FieldType.int)), 1, mm_c_X11_image, [1238, 55, 1236, 0, 0])
abbrev mm_m_X11_restore : mm_Me := (yX11_restore, prog_13_method_74_code, 1, (some (Jvm.ClassFile.FieldType.int)), 1, mm_c_X11_restore, [1242, 55, 1240, 0, 0])
abbrev mm_m_X11_count : mm_Me := (yX11_count, prog_13_method_75_code, 2, (some (Jvm.ClassFile.FieldType.int)), 2, mm_c_X11_count, [1246, 55, 1244, 0, 1])
abbrev mm_m_X11_thrown : mm_Me := (yX11_thrown, prog_13_method_76_code, 1, (some (Jvm.ClassFile.FieldType.int)), 0, mm_c_X11_thrown, [1250, 55, 1248, 0, 0])
abbrev mm_m_X11_isShelf : mm_Me := (yX11_isShelf, prog_13_method_77_code, 1, (some (Jvm.ClassFile.FieldType.boolean)), 1, mm_c_X11_isShelf, [964, 55, 963, 1, 1])
abbrev mm_m_X11_wrongRow : mm_Me := (yX11_wrongRow, prog_13_method_78_code, 3, (some (Jvm.ClassFile.FieldType.int)), 2, mm_c_X11_wrongRow, [961, 55, 960, 0, 2])
abbrev mm_m_X11_wrongKept : mm_Me := (yX11_wrongKept, prog_13_method_79_code, 2, (some (Jvm.ClassFile.FieldType.int)), 2, mm_c_X11_wrongKept, [1066, 55, 1065, 0, 1])
abbrev mm_m_X11_keep : mm_Me := (yX11_keep, prog_13_method_80_code, 5, (some (Jvm.ClassFile.FieldType.int)), 2, mm_c_X11_keep, [1254, 55, 1252, 0, 4])
abbrev mm_m_X11_row : mm_Me := (yX11_row, prog_13_method_81_code, 5, (some (Jvm.ClassFile.FieldType.int)), 2, mm_c_X11_row, [1258, 55, 1256, 0, 3])
abbrev mm_m_X11_put : mm_Me := (yX11_put, prog_13_method_82_code, 5, (some (Jvm.ClassFile.FieldType.int)), 3, mm_c_X11_put, [1262, 55, 1260, 0, 3])
abbrev mm_m_X11_element : mm_Me := (yX11_element, prog_13_method_83_code, 3, (some (Jvm.ClassFile.FieldType.long)), 2, mm_c_X11_element, [1266, 55, 1264, 0, 2])
abbrev mm_m_X11_copy : mm_Me := (yX11_copy, prog_13_method_84_code, 8, (some (Jvm.ClassFile.FieldType.int)), 2, mm_c_X11_copy, [1270, 55, 1268, 0, 5])
abbrev mm_m_X11_costBy : mm_Me := (yX11_costBy, prog_13_method_85_code, 2, (some (Jvm.ClassFile.FieldType.int)), 0, mm_c_X11_costBy, [1277, 55, 1276, 1, 2])
abbrev mm_m_X11_cost : mm_Me := (yX11_cost, prog_13_method_86_code, 3, (some (Jvm.ClassFile.FieldType.int)), 3, mm_c_X11_cost, [1274, 55, 1272, 0, 1])
abbrev mm_m_X11_toss : mm_Me := (yX11_toss, prog_13_method_87_code, 5, (some (Jvm.ClassFile.FieldType.int)), 3, mm_c_X11_toss, [1281, 55, 1279, 0, 1])
abbrev mm_m_J6_bitCount_0f7a4 : mm_Me := (yJ6_bitCount_0f7a4, prog_17_method_49_code, 1, (some (Jvm.ClassFile.FieldType.int)), 0, mm_c_J6_bitCount_0f7a4, [553, 59, 552, 1, 1])
abbrev mm_m_J7_fill_53178 : mm_Me := (yJ7_fill_53178, prog_23_method_103_code, 4, none, 0, mm_c_J7_fill_53178, [293, 57, 292, 1, 2])
def mm_tab : List mm_Me := [mm_m_X0_cupsOn, mm_m_X0_tiringFor, mm_m_X0_debtFor, mm_m_X0_priceOf, mm_m_X0_failureOf, mm_m_X1_becomeLike, mm_m_X1_has, mm_m_X1_isAwake, mm_m_X1_joins, mm_m_X1_thirstOf, mm_m_X1_thirstOfAll, mm_m_X1_goDays, mm_m_X1_restSleepers, mm_m_X1_pour, mm_m_X1_endDay, mm_m_X1_obeys, mm_m_X1_turnsOver, mm_m_X1_setIn, mm_m_X1_owedInAll, mm_m_X1_tiredInAll, mm_m_X1_drinkersOf, mm_m_X1_heaviestWaker, mm_m_X1_deepestDrinker, mm_m_X1_aloneBits, mm_m_X2_cupsOn, mm_m_X2_priceOf, mm_m_X3_cupsOn, mm_m_X3_tiringFor, mm_m_X3_priceOf, mm_m_X4_cupsOn, mm_m_X4_tiringFor, mm_m_X4_debtFor, mm_m_X4_priceOf, mm_m_X4_failureOf, mm_m_X5_cupsOn, mm_m_X5_tiringFor, mm_m_X6_cupsOn, mm_m_X6_tiringFor, mm_m_X6_priceOf, mm_m_X7_cupsOn, mm_m_X7_tiringFor, mm_m_X7_debtFor, mm_m_X7_priceOf, mm_m_X8_becomeRow, mm_m_X8_hasPlace, mm_m_X8_hasPlaces, mm_m_X8_at, mm_m_X8_setAt, mm_m_X8_numberAt, mm_m_X8_leastOfSort, mm_m_X8_allows, mm_m_X9_cupsOn, mm_m_X9_tiringFor, mm_m_X9_debtFor, mm_m_X9_priceOf, mm_m_X9_failureOf, mm_m_X10_treaty, mm_m_X10_drinker, mm_m_X10_waker, mm_m_X10_comes, mm_m_X10_wakes, mm_m_X10_tires, mm_m_X10_sleeps, mm_m_X10_bags, mm_m_X10_days, mm_m_X10_owesThen, mm_m_X10_tiredThen, mm_m_X10_then, mm_m_X10_firstAsleep, mm_m_X10_out, mm_m_X10_bestWaker, mm_m_X10_match, mm_m_X10_milk, mm_m_X10_fewest, mm_m_X10_store, mm_m_X10_heaviest, mm_m_X10_rest, mm_m_X10_whatIs, mm_m_X10_shed, mm_m_X10_two, mm_m_X10_falls, mm_m_X10_mean, mm_m_X10_forged, mm_m_X10_judge, mm_m_X10_years, mm_m_X10_image, mm_m_X10_restore, mm_m_X10_count, mm_m_X10_keep, mm_m_X10_row, mm_m_X10_put, mm_m_X10_copy, mm_m_X10_cost, mm_m_X10_isBetween, mm_m_X10_isWaker, mm_m_X10_isWakerOrNobody, mm_m_X10_isShelf, mm_m_X10_kindNumbered, mm_m_X10_refusalUnless, mm_m_X10_refusedLong, mm_m_X10_digitsBehind, mm_m_X10_isLetter, mm_m_X10_firstBadByte, mm_m_X10_thinkDaysOn, mm_m_X10_owedBehindWithWaker, mm_m_X10_owedBehindWithMilk, mm_m_X10_owedBehindWithout, mm_m_X10_owedBehindKeeping, mm_m_X10_owedBehindFalls, mm_m_X10_mindOwesAsTold, mm_m_X10_gainInMind, mm_m_X10_fillDrunkBehind, mm_m_X10_bagsGoAsTold, mm_m_X10_matchCell, mm_m_X10_mostWokenFrom, mm_m_X10_fillMostWoken, mm_m_X10_firstMatchOf, mm_m_X10_power, mm_m_X10_partOfFraction, mm_m_X10_nextSeed, mm_m_X10_drawOf, mm_m_X11_isIn, mm_m_X11_least, mm_m_X11_lessBy, mm_m_X11_copies, mm_m_X11_of, mm_m_X11_isDrinker, mm_m_X11_isWaker, mm_m_X11_isWakerOrNone, mm_m_X11_has, mm_m_X11_bits, mm_m_X11_drinksBy, mm_m_X11_tiresBy, mm_m_X11_owesBy, mm_m_X11_isAwake, mm_m_X11_wakesUp, mm_m_X11_drinks, mm_m_X11_liesDown, mm_m_X11_day, mm_m_X11_daysOn, mm_m_X11_allOwed, mm_m_X11_allTired, mm_m_X11_here, mm_m_X11_readsNumber, mm_m_X11_readsStatement, mm_m_X11_adds, mm_m_X11_isDone, mm_m_X11_treaty, mm_m_X11_nextOf, mm_m_X11_drinker, mm_m_X11_manyOf, mm_m_X11_waker, mm_m_X11_comes, mm_m_X11_sets, mm_m_X11_wakes, mm_m_X11_tires, mm_m_X11_sleeps, mm_m_X11_bags, mm_m_X11_days, mm_m_X11_isLate, mm_m_X11_takes, mm_m_X11_owesThen, mm_m_X11_tiredThen, mm_m_X11_then, mm_m_X11_firstAsleep, mm_m_X11_out, mm_m_X11_owedNow, mm_m_X11_bestWaker, mm_m_X11_canWake, mm_m_X11_matches, mm_m_X11_wakerOf, mm_m_X11_match, mm_m_X11_milk, mm_m_X11_fewest, mm_m_X11_store, mm_m_X11_heaviest, mm_m_X11_rest, mm_m_X11_leastOf, mm_m_X11_isTold, mm_m_X11_whatIs, mm_m_X11_isShedSo, mm_m_X11_shed, mm_m_X11_hasBy, mm_m_X11_two, mm_m_X11_gcd, mm_m_X11_partOf, mm_m_X11_falls, mm_m_X11_mean, mm_m_X11_forged, mm_m_X11_judge, mm_m_X11_drawn, mm_m_X11_years, mm_m_X11_image, mm_m_X11_restore, mm_m_X11_count, mm_m_X11_thrown, mm_m_X11_isShelf, mm_m_X11_wrongRow, mm_m_X11_wrongKept, mm_m_X11_keep, mm_m_X11_row, mm_m_X11_put, mm_m_X11_element, mm_m_X11_copy, mm_m_X11_costBy, mm_m_X11_cost, mm_m_X11_toss, mm_m_J6_bitCount_0f7a4, mm_m_J7_fill_53178]
def mm_vt : List (List Nat × List (List Nat)) := [([29, 352, 350], [[0, 353], [], [24, 357], [26, 361], [29, 351], [34, 365], [36, 369], [39, 372], [], [51, 375]]),
  ([30, 386, 384], [[1, 387], [], [1, 391], [27, 392], [30, 385], [35, 395], [37, 400], [40, 403], [], [52, 406]]),
  ([31, 413, 411], [[2, 414], [], [2, 418], [31, 419], [31, 412], [31, 420], [31, 421], [41, 422], [], [53, 425]]),
  ([32, 733, 731], [[3, 734], [], [25, 738], [28, 742], [32, 732], [28, 746], [38, 747], [42, 750], [], [54, 754]]),
  ([33, 848, 846], [[4, 849], [], [4, 853], [33, 854], [33, 847], [33, 855], [33, 856], [33, 857], [], [55, 858]])]
end
section
/-! runs of the small machine; what a program checks of the tables -/
abbrev mm_code (M : mm_Me) : List mm_En := M.2.2.2.2.2.1
abbrev mm_y (M : mm_Me) : MethodName := M.1
abbrev mm_by (M : mm_Me) : ByteArray := M.2.1
abbrev mm_nL (M : mm_Me) : Nat := M.2.2.1
abbrev mm_rt (M : mm_Me) : Option FieldType := M.2.2.2.1
abbrev mm_lv (M : mm_Me) : Nat := M.2.2.2.2.1
abbrev mm_xs (M : mm_Me) : List Nat := M.2.2.2.2.2.2
def mm_isc : Instr → Bool
  | .invokestatic _ => true
  | .invokevirtual _ => true
  | .invokespecial _ => true
  | _ => false
/-- the method that is called -/
def mm_tg (x : List Nat) (as : List Value) : Option mm_Me := match x with
  | 4 :: _ :: _ :: t :: _ => match as with
    | .ref q :: _ => match mm_vt[t]? with
      | some (_, rows) => match rows[mm_cl q]? with
        | some (m :: _) => mm_tab[m]?
        | _ => none
      | none => none
    | _ => none
  | knd :: _ :: _ :: t :: _ => bif Nat.ble knd 6 then mm_tab[t]? else none
  | _ => none
/-- what is asked of the receiver -/
def mm_rc (x : List Nat) (as : List Value) : Prop := match x with
  | 0 :: _ => True
  | 1 :: _ => True
  | [2, _, _, _, _, ci] => ∃ q, as.head? = some (.ref q) ∧ mm_cl q = ci
  | [3, _, _, _, _, ci] => ∃ q, as.head? = some (.ref q) ∧ mm_cl q = ci
  | _ => ∃ q, as.head? = some (.ref q) ∧ mm_cl q < 12
def mm_call (M : mm_Me) (S : mm_St) (M' : mm_Me) (as rest : List Value) : Prop :=
  ∃ (i : Instr) (x : List Nat) (v : Value), mm_fnd (mm_code M) S.1 = some (i, x, v) ∧ mm_isc i = true ∧ mm_tg x as = some M' ∧ S.2.2.1 = as.reverse ++ rest ∧ as.length = x.getD 2 0 ∧ mm_ss rest ≤ 8 ∧ (mm_slots as).length ≤ mm_nL M' ∧ mm_rc x as
def mm_rr (i : Instr) (rt : Option FieldType) (st : List Value) (σ : mm_Sg) (R : Option Value × mm_Sg) : Prop := match i with
  | .ireturn => ∃ ty y, rt = some ty ∧ st = [.int y] ∧ R = (some (.int y), σ) ∧ narrow ty (.int y) = .int y
  | .lreturn => ∃ y, rt = some .long ∧ st = [.long y] ∧ R = (some (.long y), σ)
  | .areturn => ∃ C q, rt = some (.object C) ∧ st = [.ref q] ∧ R = (some (.ref q), σ)
  | .return_ => rt = none ∧ st = [] ∧ R = (none, σ)
  | _ => False
def mm_ret (M : mm_Me) (S : mm_St) (R : Option Value × mm_Sg) : Prop := ∃ (i : Instr) (x : List Nat) (v : Value), mm_fnd (mm_code M) S.1 = some (i, x, v) ∧ mm_rr i (mm_rt M) S.2.2.1 S.2.2.2 R
def mm_Run : Nat → mm_Me → mm_St → Option Value × mm_Sg → Prop
  | 0, _, _, _ => False
  | n + 1, M, S, R =>
    (∃ (S' : mm_St) (c : List Prop), mm_stp (mm_code M) S = some (S', c) ∧ mm_all c ∧ mm_Run n M S' R)
    ∨ (∃ (M' : mm_Me) (as rest : List Value) (r : Option Value) (σ' : mm_Sg), mm_call M S M' as rest ∧ mm_Run n M' (0, mm_ini (mm_nL M') as, [], S.2.2.2) (r, σ') ∧ mm_Run n M (S.1 + 3, S.2.1, r.toList ++ rest, σ') R)
    ∨ mm_ret M S R
def mm_Go (M : mm_Me) (S : mm_St) (R : Option Value × mm_Sg) : Prop := ∃ n, mm_Run n M S R
/-- a method, called with these in this heap, answers r and leaves that heap -/
def mm_Ev (M : mm_Me) (as : List Value) (σ : mm_Sg) (r : Option Value) (σ' : mm_Sg) : Prop := mm_Go M (0, mm_ini (mm_nL M) as, [], σ) (r, σ')
theorem mm_mono1 : ∀ (n : Nat) (M : mm_Me) (S : mm_St) (R : Option Value × mm_Sg), mm_Run n M S R → mm_Run (n + 1) M S R
  | 0, _, _, _, h => h.elim
  | n + 1, M, S, R, h => by
    rcases h with ⟨S', c, h1, h2, h3⟩ | ⟨M', as, rest, r, σ', h1, h2, h3⟩ | h
    · exact Or.inl ⟨S', c, h1, h2, mm_mono1 n _ _ _ h3⟩
    · exact Or.inr (Or.inl ⟨M', as, rest, r, σ', h1, mm_mono1 n _ _ _ h2, mm_mono1 n _ _ _ h3⟩)
    · exact Or.inr (Or.inr h)
theorem mm_mono {n k : Nat} {M : mm_Me} {S : mm_St} {R : Option Value × mm_Sg} (hk : n ≤ k) (h : mm_Run n M S R) : mm_Run k M S R := by
  induction hk with
  | refl => exact h
  | step _ ih => exact mm_mono1 _ _ _ _ ih
theorem mm_blk {M : mm_Me} {R : Option Value × mm_Sg} : ∀ (k : Nat) {S S' : mm_St} {P : List Prop}, mm_stps (mm_code M) k S = some (S', P) → mm_all P → mm_Go M S' R → mm_Go M S R
  | 0, S, S', P, h, _, g => by
    cases h
    exact g
  | k + 1, S, S', P, h, hP, g => by
    unfold mm_stps at h
    cases h1 : mm_stp (mm_code M) S with
    | none => rw [h1] at h; cases h
    | some a =>
      obtain ⟨S1, c⟩ := a
      rw [h1] at h
      dsimp only at h
      cases h2 : mm_stps (mm_code M) k S1 with
      | none => rw [h2] at h; cases h
      | some b =>
        obtain ⟨S2, d⟩ := b
        rw [h2] at h
        cases h
        have hsp : ∀ (a b : List Prop), mm_all (a ++ b) → mm_all a ∧ mm_all b := by
          intro a
          induction a with
          | nil => exact fun b h => ⟨trivial, h⟩
          | cons p r ih => exact fun b h => ⟨⟨h.1, (ih b h.2).1⟩, (ih b h.2).2⟩
        obtain ⟨hc, hd⟩ := hsp c d hP
        obtain ⟨n, hn⟩ := mm_blk k h2 hd g
        exact ⟨n + 1, Or.inl ⟨S1, c, h1, hc, hn⟩⟩
theorem mm_cl_ {M M' : mm_Me} {pc : Nat} {lv st as rest : List Value} {σ σ' : mm_Sg} {r : Option Value} {R : Option Value × mm_Sg} (h : mm_Ev M' as σ r σ') (hc : mm_call M (pc, lv, st, σ) M' as rest) (g : mm_Go M (pc + 3, lv, r.toList ++ rest, σ') R) : mm_Go M (pc, lv, st, σ) R := by
  obtain ⟨a, ha⟩ := h
  obtain ⟨b, hb⟩ := g
  exact ⟨max a b + 1, Or.inr (Or.inl ⟨M', as, rest, r, σ', hc, mm_mono (Nat.le_max_left _ _) ha, mm_mono (Nat.le_max_right _ _) hb⟩)⟩
theorem mm_rt_ {M : mm_Me} {S : mm_St} {R : Option Value × mm_Sg} (h : mm_ret M S R) : mm_Go M S R := ⟨1, Or.inr (Or.inr h)⟩
/-! the checks -/
def mm_okW (w : Cond) : Bool := (w.onTables && w.keeps) || (match w with
  | .fieldLinkNest .. => true
  | .methodLinkNest .. => true
  | .declares _ => true
  | .castable .. => true
  | _ => false)
def mm_w (i : Nat) (w : Cond) : Bool := decide (lw_tbl[i]? = some w) && mm_okW w
def mm_host : String := "BeansOnTheOtherSide"
def mm_iln (i : Instr) (x : List Nat) : Nat := match i with
  | .bipush _ | .iload _ | .istore _ | .aload _ | .astore _ | .lload _ | .lstore _ | .ldc _ => 2
  | .sipush _ | .getfield _ | .putfield _ | .invokestatic _ | .invokevirtual _ | .invokespecial _ | .goto _ | .ifCond _ _ | .if_icmp _ _ | .iinc _ _ | .ldc_w _ | .ldc2_w _ => 3
  | .tableswitch _ _ _ _ | .lookupswitch _ _ => x.headD 0
  | _ => 1
def mm_lk (own : String) (idx : Nat) (nest wl : Nat) (y : MethodName) : Bool := match nest with
  | 0 => mm_w wl (.methodLink own idx y)
  | _ => mm_w wl (.methodLinkNest own idx y mm_host)
def mm_cok (M : mm_Me) (idx : Nat) (x : List Nat) : Bool := match x with
  | [0, wl, n, t] => match mm_tab[t]? with
    | some M' => mm_lk (mm_y M).cls idx 0 wl (mm_y M') && decide ((mm_xs M').getD 3 0 = 1) && decide ((mm_xs M').getD 4 0 = n) && decide (mm_lv M' < mm_lv M)
    | none => false
  | [1, wl, n, t] => match mm_tab[t]? with
    | some M' => mm_lk (mm_y M).cls idx 1 wl (mm_y M') && decide ((mm_xs M').getD 3 0 = 1) && decide ((mm_xs M').getD 4 0 = n) && decide (mm_lv M' < mm_lv M)
    | none => false
  | [2, wl, n, t, ws, ci] => match mm_tab[t]?, mm_cls[ci]? with
    | some M', some q => mm_lk (mm_y M).cls idx 0 wl (mm_y M') && decide ((mm_xs M').getD 3 0 = 0) && decide ((mm_xs M').getD 4 0 + 1 = n) && decide (mm_lv M' < mm_lv M) && mm_w ws (.selects q.1 (mm_y M') (mm_y M'))
    | _, _ => false
  | [3, wl, n, t, ws, ci] => match mm_tab[t]?, mm_cls[ci]? with
    | some M', some q => mm_lk (mm_y M).cls idx 1 wl (mm_y M') && decide ((mm_xs M').getD 3 0 = 0) && decide ((mm_xs M').getD 4 0 + 1 = n) && decide (mm_lv M' < mm_lv M) && mm_w ws (.selects q.1 (mm_y M') (mm_y M'))
    | _, _ => false
  | [4, wl, n, t] => match mm_vt[t]? with
    | some ([xm, wsm, wi], rows) => match mm_tab[xm]? with
      | some M0 => mm_lk (mm_y M).cls idx 0 wl (mm_y M0) && mm_w wsm (.sameMethod (mm_y M0).cls (mm_y M0).cls (mm_y M0).name (mm_y M0).desc) && mm_w wi (.instanceMethod (mm_y M0)) && decide ((mm_xs M0).getD 4 0 + 1 = n) &&
          (List.range 12).all fun ci => match rows[ci]?, mm_cls[ci]? with
            | some [m, ws], some q => match mm_tab[m]? with
              | some M' => mm_w ws (.selects q.1 (mm_y M0) (mm_y M')) && decide ((mm_xs M').getD 3 0 = 0) && decide (mm_lv M' < mm_lv M)
              | none => false
            | some [], _ => true
            | none, _ => true
            | _, _ => false
      | none => false
    | _ => false
  | [5, wl, n, t, wsm, wsp] => match mm_tab[t]? with
    | some M' => mm_lk (mm_y M).cls idx 0 wl (mm_y M') && decide ((mm_xs M').getD 3 0 = 0) && decide ((mm_xs M').getD 4 0 + 1 = n) && decide (mm_lv M' < mm_lv M) && mm_w wsm (.sameMethod (mm_y M').cls (mm_y M').cls (mm_y M').name (mm_y M').desc) && mm_w wsp (.superclass (mm_y M).cls (mm_y M').cls) && decide ((mm_y M').name ≠ "<init>")
    | none => false
  | [6, wl, n, t, wsm, wsp, wsq, wdc] => match mm_tab[t]? with
    | some M' => mm_lk (mm_y M).cls idx 0 wl ⟨RX2, (mm_y M').name, (mm_y M').desc⟩ && decide ((mm_xs M').getD 3 0 = 0) && decide ((mm_xs M').getD 4 0 + 1 = n) && decide (mm_lv M' < mm_lv M) && mm_w wsm (.sameMethod RX2 (mm_y M').cls (mm_y M').name (mm_y M').desc) && mm_w wsp (.superclass (mm_y M).cls RX2) && mm_w wsq (.superclass RX2 (mm_y M').cls) && mm_w wdc (.declares (mm_y M')) && decide ((mm_y M').name ≠ "<init>")
    | none => false
  | _ => false
def mm_fok (own : String) (idx : Nat) (x : List Nat) (fin : Bool) : Bool := match x with
  | [wl, ci, k, nest] => match mm_cls[ci]? with
    | some (_, T, N) => decide (k < N) && (fin || decide ((T k).2.2.2 = false)) && (match nest with
        | 0 => mm_w wl (.fieldLink own idx (T k).1 (T k).2.1 (T k).2.2.1)
        | _ => mm_w wl (.fieldLinkNest own idx (T k).1 (T k).2.1 (T k).2.2.1 mm_host))
    | none => false
  | _ => false
def mm_iok (M : mm_Me) (pc : Nat) (i : Instr) (x : List Nat) (v : Value) : Bool := match i with
  | .iconst n => decide (v = .int (Int32.ofInt n))
  | .lconst n => decide (v = .long (Int64.ofNat (n : Nat)))
  | .bipush n => decide (v = .int (Int8.ofInt n).toInt32)
  | .sipush n => decide (v = .int (Int16.ofInt n).toInt32)
  | .ldc n => match x, v with
    | [w], .int c => mm_w w (.constant (mm_y M).cls n c)
    | _, _ => false
  | .ldc_w n => match x, v with
    | [w], .int c => mm_w w (.constant (mm_y M).cls n c)
    | _, _ => false
  | .ldc2_w n => match x, v with
    | [w], .long c => mm_w w (.constantLong (mm_y M).cls n c)
    | _, _ => false
  | .iload_n k => decide (x = [(k : Nat)])
  | .lload_n k => decide (x = [(k : Nat)])
  | .aload_n k => decide (x = [(k : Nat)])
  | .istore_n k => decide (x = [(k : Nat)])
  | .lstore_n k => decide (x = [(k : Nat)])
  | .astore_n k => decide (x = [(k : Nat)])
  | .iload k => decide (x = [k])
  | .lload k => decide (x = [k])
  | .aload k => decide (x = [k])
  | .istore k => decide (x = [k])
  | .lstore k => decide (x = [k])
  | .astore k => decide (x = [k])
  | .iinc k n => decide (x = [k]) && decide (v = .int (Int32.ofInt n))
  | .goto o => match x with
    | [t] => decide ((pc : Int) + o = (t : Int))
    | _ => false
  | .ifCond _ o => match x with
    | [t] => decide ((pc : Int) + o = (t : Int))
    | _ => false
  | .if_icmp _ o => match x with
    | [t] => decide ((pc : Int) + o = (t : Int))
    | _ => false
  | .tableswitch d lo hi offs => match x with
    | _ :: l :: t :: ts => decide (lo = (l : Int)) && decide ((pc : Int) + d = (t : Int)) && decide (hi + 1 = (l : Int) + ts.length) && decide (offs.toList.map (fun o => (pc : Int) + o) = ts.map (fun (t : Nat) => (t : Int))) && decide (l + ts.length < 2000)
    | _ => false
  | .lookupswitch d ps => match x with
    | _ :: t :: ts => decide ((pc : Int) + d = (t : Int)) && decide (ps.toList.flatMap (fun a => [a.1, (pc : Int) + a.2]) = ts.map (fun (t : Nat) => (t : Int))) && (ps.toList.zip (ps.toList.drop 1)).all (fun (a, next) => a.1 < next.1) && ts.all (fun t => decide (t < 100000))
    | _ => false
  | .getfield n => mm_fok (mm_y M).cls n x true
  | .putfield n => mm_fok (mm_y M).cls n x false
  | .invokestatic n => match x with
    | [90, w] => mm_w w (.methodLink (mm_y M).cls n Lib.Math.min.name) && decide (0 < mm_lv M)
    | [91, w] => mm_w w (.methodLink (mm_y M).cls n Lib.Math.max.name) && decide (0 < mm_lv M)
    | [92, w] => mm_w w (.methodLink (mm_y M).cls n arraycopyName) && decide (0 < mm_lv M)
    | _ => mm_cok M n x && decide (x.headD 9 < 2)
  | .invokevirtual n => mm_cok M n x && decide (2 ≤ x.headD 9) && decide (x.headD 9 < 5)
  | .invokespecial n => mm_cok M n x && decide (5 ≤ x.headD 9)
  | _ => true
def mm_eok (M : mm_Me) (e : mm_En) : Bool := decide (decode (mm_by M) e.1 = .ok (e.2.1, mm_iln e.2.1 e.2.2.1)) && mm_iok M e.1 e.2.1 e.2.2.1 e.2.2.2
def mm_mok (M : mm_Me) : Bool := match mm_xs M with
  | [wc, wi, wk, st, np] => mm_w wc (.code (mm_y M) (mm_by M) (mm_nL M) (mm_rt M)) && mm_w wi (.initialized (mm_y M).cls) && (match st with
      | 1 => mm_w wk (.static (mm_y M))
      | 0 => mm_w wk (.instanceMethod (mm_y M))
      | _ => false) && plainName (mm_y M).cls && decide (mm_nL M ≤ 19) && decide ((parseMethodDescriptor (mm_y M).desc).map (fun d => d.parameters.length) = some np) && decide ((mm_y M).cls ≠ "java/lang/invoke/MethodHandle" ∧ (mm_y M).cls ≠ "java/lang/invoke/VarHandle") && decide (mm_lv M ≤ 9)
  | _ => false
end
section
/-! the tables, checked -/
def mm_good (M : mm_Me) : Bool := mm_mok M && (mm_code M).all (mm_eok M)
theorem mm_k_X0_cupsOn : mm_good mm_m_X0_cupsOn = true := by decide +kernel
theorem mm_k_X0_tiringFor : mm_good mm_m_X0_tiringFor = true := by decide +kernel
theorem mm_k_X0_debtFor : mm_good mm_m_X0_debtFor = true := by decide +kernel
theorem mm_k_X0_priceOf : mm_good mm_m_X0_priceOf = true := by decide +kernel
theorem mm_k_X0_failureOf : mm_good mm_m_X0_failureOf = true := by decide +kernel
theorem mm_k_X1_becomeLike : mm_good mm_m_X1_becomeLike = true := by decide +kernel
theorem mm_k_X1_has : mm_good mm_m_X1_has = true := by decide +kernel
theorem mm_k_X1_isAwake : mm_good mm_m_X1_isAwake = true := by decide +kernel
theorem mm_k_X1_joins : mm_good mm_m_X1_joins = true := by decide +kernel
theorem mm_k_X1_thirstOf : mm_good mm_m_X1_thirstOf = true := by decide +kernel
theorem mm_k_X1_thirstOfAll : mm_good mm_m_X1_thirstOfAll = true := by decide +kernel
theorem mm_k_X1_goDays : mm_good mm_m_X1_goDays = true := by decide +kernel
theorem mm_k_X1_restSleepers : mm_good mm_m_X1_restSleepers = true := by decide +kernel
theorem mm_k_X1_pour : mm_good mm_m_X1_pour = true := by decide +kernel
theorem mm_k_X1_endDay : mm_good mm_m_X1_endDay = true := by decide +kernel
theorem mm_k_X1_obeys : mm_good mm_m_X1_obeys = true := by decide +kernel
theorem mm_k_X1_turnsOver : mm_good mm_m_X1_turnsOver = true := by decide +kernel
theorem mm_k_X1_setIn : mm_good mm_m_X1_setIn = true := by decide +kernel
theorem mm_k_X1_owedInAll : mm_good mm_m_X1_owedInAll = true := by decide +kernel
theorem mm_k_X1_tiredInAll : mm_good mm_m_X1_tiredInAll = true := by decide +kernel
theorem mm_k_X1_drinkersOf : mm_good mm_m_X1_drinkersOf = true := by decide +kernel
theorem mm_k_X1_heaviestWaker : mm_good mm_m_X1_heaviestWaker = true := by decide +kernel
theorem mm_k_X1_deepestDrinker : mm_good mm_m_X1_deepestDrinker = true := by decide +kernel
theorem mm_k_X1_aloneBits : mm_good mm_m_X1_aloneBits = true := by decide +kernel
theorem mm_k_X2_cupsOn : mm_good mm_m_X2_cupsOn = true := by decide +kernel
theorem mm_k_X2_priceOf : mm_good mm_m_X2_priceOf = true := by decide +kernel
theorem mm_k_X3_cupsOn : mm_good mm_m_X3_cupsOn = true := by decide +kernel
theorem mm_k_X3_tiringFor : mm_good mm_m_X3_tiringFor = true := by decide +kernel
theorem mm_k_X3_priceOf : mm_good mm_m_X3_priceOf = true := by decide +kernel
theorem mm_k_X4_cupsOn : mm_good mm_m_X4_cupsOn = true := by decide +kernel
theorem mm_k_X4_tiringFor : mm_good mm_m_X4_tiringFor = true := by decide +kernel
theorem mm_k_X4_debtFor : mm_good mm_m_X4_debtFor = true := by decide +kernel
theorem mm_k_X4_priceOf : mm_good mm_m_X4_priceOf = true := by decide +kernel
theorem mm_k_X4_failureOf : mm_good mm_m_X4_failureOf = true := by decide +kernel
theorem mm_k_X5_cupsOn : mm_good mm_m_X5_cupsOn = true := by decide +kernel
theorem mm_k_X5_tiringFor : mm_good mm_m_X5_tiringFor = true := by decide +kernel
theorem mm_k_X6_cupsOn : mm_good mm_m_X6_cupsOn = true := by decide +kernel
theorem mm_k_X6_tiringFor : mm_good mm_m_X6_tiringFor = true := by decide +kernel
theorem mm_k_X6_priceOf : mm_good mm_m_X6_priceOf = true := by decide +kernel
theorem mm_k_X7_cupsOn : mm_good mm_m_X7_cupsOn = true := by decide +kernel
theorem mm_k_X7_tiringFor : mm_good mm_m_X7_tiringFor = true := by decide +kernel
theorem mm_k_X7_debtFor : mm_good mm_m_X7_debtFor = true := by decide +kernel
theorem mm_k_X7_priceOf : mm_good mm_m_X7_priceOf = true := by decide +kernel
theorem mm_k_X8_becomeRow : mm_good mm_m_X8_becomeRow = true := by decide +kernel
theorem mm_k_X8_hasPlace : mm_good mm_m_X8_hasPlace = true := by decide +kernel
theorem mm_k_X8_hasPlaces : mm_good mm_m_X8_hasPlaces = true := by decide +kernel
theorem mm_k_X8_at : mm_good mm_m_X8_at = true := by decide +kernel
theorem mm_k_X8_setAt : mm_good mm_m_X8_setAt = true := by decide +kernel
theorem mm_k_X8_numberAt : mm_good mm_m_X8_numberAt = true := by decide +kernel
theorem mm_k_X8_leastOfSort : mm_good mm_m_X8_leastOfSort = true := by decide +kernel
theorem mm_k_X8_allows : mm_good mm_m_X8_allows = true := by decide +kernel
theorem mm_k_X9_cupsOn : mm_good mm_m_X9_cupsOn = true := by decide +kernel
theorem mm_k_X9_tiringFor : mm_good mm_m_X9_tiringFor = true := by decide +kernel
theorem mm_k_X9_debtFor : mm_good mm_m_X9_debtFor = true := by decide +kernel
theorem mm_k_X9_priceOf : mm_good mm_m_X9_priceOf = true := by decide +kernel
theorem mm_k_X9_failureOf : mm_good mm_m_X9_failureOf = true := by decide +kernel
theorem mm_k_X10_treaty : mm_good mm_m_X10_treaty = true := by decide +kernel
theorem mm_k_X10_drinker : mm_good mm_m_X10_drinker = true := by decide +kernel
theorem mm_k_X10_waker : mm_good mm_m_X10_waker = true := by decide +kernel
theorem mm_k_X10_comes : mm_good mm_m_X10_comes = true := by decide +kernel
theorem mm_k_X10_wakes : mm_good mm_m_X10_wakes = true := by decide +kernel
theorem mm_k_X10_tires : mm_good mm_m_X10_tires = true := by decide +kernel
theorem mm_k_X10_sleeps : mm_good mm_m_X10_sleeps = true := by decide +kernel
theorem mm_k_X10_bags : mm_good mm_m_X10_bags = true := by decide +kernel
theorem mm_k_X10_days : mm_good mm_m_X10_days = true := by decide +kernel
theorem mm_k_X10_owesThen : mm_good mm_m_X10_owesThen = true := by decide +kernel
theorem mm_k_X10_tiredThen : mm_good mm_m_X10_tiredThen = true := by decide +kernel
theorem mm_k_X10_then : mm_good mm_m_X10_then = true := by decide +kernel
theorem mm_k_X10_firstAsleep : mm_good mm_m_X10_firstAsleep = true := by decide +kernel
theorem mm_k_X10_out : mm_good mm_m_X10_out = true := by decide +kernel
theorem mm_k_X10_bestWaker : mm_good mm_m_X10_bestWaker = true := by decide +kernel
theorem mm_k_X10_match : mm_good mm_m_X10_match = true := by decide +kernel
theorem mm_k_X10_milk : mm_good mm_m_X10_milk = true := by decide +kernel
theorem mm_k_X10_fewest : mm_good mm_m_X10_fewest = true := by decide +kernel
theorem mm_k_X10_store : mm_good mm_m_X10_store = true := by decide +kernel
theorem mm_k_X10_heaviest : mm_good mm_m_X10_heaviest = true := by decide +kernel
theorem mm_k_X10_rest : mm_good mm_m_X10_rest = true := by decide +kernel
theorem mm_k_X10_whatIs : mm_good mm_m_X10_whatIs = true := by decide +kernel
theorem mm_k_X10_shed : mm_good mm_m_X10_shed = true := by decide +kernel
theorem mm_k_X10_two : mm_good mm_m_X10_two = true := by decide +kernel
theorem mm_k_X10_falls : mm_good mm_m_X10_falls = true := by decide +kernel
theorem mm_k_X10_mean : mm_good mm_m_X10_mean = true := by decide +kernel
theorem mm_k_X10_forged : mm_good mm_m_X10_forged = true := by decide +kernel
theorem mm_k_X10_judge : mm_good mm_m_X10_judge = true := by decide +kernel
theorem mm_k_X10_years : mm_good mm_m_X10_years = true := by decide +kernel
theorem mm_k_X10_image : mm_good mm_m_X10_image = true := by decide +kernel
theorem mm_k_X10_restore : mm_good mm_m_X10_restore = true := by decide +kernel
theorem mm_k_X10_count : mm_good mm_m_X10_count = true := by decide +kernel
theorem mm_k_X10_keep : mm_good mm_m_X10_keep = true := by decide +kernel
theorem mm_k_X10_row : mm_good mm_m_X10_row = true := by decide +kernel
theorem mm_k_X10_put : mm_good mm_m_X10_put = true := by decide +kernel
theorem mm_k_X10_copy : mm_good mm_m_X10_copy = true := by decide +kernel
theorem mm_k_X10_cost : mm_good mm_m_X10_cost = true := by decide +kernel
theorem mm_k_X10_isBetween : mm_good mm_m_X10_isBetween = true := by decide +kernel
theorem mm_k_X10_isWaker : mm_good mm_m_X10_isWaker = true := by decide +kernel
theorem mm_k_X10_isWakerOrNobody : mm_good mm_m_X10_isWakerOrNobody = true := by decide +kernel
theorem mm_k_X10_isShelf : mm_good mm_m_X10_isShelf = true := by decide +kernel
theorem mm_k_X10_kindNumbered : mm_good mm_m_X10_kindNumbered = true := by decide +kernel
theorem mm_k_X10_refusalUnless : mm_good mm_m_X10_refusalUnless = true := by decide +kernel
theorem mm_k_X10_refusedLong : mm_good mm_m_X10_refusedLong = true := by decide +kernel
theorem mm_k_X10_digitsBehind : mm_good mm_m_X10_digitsBehind = true := by decide +kernel
theorem mm_k_X10_isLetter : mm_good mm_m_X10_isLetter = true := by decide +kernel
theorem mm_k_X10_firstBadByte : mm_good mm_m_X10_firstBadByte = true := by decide +kernel
theorem mm_k_X10_thinkDaysOn : mm_good mm_m_X10_thinkDaysOn = true := by decide +kernel
theorem mm_k_X10_owedBehindWithWaker : mm_good mm_m_X10_owedBehindWithWaker = true := by decide +kernel
theorem mm_k_X10_owedBehindWithMilk : mm_good mm_m_X10_owedBehindWithMilk = true := by decide +kernel
theorem mm_k_X10_owedBehindWithout : mm_good mm_m_X10_owedBehindWithout = true := by decide +kernel
theorem mm_k_X10_owedBehindKeeping : mm_good mm_m_X10_owedBehindKeeping = true := by decide +kernel
theorem mm_k_X10_owedBehindFalls : mm_good mm_m_X10_owedBehindFalls = true := by decide +kernel
theorem mm_k_X10_mindOwesAsTold : mm_good mm_m_X10_mindOwesAsTold = true := by decide +kernel
theorem mm_k_X10_gainInMind : mm_good mm_m_X10_gainInMind = true := by decide +kernel
theorem mm_k_X10_fillDrunkBehind : mm_good mm_m_X10_fillDrunkBehind = true := by decide +kernel
theorem mm_k_X10_bagsGoAsTold : mm_good mm_m_X10_bagsGoAsTold = true := by decide +kernel
theorem mm_k_X10_matchCell : mm_good mm_m_X10_matchCell = true := by decide +kernel
theorem mm_k_X10_mostWokenFrom : mm_good mm_m_X10_mostWokenFrom = true := by decide +kernel
theorem mm_k_X10_fillMostWoken : mm_good mm_m_X10_fillMostWoken = true := by decide +kernel
theorem mm_k_X10_firstMatchOf : mm_good mm_m_X10_firstMatchOf = true := by decide +kernel
theorem mm_k_X10_power : mm_good mm_m_X10_power = true := by decide +kernel
theorem mm_k_X10_partOfFraction : mm_good mm_m_X10_partOfFraction = true := by decide +kernel
theorem mm_k_X10_nextSeed : mm_good mm_m_X10_nextSeed = true := by decide +kernel
theorem mm_k_X10_drawOf : mm_good mm_m_X10_drawOf = true := by decide +kernel
theorem mm_k_X11_isIn : mm_good mm_m_X11_isIn = true := by decide +kernel
theorem mm_k_X11_least : mm_good mm_m_X11_least = true := by decide +kernel
theorem mm_k_X11_lessBy : mm_good mm_m_X11_lessBy = true := by decide +kernel
theorem mm_k_X11_copies : mm_good mm_m_X11_copies = true := by decide +kernel
theorem mm_k_X11_of : mm_good mm_m_X11_of = true := by decide +kernel
theorem mm_k_X11_isDrinker : mm_good mm_m_X11_isDrinker = true := by decide +kernel
theorem mm_k_X11_isWaker : mm_good mm_m_X11_isWaker = true := by decide +kernel
theorem mm_k_X11_isWakerOrNone : mm_good mm_m_X11_isWakerOrNone = true := by decide +kernel
theorem mm_k_X11_has : mm_good mm_m_X11_has = true := by decide +kernel
theorem mm_k_X11_bits : mm_good mm_m_X11_bits = true := by decide +kernel
theorem mm_k_X11_drinksBy : mm_good mm_m_X11_drinksBy = true := by decide +kernel
theorem mm_k_X11_tiresBy : mm_good mm_m_X11_tiresBy = true := by decide +kernel
theorem mm_k_X11_owesBy : mm_good mm_m_X11_owesBy = true := by decide +kernel
theorem mm_k_X11_isAwake : mm_good mm_m_X11_isAwake = true := by decide +kernel
theorem mm_k_X11_wakesUp : mm_good mm_m_X11_wakesUp = true := by decide +kernel
theorem mm_k_X11_drinks : mm_good mm_m_X11_drinks = true := by decide +kernel
theorem mm_k_X11_liesDown : mm_good mm_m_X11_liesDown = true := by decide +kernel
theorem mm_k_X11_day : mm_good mm_m_X11_day = true := by decide +kernel
theorem mm_k_X11_daysOn : mm_good mm_m_X11_daysOn = true := by decide +kernel
theorem mm_k_X11_allOwed : mm_good mm_m_X11_allOwed = true := by decide +kernel
theorem mm_k_X11_allTired : mm_good mm_m_X11_allTired = true := by decide +kernel
theorem mm_k_X11_here : mm_good mm_m_X11_here = true := by decide +kernel
theorem mm_k_X11_readsNumber : mm_good mm_m_X11_readsNumber = true := by decide +kernel
theorem mm_k_X11_readsStatement : mm_good mm_m_X11_readsStatement = true := by decide +kernel
theorem mm_k_X11_adds : mm_good mm_m_X11_adds = true := by decide +kernel
theorem mm_k_X11_isDone : mm_good mm_m_X11_isDone = true := by decide +kernel
theorem mm_k_X11_treaty : mm_good mm_m_X11_treaty = true := by decide +kernel
theorem mm_k_X11_nextOf : mm_good mm_m_X11_nextOf = true := by decide +kernel
theorem mm_k_X11_drinker : mm_good mm_m_X11_drinker = true := by decide +kernel
theorem mm_k_X11_manyOf : mm_good mm_m_X11_manyOf = true := by decide +kernel
theorem mm_k_X11_waker : mm_good mm_m_X11_waker = true := by decide +kernel
theorem mm_k_X11_comes : mm_good mm_m_X11_comes = true := by decide +kernel
theorem mm_k_X11_sets : mm_good mm_m_X11_sets = true := by decide +kernel
theorem mm_k_X11_wakes : mm_good mm_m_X11_wakes = true := by decide +kernel
theorem mm_k_X11_tires : mm_good mm_m_X11_tires = true := by decide +kernel
theorem mm_k_X11_sleeps : mm_good mm_m_X11_sleeps = true := by decide +kernel
theorem mm_k_X11_bags : mm_good mm_m_X11_bags = true := by decide +kernel
theorem mm_k_X11_days : mm_good mm_m_X11_days = true := by decide +kernel
theorem mm_k_X11_isLate : mm_good mm_m_X11_isLate = true := by decide +kernel
theorem mm_k_X11_takes : mm_good mm_m_X11_takes = true := by decide +kernel
theorem mm_k_X11_owesThen : mm_good mm_m_X11_owesThen = true := by decide +kernel
theorem mm_k_X11_tiredThen : mm_good mm_m_X11_tiredThen = true := by decide +kernel
theorem mm_k_X11_then : mm_good mm_m_X11_then = true := by decide +kernel
theorem mm_k_X11_firstAsleep : mm_good mm_m_X11_firstAsleep = true := by decide +kernel
theorem mm_k_X11_out : mm_good mm_m_X11_out = true := by decide +kernel
theorem mm_k_X11_owedNow : mm_good mm_m_X11_owedNow = true := by decide +kernel
theorem mm_k_X11_bestWaker : mm_good mm_m_X11_bestWaker = true := by decide +kernel
theorem mm_k_X11_canWake : mm_good mm_m_X11_canWake = true := by decide +kernel
theorem mm_k_X11_matches : mm_good mm_m_X11_matches = true := by decide +kernel
theorem mm_k_X11_wakerOf : mm_good mm_m_X11_wakerOf = true := by decide +kernel
theorem mm_k_X11_match : mm_good mm_m_X11_match = true := by decide +kernel
theorem mm_k_X11_milk : mm_good mm_m_X11_milk = true := by decide +kernel
theorem mm_k_X11_fewest : mm_good mm_m_X11_fewest = true := by decide +kernel
theorem mm_k_X11_store : mm_good mm_m_X11_store = true := by decide +kernel
theorem mm_k_X11_heaviest : mm_good mm_m_X11_heaviest = true := by decide +kernel
theorem mm_k_X11_rest : mm_good mm_m_X11_rest = true := by decide +kernel
theorem mm_k_X11_leastOf : mm_good mm_m_X11_leastOf = true := by decide +kernel
theorem mm_k_X11_isTold : mm_good mm_m_X11_isTold = true := by decide +kernel
theorem mm_k_X11_whatIs : mm_good mm_m_X11_whatIs = true := by decide +kernel
theorem mm_k_X11_isShedSo : mm_good mm_m_X11_isShedSo = true := by decide +kernel
theorem mm_k_X11_shed : mm_good mm_m_X11_shed = true := by decide +kernel
theorem mm_k_X11_hasBy : mm_good mm_m_X11_hasBy = true := by decide +kernel
theorem mm_k_X11_two : mm_good mm_m_X11_two = true := by decide +kernel
theorem mm_k_X11_gcd : mm_good mm_m_X11_gcd = true := by decide +kernel
theorem mm_k_X11_partOf : mm_good mm_m_X11_partOf = true := by decide +kernel
theorem mm_k_X11_falls : mm_good mm_m_X11_falls = true := by decide +kernel
theorem mm_k_X11_mean : mm_good mm_m_X11_mean = true := by decide +kernel
theorem mm_k_X11_forged : mm_good mm_m_X11_forged = true := by decide +kernel
theorem mm_k_X11_judge : mm_good mm_m_X11_judge = true := by decide +kernel
theorem mm_k_X11_drawn : mm_good mm_m_X11_drawn = true := by decide +kernel
theorem mm_k_X11_years : mm_good mm_m_X11_years = true := by decide +kernel
theorem mm_k_X11_image : mm_good mm_m_X11_image = true := by decide +kernel
theorem mm_k_X11_restore : mm_good mm_m_X11_restore = true := by decide +kernel
theorem mm_k_X11_count : mm_good mm_m_X11_count = true := by decide +kernel
theorem mm_k_X11_thrown : mm_good mm_m_X11_thrown = true := by decide +kernel
theorem mm_k_X11_isShelf : mm_good mm_m_X11_isShelf = true := by decide +kernel
theorem mm_k_X11_wrongRow : mm_good mm_m_X11_wrongRow = true := by decide +kernel
theorem mm_k_X11_wrongKept : mm_good mm_m_X11_wrongKept = true := by decide +kernel
theorem mm_k_X11_keep : mm_good mm_m_X11_keep = true := by decide +kernel
theorem mm_k_X11_row : mm_good mm_m_X11_row = true := by decide +kernel
theorem mm_k_X11_put : mm_good mm_m_X11_put = true := by decide +kernel
theorem mm_k_X11_element : mm_good mm_m_X11_element = true := by decide +kernel
theorem mm_k_X11_copy : mm_good mm_m_X11_copy = true := by decide +kernel
theorem mm_k_X11_costBy : mm_good mm_m_X11_costBy = true := by decide +kernel
theorem mm_k_X11_cost : mm_good mm_m_X11_cost = true := by decide +kernel
theorem mm_k_X11_toss : mm_good mm_m_X11_toss = true := by decide +kernel
theorem mm_k_J6_bitCount_0f7a4 : mm_good mm_m_J6_bitCount_0f7a4 = true := by decide +kernel
theorem mm_k_J7_fill_53178 : mm_good mm_m_J7_fill_53178 = true := by decide +kernel
def mm_tab_0 : List mm_Me := [mm_m_X0_cupsOn, mm_m_X0_tiringFor, mm_m_X0_debtFor, mm_m_X0_priceOf, mm_m_X0_failureOf, mm_m_X1_becomeLike, mm_m_X1_has, mm_m_X1_isAwake, mm_m_X1_joins, mm_m_X1_thirstOf, mm_m_X1_thirstOfAll, mm_m_X1_goDays, mm_m_X1_restSleepers, mm_m_X1_pour, mm_m_X1_endDay, mm_m_X1_obeys, mm_m_X1_turnsOver, mm_m_X1_setIn, mm_m_X1_owedInAll, mm_m_X1_tiredInAll]
theorem mm_chk_0 : ∀ M ∈ mm_tab_0, mm_good M = true := List.forall_mem_cons.mpr ⟨mm_k_X0_cupsOn, List.forall_mem_cons.mpr ⟨mm_k_X0_tiringFor, List.forall_mem_cons.mpr ⟨mm_k_X0_debtFor, List.forall_mem_cons.mpr ⟨mm_k_X0_priceOf, List.forall_mem_cons.mpr ⟨mm_k_X0_failureOf, List.forall_mem_cons.mpr ⟨mm_k_X1_becomeLike, List.forall_mem_cons.mpr ⟨mm_k_X1_has, List.forall_mem_cons.mpr ⟨mm_k_X1_isAwake, List.forall_mem_cons.mpr ⟨mm_k_X1_joins, List.forall_mem_cons.mpr ⟨mm_k_X1_thirstOf, List.forall_mem_cons.mpr ⟨mm_k_X1_thirstOfAll, List.forall_mem_cons.mpr ⟨mm_k_X1_goDays, List.forall_mem_cons.mpr ⟨mm_k_X1_restSleepers, List.forall_mem_cons.mpr ⟨mm_k_X1_pour, List.forall_mem_cons.mpr ⟨mm_k_X1_endDay, List.forall_mem_cons.mpr ⟨mm_k_X1_obeys, List.forall_mem_cons.mpr ⟨mm_k_X1_turnsOver, List.forall_mem_cons.mpr ⟨mm_k_X1_setIn, List.forall_mem_cons.mpr ⟨mm_k_X1_owedInAll, List.forall_mem_cons.mpr ⟨mm_k_X1_tiredInAll, fun _ h => absurd h List.not_mem_nil⟩⟩⟩⟩⟩⟩⟩⟩⟩⟩⟩⟩⟩⟩⟩⟩⟩⟩⟩⟩
def mm_tab_1 : List mm_Me := [mm_m_X1_drinkersOf, mm_m_X1_heaviestWaker, mm_m_X1_deepestDrinker, mm_m_X1_aloneBits, mm_m_X2_cupsOn, mm_m_X2_priceOf, mm_m_X3_cupsOn, mm_m_X3_tiringFor, mm_m_X3_priceOf, mm_m_X4_cupsOn, mm_m_X4_tiringFor, mm_m_X4_debtFor, mm_m_X4_priceOf, mm_m_X4_failureOf, mm_m_X5_cupsOn, mm_m_X5_tiringFor, mm_m_X6_cupsOn, mm_m_X6_tiringFor, mm_m_X6_priceOf, mm_m_X7_cupsOn]
theorem mm_chk_1 : ∀ M ∈ mm_tab_1, mm_good M = true := List.forall_mem_cons.mpr ⟨mm_k_X1_drinkersOf, List.forall_mem_cons.mpr ⟨mm_k_X1_heaviestWaker, List.forall_mem_cons.mpr ⟨mm_k_X1_deepestDrinker, List.forall_mem_cons.mpr ⟨mm_k_X1_aloneBits, List.forall_mem_cons.mpr ⟨mm_k_X2_cupsOn, List.forall_mem_cons.mpr ⟨mm_k_X2_priceOf, List.forall_mem_cons.mpr ⟨mm_k_X3_cupsOn, List.forall_mem_cons.mpr ⟨mm_k_X3_tiringFor, List.forall_mem_cons.mpr ⟨mm_k_X3_priceOf, List.forall_mem_cons.mpr ⟨mm_k_X4_cupsOn, List.forall_mem_cons.mpr ⟨mm_k_X4_tiringFor, List.forall_mem_cons.mpr ⟨mm_k_X4_debtFor, List.forall_mem_cons.mpr ⟨mm_k_X4_priceOf, List.forall_mem_cons.mpr ⟨mm_k_X4_failureOf, List.forall_mem_cons.mpr ⟨mm_k_X5_cupsOn, List.forall_mem_cons.mpr ⟨mm_k_X5_tiringFor, List.forall_mem_cons.mpr ⟨mm_k_X6_cupsOn, List.forall_mem_cons.mpr ⟨mm_k_X6_tiringFor, List.forall_mem_cons.mpr ⟨mm_k_X6_priceOf, List.forall_mem_cons.mpr ⟨mm_k_X7_cupsOn, fun _ h => absurd h List.not_mem_nil⟩⟩⟩⟩⟩⟩⟩⟩⟩⟩⟩⟩⟩⟩⟩⟩⟩⟩⟩⟩
def mm_tab_2 : List mm_Me := [mm_m_X7_tiringFor, mm_m_X7_debtFor, mm_m_X7_priceOf, mm_m_X8_becomeRow, mm_m_X8_hasPlace, mm_m_X8_hasPlaces, mm_m_X8_at, mm_m_X8_setAt, mm_m_X8_numberAt, mm_m_X8_leastOfSort, mm_m_X8_allows, mm_m_X9_cupsOn, mm_m_X9_tiringFor, mm_m_X9_debtFor, mm_m_X9_priceOf, mm_m_X9_failureOf, mm_m_X10_treaty, mm_m_X10_drinker, mm_m_X10_waker, mm_m_X10_comes]
theorem mm_chk_2 : ∀ M ∈ mm_tab_2, mm_good M = true := List.forall_mem_cons.mpr ⟨mm_k_X7_tiringFor, List.forall_mem_cons.mpr ⟨mm_k_X7_debtFor, List.forall_mem_cons.mpr ⟨mm_k_X7_priceOf, List.forall_mem_cons.mpr ⟨mm_k_X8_becomeRow, List.forall_mem_cons.mpr ⟨mm_k_X8_hasPlace, List.forall_mem_cons.mpr ⟨mm_k_X8_hasPlaces, List.forall_mem_cons.mpr ⟨mm_k_X8_at, List.forall_mem_cons.mpr ⟨mm_k_X8_setAt, List.forall_mem_cons.mpr ⟨mm_k_X8_numberAt, List.forall_mem_cons.mpr ⟨mm_k_X8_leastOfSort, List.forall_mem_cons.mpr ⟨mm_k_X8_allows, List.forall_mem_cons.mpr ⟨mm_k_X9_cupsOn, List.forall_mem_cons.mpr ⟨mm_k_X9_tiringFor, List.forall_mem_cons.mpr ⟨mm_k_X9_debtFor, List.forall_mem_cons.mpr ⟨mm_k_X9_priceOf, List.forall_mem_cons.mpr ⟨mm_k_X9_failureOf, List.forall_mem_cons.mpr ⟨mm_k_X10_treaty, List.forall_mem_cons.mpr ⟨mm_k_X10_drinker, List.forall_mem_cons.mpr ⟨mm_k_X10_waker, List.forall_mem_cons.mpr ⟨mm_k_X10_comes, fun _ h => absurd h List.not_mem_nil⟩⟩⟩⟩⟩⟩⟩⟩⟩⟩⟩⟩⟩⟩⟩⟩⟩⟩⟩⟩
def mm_tab_3 : List mm_Me := [mm_m_X10_wakes, mm_m_X10_tires, mm_m_X10_sleeps, mm_m_X10_bags, mm_m_X10_days, mm_m_X10_owesThen, mm_m_X10_tiredThen, mm_m_X10_then, mm_m_X10_firstAsleep, mm_m_X10_out, mm_m_X10_bestWaker, mm_m_X10_match, mm_m_X10_milk, mm_m_X10_fewest, mm_m_X10_store, mm_m_X10_heaviest, mm_m_X10_rest, mm_m_X10_whatIs, mm_m_X10_shed, mm_m_X10_two]
theorem mm_chk_3 : ∀ M ∈ mm_tab_3, mm_good M = true := List.forall_mem_cons.mpr ⟨mm_k_X10_wakes, List.forall_mem_cons.mpr ⟨mm_k_X10_tires, List.forall_mem_cons.mpr ⟨mm_k_X10_sleeps, List.forall_mem_cons.mpr ⟨mm_k_X10_bags, List.forall_mem_cons.mpr ⟨mm_k_X10_days, List.forall_mem_cons.mpr ⟨mm_k_X10_owesThen, List.forall_mem_cons.mpr ⟨mm_k_X10_tiredThen, List.forall_mem_cons.mpr ⟨mm_k_X10_then, List.forall_mem_cons.mpr ⟨mm_k_X10_firstAsleep, List.forall_mem_cons.mpr ⟨mm_k_X10_out, List.forall_mem_cons.mpr ⟨mm_k_X10_bestWaker, List.forall_mem_cons.mpr ⟨mm_k_X10_match, List.forall_mem_cons.mpr ⟨mm_k_X10_milk, List.forall_mem_cons.mpr ⟨mm_k_X10_fewest, List.forall_mem_cons.mpr ⟨mm_k_X10_store, List.forall_mem_cons.mpr ⟨mm_k_X10_heaviest, List.forall_mem_cons.mpr ⟨mm_k_X10_rest, List.forall_mem_cons.mpr ⟨mm_k_X10_whatIs, List.forall_mem_cons.mpr ⟨mm_k_X10_shed, List.forall_mem_cons.mpr ⟨mm_k_X10_two, fun _ h => absurd h List.not_mem_nil⟩⟩⟩⟩⟩⟩⟩⟩⟩⟩⟩⟩⟩⟩⟩⟩⟩⟩⟩⟩
def mm_tab_4 : List mm_Me := [mm_m_X10_falls, mm_m_X10_mean, mm_m_X10_forged, mm_m_X10_judge, mm_m_X10_years, mm_m_X10_image, mm_m_X10_restore, mm_m_X10_count, mm_m_X10_keep, mm_m_X10_row, mm_m_X10_put, mm_m_X10_copy, mm_m_X10_cost, mm_m_X10_isBetween, mm_m_X10_isWaker, mm_m_X10_isWakerOrNobody, mm_m_X10_isShelf, mm_m_X10_kindNumbered, mm_m_X10_refusalUnless, mm_m_X10_refusedLong]
theorem mm_chk_4 : ∀ M ∈ mm_tab_4, mm_good M = true := List.forall_mem_cons.mpr ⟨mm_k_X10_falls, List.forall_mem_cons.mpr ⟨mm_k_X10_mean, List.forall_mem_cons.mpr ⟨mm_k_X10_forged, List.forall_mem_cons.mpr ⟨mm_k_X10_judge, List.forall_mem_cons.mpr ⟨mm_k_X10_years, List.forall_mem_cons.mpr ⟨mm_k_X10_image, List.forall_mem_cons.mpr ⟨mm_k_X10_restore, List.forall_mem_cons.mpr ⟨mm_k_X10_count, List.forall_mem_cons.mpr ⟨mm_k_X10_keep, List.forall_mem_cons.mpr ⟨mm_k_X10_row, List.forall_mem_cons.mpr ⟨mm_k_X10_put, List.forall_mem_cons.mpr ⟨mm_k_X10_copy, List.forall_mem_cons.mpr ⟨mm_k_X10_cost, List.forall_mem_cons.mpr ⟨mm_k_X10_isBetween, List.forall_mem_cons.mpr ⟨mm_k_X10_isWaker, List.forall_mem_cons.mpr ⟨mm_k_X10_isWakerOrNobody, List.forall_mem_cons.mpr ⟨mm_k_X10_isShelf, List.forall_mem_cons.mpr ⟨mm_k_X10_kindNumbered, List.forall_mem_cons.mpr ⟨mm_k_X10_refusalUnless, List.forall_mem_cons.mpr ⟨mm_k_X10_refusedLong, fun _ h => absurd h List.not_mem_nil⟩⟩⟩⟩⟩⟩⟩⟩⟩⟩⟩⟩⟩⟩⟩⟩⟩⟩⟩⟩
def mm_tab_5 : List mm_Me := [mm_m_X10_digitsBehind, mm_m_X10_isLetter, mm_m_X10_firstBadByte, mm_m_X10_thinkDaysOn, mm_m_X10_owedBehindWithWaker, mm_m_X10_owedBehindWithMilk, mm_m_X10_owedBehindWithout, mm_m_X10_owedBehindKeeping, mm_m_X10_owedBehindFalls, mm_m_X10_mindOwesAsTold, mm_m_X10_gainInMind, mm_m_X10_fillDrunkBehind, mm_m_X10_bagsGoAsTold, mm_m_X10_matchCell, mm_m_X10_mostWokenFrom, mm_m_X10_fillMostWoken, mm_m_X10_firstMatchOf, mm_m_X10_power, mm_m_X10_partOfFraction, mm_m_X10_nextSeed]
theorem mm_chk_5 : ∀ M ∈ mm_tab_5, mm_good M = true := List.forall_mem_cons.mpr ⟨mm_k_X10_digitsBehind, List.forall_mem_cons.mpr ⟨mm_k_X10_isLetter, List.forall_mem_cons.mpr ⟨mm_k_X10_firstBadByte, List.forall_mem_cons.mpr ⟨mm_k_X10_thinkDaysOn, List.forall_mem_cons.mpr ⟨mm_k_X10_owedBehindWithWaker, List.forall_mem_cons.mpr ⟨mm_k_X10_owedBehindWithMilk, List.forall_mem_cons.mpr ⟨mm_k_X10_owedBehindWithout, List.forall_mem_cons.mpr ⟨mm_k_X10_owedBehindKeeping, List.forall_mem_cons.mpr ⟨mm_k_X10_owedBehindFalls, List.forall_mem_cons.mpr ⟨mm_k_X10_mindOwesAsTold, List.forall_mem_cons.mpr ⟨mm_k_X10_gainInMind, List.forall_mem_cons.mpr ⟨mm_k_X10_fillDrunkBehind, List.forall_mem_cons.mpr ⟨mm_k_X10_bagsGoAsTold, List.forall_mem_cons.mpr ⟨mm_k_X10_matchCell, List.forall_mem_cons.mpr ⟨mm_k_X10_mostWokenFrom, List.forall_mem_cons.mpr ⟨mm_k_X10_fillMostWoken, List.forall_mem_cons.mpr ⟨mm_k_X10_firstMatchOf, List.forall_mem_cons.mpr ⟨mm_k_X10_power, List.forall_mem_cons.mpr ⟨mm_k_X10_partOfFraction, List.forall_mem_cons.mpr ⟨mm_k_X10_nextSeed, fun _ h => absurd h List.not_mem_nil⟩⟩⟩⟩⟩⟩⟩⟩⟩⟩⟩⟩⟩⟩⟩⟩⟩⟩⟩⟩
def mm_tab_6 : List mm_Me := [mm_m_X10_drawOf, mm_m_X11_isIn, mm_m_X11_least, mm_m_X11_lessBy, mm_m_X11_copies, mm_m_X11_of, mm_m_X11_isDrinker, mm_m_X11_isWaker, mm_m_X11_isWakerOrNone, mm_m_X11_has, mm_m_X11_bits, mm_m_X11_drinksBy, mm_m_X11_tiresBy, mm_m_X11_owesBy, mm_m_X11_isAwake, mm_m_X11_wakesUp, mm_m_X11_drinks, mm_m_X11_liesDown, mm_m_X11_day, mm_m_X11_daysOn]
theorem mm_chk_6 : ∀ M ∈ mm_tab_6, mm_good M = true := List.forall_mem_cons.mpr ⟨mm_k_X10_drawOf, List.forall_mem_cons.mpr ⟨mm_k_X11_isIn, List.forall_mem_cons.mpr ⟨mm_k_X11_least, List.forall_mem_cons.mpr ⟨mm_k_X11_lessBy, List.forall_mem_cons.mpr ⟨mm_k_X11_copies, List.forall_mem_cons.mpr ⟨mm_k_X11_of, List.forall_mem_cons.mpr ⟨mm_k_X11_isDrinker, List.forall_mem_cons.mpr ⟨mm_k_X11_isWaker, List.forall_mem_cons.mpr ⟨mm_k_X11_isWakerOrNone, List.forall_mem_cons.mpr ⟨mm_k_X11_has, List.forall_mem_cons.mpr ⟨mm_k_X11_bits, List.forall_mem_cons.mpr ⟨mm_k_X11_drinksBy, List.forall_mem_cons.mpr ⟨mm_k_X11_tiresBy, List.forall_mem_cons.mpr ⟨mm_k_X11_owesBy, List.forall_mem_cons.mpr ⟨mm_k_X11_isAwake, List.forall_mem_cons.mpr ⟨mm_k_X11_wakesUp, List.forall_mem_cons.mpr ⟨mm_k_X11_drinks, List.forall_mem_cons.mpr ⟨mm_k_X11_liesDown, List.forall_mem_cons.mpr ⟨mm_k_X11_day, List.forall_mem_cons.mpr ⟨mm_k_X11_daysOn, fun _ h => absurd h List.not_mem_nil⟩⟩⟩⟩⟩⟩⟩⟩⟩⟩⟩⟩⟩⟩⟩⟩⟩⟩⟩⟩
def mm_tab_7 : List mm_Me := [mm_m_X11_allOwed, mm_m_X11_allTired, mm_m_X11_here, mm_m_X11_readsNumber, mm_m_X11_readsStatement, mm_m_X11_adds, mm_m_X11_isDone, mm_m_X11_treaty, mm_m_X11_nextOf, mm_m_X11_drinker, mm_m_X11_manyOf, mm_m_X11_waker, mm_m_X11_comes, mm_m_X11_sets, mm_m_X11_wakes, mm_m_X11_tires, mm_m_X11_sleeps, mm_m_X11_bags, mm_m_X11_days, mm_m_X11_isLate]
theorem mm_chk_7 : ∀ M ∈ mm_tab_7, mm_good M = true := List.forall_mem_cons.mpr ⟨mm_k_X11_allOwed, List.forall_mem_cons.mpr ⟨mm_k_X11_allTired, List.forall_mem_cons.mpr ⟨mm_k_X11_here, List.forall_mem_cons.mpr ⟨mm_k_X11_readsNumber, List.forall_mem_cons.mpr ⟨mm_k_X11_readsStatement, List.forall_mem_cons.mpr ⟨mm_k_X11_adds, List.forall_mem_cons.mpr ⟨mm_k_X11_isDone, List.forall_mem_cons.mpr ⟨mm_k_X11_treaty, List.forall_mem_cons.mpr ⟨mm_k_X11_nextOf, List.forall_mem_cons.mpr ⟨mm_k_X11_drinker, List.forall_mem_cons.mpr ⟨mm_k_X11_manyOf, List.forall_mem_cons.mpr ⟨mm_k_X11_waker, List.forall_mem_cons.mpr ⟨mm_k_X11_comes, List.forall_mem_cons.mpr ⟨mm_k_X11_sets, List.forall_mem_cons.mpr ⟨mm_k_X11_wakes, List.forall_mem_cons.mpr ⟨mm_k_X11_tires, List.forall_mem_cons.mpr ⟨mm_k_X11_sleeps, List.forall_mem_cons.mpr ⟨mm_k_X11_bags, List.forall_mem_cons.mpr ⟨mm_k_X11_days, List.forall_mem_cons.mpr ⟨mm_k_X11_isLate, fun _ h => absurd h List.not_mem_nil⟩⟩⟩⟩⟩⟩⟩⟩⟩⟩⟩⟩⟩⟩⟩⟩⟩⟩⟩⟩
def mm_tab_8 : List mm_Me := [mm_m_X11_takes, mm_m_X11_owesThen, mm_m_X11_tiredThen, mm_m_X11_then, mm_m_X11_firstAsleep, mm_m_X11_out, mm_m_X11_owedNow, mm_m_X11_bestWaker, mm_m_X11_canWake, mm_m_X11_matches, mm_m_X11_wakerOf, mm_m_X11_match, mm_m_X11_milk, mm_m_X11_fewest, mm_m_X11_store, mm_m_X11_heaviest, mm_m_X11_rest, mm_m_X11_leastOf, mm_m_X11_isTold, mm_m_X11_whatIs]
theorem mm_chk_8 : ∀ M ∈ mm_tab_8, mm_good M = true := List.forall_mem_cons.mpr ⟨mm_k_X11_takes, List.forall_mem_cons.mpr ⟨mm_k_X11_owesThen, List.forall_mem_cons.mpr ⟨mm_k_X11_tiredThen, List.forall_mem_cons.mpr ⟨mm_k_X11_then, List.forall_mem_cons.mpr ⟨mm_k_X11_firstAsleep, List.forall_mem_cons.mpr ⟨mm_k_X11_out, List.forall_mem_cons.mpr ⟨mm_k_X11_owedNow, List.forall_mem_cons.mpr ⟨mm_k_X11_bestWaker, List.forall_mem_cons.mpr ⟨mm_k_X11_canWake, List.forall_mem_cons.mpr ⟨mm_k_X11_matches, List.forall_mem_cons.mpr ⟨mm_k_X11_wakerOf, List.forall_mem_cons.mpr ⟨mm_k_X11_match, List.forall_mem_cons.mpr ⟨mm_k_X11_milk, List.forall_mem_cons.mpr ⟨mm_k_X11_fewest, List.forall_mem_cons.mpr ⟨mm_k_X11_store, List.forall_mem_cons.mpr ⟨mm_k_X11_heaviest, List.forall_mem_cons.mpr ⟨mm_k_X11_rest, List.forall_mem_cons.mpr ⟨mm_k_X11_leastOf, List.forall_mem_cons.mpr ⟨mm_k_X11_isTold, List.forall_mem_cons.mpr ⟨mm_k_X11_whatIs, fun _ h => absurd h List.not_mem_nil⟩⟩⟩⟩⟩⟩⟩⟩⟩⟩⟩⟩⟩⟩⟩⟩⟩⟩⟩⟩
def mm_tab_9 : List mm_Me := [mm_m_X11_isShedSo, mm_m_X11_shed, mm_m_X11_hasBy, mm_m_X11_two, mm_m_X11_gcd, mm_m_X11_partOf, mm_m_X11_falls, mm_m_X11_mean, mm_m_X11_forged, mm_m_X11_judge, mm_m_X11_drawn, mm_m_X11_years, mm_m_X11_image, mm_m_X11_restore, mm_m_X11_count, mm_m_X11_thrown, mm_m_X11_isShelf, mm_m_X11_wrongRow, mm_m_X11_wrongKept, mm_m_X11_keep]
theorem mm_chk_9 : ∀ M ∈ mm_tab_9, mm_good M = true := List.forall_mem_cons.mpr ⟨mm_k_X11_isShedSo, List.forall_mem_cons.mpr ⟨mm_k_X11_shed, List.forall_mem_cons.mpr ⟨mm_k_X11_hasBy, List.forall_mem_cons.mpr ⟨mm_k_X11_two, List.forall_mem_cons.mpr ⟨mm_k_X11_gcd, List.forall_mem_cons.mpr ⟨mm_k_X11_partOf, List.forall_mem_cons.mpr ⟨mm_k_X11_falls, List.forall_mem_cons.mpr ⟨mm_k_X11_mean, List.forall_mem_cons.mpr ⟨mm_k_X11_forged, List.forall_mem_cons.mpr ⟨mm_k_X11_judge, List.forall_mem_cons.mpr ⟨mm_k_X11_drawn, List.forall_mem_cons.mpr ⟨mm_k_X11_years, List.forall_mem_cons.mpr ⟨mm_k_X11_image, List.forall_mem_cons.mpr ⟨mm_k_X11_restore, List.forall_mem_cons.mpr ⟨mm_k_X11_count, List.forall_mem_cons.mpr ⟨mm_k_X11_thrown, List.forall_mem_cons.mpr ⟨mm_k_X11_isShelf, List.forall_mem_cons.mpr ⟨mm_k_X11_wrongRow, List.forall_mem_cons.mpr ⟨mm_k_X11_wrongKept, List.forall_mem_cons.mpr ⟨mm_k_X11_keep, fun _ h => absurd h List.not_mem_nil⟩⟩⟩⟩⟩⟩⟩⟩⟩⟩⟩⟩⟩⟩⟩⟩⟩⟩⟩⟩
def mm_tab_10 : List mm_Me := [mm_m_X11_row, mm_m_X11_put, mm_m_X11_element, mm_m_X11_copy, mm_m_X11_costBy, mm_m_X11_cost, mm_m_X11_toss, mm_m_J6_bitCount_0f7a4, mm_m_J7_fill_53178]
theorem mm_chk_10 : ∀ M ∈ mm_tab_10, mm_good M = true := List.forall_mem_cons.mpr ⟨mm_k_X11_row, List.forall_mem_cons.mpr ⟨mm_k_X11_put, List.forall_mem_cons.mpr ⟨mm_k_X11_element, List.forall_mem_cons.mpr ⟨mm_k_X11_copy, List.forall_mem_cons.mpr ⟨mm_k_X11_costBy, List.forall_mem_cons.mpr ⟨mm_k_X11_cost, List.forall_mem_cons.mpr ⟨mm_k_X11_toss, List.forall_mem_cons.mpr ⟨mm_k_J6_bitCount_0f7a4, List.forall_mem_cons.mpr ⟨mm_k_J7_fill_53178, fun _ h => absurd h List.not_mem_nil⟩⟩⟩⟩⟩⟩⟩⟩⟩
theorem mm_chk : ∀ M ∈ mm_tab, mm_good M = true := by
  show ∀ M ∈ mm_tab_0 ++ (mm_tab_1 ++ (mm_tab_2 ++ (mm_tab_3 ++ (mm_tab_4 ++ (mm_tab_5 ++ (mm_tab_6 ++ (mm_tab_7 ++ (mm_tab_8 ++ (mm_tab_9 ++ (mm_tab_10)))))))))), mm_good M = true
  exact List.forall_mem_append.mpr ⟨mm_chk_0, List.forall_mem_append.mpr ⟨mm_chk_1, List.forall_mem_append.mpr ⟨mm_chk_2, List.forall_mem_append.mpr ⟨mm_chk_3, List.forall_mem_append.mpr ⟨mm_chk_4, List.forall_mem_append.mpr ⟨mm_chk_5, List.forall_mem_append.mpr ⟨mm_chk_6, List.forall_mem_append.mpr ⟨mm_chk_7, List.forall_mem_append.mpr ⟨mm_chk_8, List.forall_mem_append.mpr ⟨mm_chk_9, mm_chk_10⟩⟩⟩⟩⟩⟩⟩⟩⟩⟩
theorem mm_mwords : mm_w 381 (.static Lib.Math.min.name) = true ∧ mm_w 382 (.code Lib.Math.min.name Lib.Math.min.code 2 (some .int)) = true ∧ mm_w 58 (.initialized "java/lang/Math") = true ∧ mm_w 340 (.static Lib.Math.max.name) = true ∧ mm_w 341 (.code Lib.Math.max.name Lib.Math.max.code 2 (some .int)) = true := by decide +kernel
theorem mm_awords : mm_w 290 (.native arraycopyName) = true ∧ mm_w 289 (.static arraycopyName) = true ∧ mm_w 56 (.initialized "java/lang/System") = true := by decide +kernel
theorem mm_ws_1 : (u_ws RX1 TX1 14).all (fun w => decide (w ∈ lw_tbl) && mm_okW w) = true := by decide +kernel
theorem mm_ws_8 : (u_ws RX8 TX8 6).all (fun w => decide (w ∈ lw_tbl) && mm_okW w) = true := by decide +kernel
theorem mm_ws_10 : (u_ws RX10 TX10 9).all (fun w => decide (w ∈ lw_tbl) && mm_okW w) = true := by decide +kernel
theorem mm_ws_11 : (u_ws RX11 TX11 19).all (fun w => decide (w ∈ lw_tbl) && mm_okW w) = true := by decide +kernel
end
section
/-! the small machine is the machine: the world, the locals, one step -/
theorem mm_w_in {i : Nat} {w : Cond} (h : mm_w i w = true) : w ∈ lw_tbl ∧ mm_okW w = true := by
  unfold mm_w at h
  simp only [Bool.and_eq_true, decide_eq_true_eq] at h
  exact ⟨List.mem_of_getElem? h.1, h.2⟩
theorem mm_okW_tab {w : Cond} (h : mm_okW w = true) : w.onTables = true := by
  unfold mm_okW at h
  rcases (Bool.or_eq_true _ _).mp h with h | h
  · exact ((Bool.and_eq_true _ _).mp h).1
  · split at h <;> first | rfl | cases h
theorem mm_warm {w : Cond} (hw : mm_okW w = true) {A A' : Array Value} {s U : State} (hW : s.WarmedH U.vm) (h : w.before A s = true) : w.before A' U = true := by
  unfold mm_okW at hw
  rcases (Bool.or_eq_true _ _).mp hw with h1 | h1
  · exact word_at hW (Or.inl h1) h
  · split at h1
    · exact va_Nw.use rfl (va_Nw.warmF hW (va_Nw.of rfl h))
    · exact va_Nw.use rfl (va_Nw.warmM hW (va_Nw.of rfl h))
    · exact va_Nw.use rfl (va_Nw.warmD hW (va_Nw.of rfl h))
    · exact va_Nw.use rfl (va_Nw.warmC hW (va_Nw.of rfl h))
    · cases h1
def mm_rv (ad : Nat → Nat) : Value → Value
  | .ref k => .ref (ad k)
  | v => v
def mm_T (U : State) : Prop := ∀ w ∈ lw_tbl, mm_okW w = true → w.before #[] U = true
theorem mm_T.at {U : State} (hT : mm_T U) {i : Nat} {w : Cond} (h : mm_w i w = true) (args : Array Value) : w.before args U = true :=
  va_tabs (mm_okW_tab (mm_w_in h).2) rfl (hT _ (mm_w_in h).1 (mm_w_in h).2)
theorem mm_T.warm {s U : State} (hT : mm_T s) (hW : s.WarmedH U.vm) : mm_T U := fun w h1 h2 => mm_warm h2 hW (hT w h1 h2)
theorem mm_T.same {s U : State} (hT : mm_T s) (hv : s.vm = U.vm) : mm_T U := fun w h1 h2 => va_tabs (mm_okW_tab h2) hv (hT w h1 h2)
theorem mm_fnd_mem : ∀ (cl : List mm_En) (pc : Nat) (e : Instr × List Nat × Value), mm_fnd cl pc = some e → (pc, e) ∈ cl
  | [], _, _, h => by cases h
  | a :: r, pc, e, h => by
    unfold mm_fnd at h
    cases hb : Nat.beq a.1 pc with
    | true =>
      rw [hb] at h
      cases h
      have := Nat.eq_of_beq_eq_true hb
      subst this
      exact List.mem_cons_self
    | false =>
      rw [hb] at h
      exact List.mem_cons_of_mem _ (mm_fnd_mem r pc e h)
/-! places -/
def mm_nf (ci : Nat) : Nat := match mm_cls[ci]? with
  | some q => q.2.2
  | none => 0
theorem mm_cl_lt {q : Nat} (h : mm_cl q < 12) : q < 65 := by
  rcases Nat.lt_or_ge q 65 with h1 | h1
  · exact h1
  · unfold mm_cl at h
    rw [List.getD_eq_getElem?_getD, List.getElem?_eq_none (by exact h1)] at h
    exact absurd h (by decide)
theorem mm_len_lt {q : Nat} (h : 0 < mm_len q) : q < 65 := by
  rcases Nat.lt_or_ge q 65 with h1 | h1
  · exact h1
  · unfold mm_len at h
    rw [List.getD_eq_getElem?_getD, List.getElem?_eq_none (by exact h1)] at h
    exact absurd h (by decide)
theorem mm_len_at0 : ∀ q, q < 65 → 0 < mm_len q → mm_cl q = 12 ∧ q ≠ 1 ∧ q ≠ 31 := by decide +kernel
theorem mm_len_at {q : Nat} (h : 0 < mm_len q) : q < 65 ∧ mm_cl q = 12 ∧ q ≠ 1 ∧ q ≠ 31 := ⟨mm_len_lt h, mm_len_at0 q (mm_len_lt h) h⟩
def mm_fs (ad : Nat → Nat) (q : Nat) (σ : mm_Sg) : List Value := (List.range (mm_nf (mm_cl q))).map (fun k => mm_rv ad (mm_fv (mm_cl q) k q σ))
def mm_cell (ad : Nat → Nat) (cI cK cS : ClassId) (q : Nat) (σ : mm_Sg) : va_E :=
  if mm_cl q < 12 then .inr (mm_cl q, mm_fs ad q σ)
  else if q = 1 then .inl (cK, 8, .inr (.inr (.inr (.inr (fun j => some (ad (mm_el q j)))))))
  else if q = 31 then .inl (cS, 8, .inr (.inr (.inr (.inr (fun j => some (ad (mm_el q j)))))))
  else .inl (cI, mm_len q, .inl (σ q))
def mm_cells (ad : Nat → Nat) (cI cK cS : ClassId) (σ : mm_Sg) : va_W := (List.range 65).map (fun q => (ad q, mm_cell ad cI cK cS q σ))
theorem mm_at {ad : Nat → Nat} {cI cK cS : ClassId} {σ : mm_Sg} {q : Nat} (h : q < 65) : (mm_cells ad cI cK cS σ)[q]? = some (ad q, mm_cell ad cI cK cS q σ) := by
  unfold mm_cells
  rw [List.getElem?_map, List.getElem?_range h]
  rfl
theorem mm_set {ad : Nat → Nat} {cI cK cS : ClassId} {σ σ' : mm_Sg} {q : Nat} {e : va_E} (he : mm_cell ad cI cK cS q σ' = e) (ho : ∀ a, a ≠ q → mm_cell ad cI cK cS a σ' = mm_cell ad cI cK cS a σ) : (mm_cells ad cI cK cS σ).set q (ad q, e) = mm_cells ad cI cK cS σ' := by
  subst he
  apply List.ext_getElem?
  intro j
  rw [List.getElem?_set]
  by_cases hj : q = j
  · subst hj
    rw [if_pos rfl]
    by_cases h : q < 65
    · rw [mm_at h, if_pos (by unfold mm_cells; simpa using h)]
    · rw [if_neg (by unfold mm_cells; simpa using h), List.getElem?_eq_none (by unfold mm_cells; simpa using Nat.not_lt.mp h)]
  · rw [if_neg hj]
    by_cases h : j < 65
    · rw [mm_at h, mm_at h, ho j (fun e => hj e.symm)]
    · rw [List.getElem?_eq_none (by unfold mm_cells; simpa using Nat.not_lt.mp h), List.getElem?_eq_none (by unfold mm_cells; simpa using Nat.not_lt.mp h)]
theorem mm_obj {ad : Nat → Nat} {cI cK cS : ClassId} {σ : mm_Sg} {q ci : Nat} (h : mm_cl q = ci) (hc : ci < 12) : (mm_cells ad cI cK cS σ)[q]? = some (ad q, .inr (ci, mm_fs ad q σ)) := by
  subst h
  rw [mm_at (mm_cl_lt hc)]
  unfold mm_cell
  rw [if_pos hc]
theorem mm_row {ad : Nat → Nat} {cI cK cS : ClassId} {σ : mm_Sg} {q : Nat} (h : 0 < mm_len q) : (mm_cells ad cI cK cS σ)[q]? = some (ad q, .inl (cI, mm_len q, .inl (σ q))) := by
  obtain ⟨h1, h2, h3, h4⟩ := mm_len_at h
  rw [mm_at h1]
  unfold mm_cell
  rw [if_neg (by rw [h2]; decide), if_neg h3, if_neg h4]
theorem mm_u_o {σ : mm_Sg} {q k : Nat} {x : Int32} {a : Nat} (h : a ≠ q) : mm_u σ q k x a = σ a := by
  funext j
  unfold mm_u
  rw [if_neg h]
theorem mm_u_s {σ : mm_Sg} {q k : Nat} {x : Int32} : mm_u σ q k x q = upd (σ q) k x := by
  funext j
  unfold mm_u upd
  rw [if_pos rfl]
theorem mm_cell_o {ad : Nat → Nat} {cI cK cS : ClassId} {σ σ' : mm_Sg} {a : Nat} (h : σ' a = σ a) : mm_cell ad cI cK cS a σ' = mm_cell ad cI cK cS a σ := by
  have e : mm_fs ad a σ' = mm_fs ad a σ := by
    unfold mm_fs
    apply List.map_congr_left
    intro k _
    unfold mm_fv
    rw [h]
  unfold mm_cell
  rw [e, h]
theorem mm_set_row {ad : Nat → Nat} {cI cK cS : ClassId} {σ σ' : mm_Sg} {q : Nat} (h : 0 < mm_len q) (ho : ∀ a, a ≠ q → σ' a = σ a) : (mm_cells ad cI cK cS σ).set q (ad q, .inl (cI, mm_len q, .inl (σ' q))) = mm_cells ad cI cK cS σ' := by
  obtain ⟨h1, h2, h3, h4⟩ := mm_len_at h
  refine mm_set ?_ (fun a ha => mm_cell_o (ho a ha))
  unfold mm_cell
  rw [if_neg (by rw [h2]; decide), if_neg h3, if_neg h4]
theorem mm_rf_q {ci k q : Nat} (h : mm_rf ci k 0 = none) : mm_rf ci k q = none := by
  unfold mm_rf at h ⊢
  split at h <;> first | rfl | cases h
theorem mm_set_obj {ad : Nat → Nat} {cI cK cS : ClassId} {σ : mm_Sg} {q ci k : Nat} {y : Int32} (h : mm_cl q = ci) (hc : ci < 12) (hr : mm_rf ci k 0 = none) : (mm_cells ad cI cK cS σ).set q (ad q, .inr (ci, (mm_fs ad q σ).set k (.int y))) = mm_cells ad cI cK cS (mm_u σ q k y) := by
  subst h
  refine mm_set ?_ (fun a ha => mm_cell_o (mm_u_o ha))
  unfold mm_cell
  rw [if_pos hc]
  congr 2
  unfold mm_fs
  apply List.ext_getElem?
  intro j
  rw [List.getElem?_set, List.getElem?_map, List.getElem?_map, List.length_map, List.length_range]
  by_cases hj : k = j
  · subst hj
    rw [if_pos rfl]
    by_cases hk : k < mm_nf (mm_cl q)
    · rw [List.getElem?_range hk, if_pos hk]
      show some (mm_rv ad (mm_fv (mm_cl q) k q (mm_u σ q k y))) = _
      unfold mm_fv
      rw [mm_rf_q hr, mm_u_s]
      simp [upd, mm_rv]
    · rw [if_neg hk, List.getElem?_eq_none (by simpa using Nat.not_lt.mp hk)]
      rfl
  · rw [if_neg hj]
    by_cases hk : j < mm_nf (mm_cl q)
    · rw [List.getElem?_range hk]
      show some (mm_rv ad (mm_fv (mm_cl q) j q (mm_u σ q k y))) = some (mm_rv ad (mm_fv (mm_cl q) j q σ))
      unfold mm_fv
      rw [mm_u_s]
      have : upd (σ q) k y j = σ q j := by unfold upd; rw [if_neg (fun e => hj e.symm)]
      rw [this]
    · rw [List.getElem?_eq_none (by simpa using Nat.not_lt.mp hk)]
      rfl
theorem mm_cls_lt {ci : Nat} {q : vw_C} (h : mm_cls[ci]? = some q) : ci < 12 := (List.getElem?_eq_some_iff.mp h).1
theorem mm_fs_at {ad : Nat → Nat} {σ : mm_Sg} {q k : Nat} {r : vw_C} (h : mm_cls[mm_cl q]? = some r) (hk : k < r.2.2) : (mm_fs ad q σ)[k]? = some (mm_rv ad (mm_fv (mm_cl q) k q σ)) := by
  have e : mm_nf (mm_cl q) = r.2.2 := by unfold mm_nf; rw [h]
  unfold mm_fs
  rw [List.getElem?_map, List.getElem?_range (by rw [e]; exact hk)]
  rfl
theorem mm_fs_len {ad : Nat → Nat} {σ : mm_Sg} {q k : Nat} {r : vw_C} (h : mm_cls[mm_cl q]? = some r) (hk : k < r.2.2) : k < (mm_fs ad q σ).length := by
  have e : mm_nf (mm_cl q) = r.2.2 := by unfold mm_nf; rw [h]
  unfold mm_fs
  simp only [List.length_map, List.length_range]
  rw [e]
  exact hk
/-- the fields' types, the words of a class -/
theorem mm_ty (ci : Nat) (q : vw_C) (h : mm_cls[ci]? = some q) : (∀ w ∈ u_ws q.1 q.2.1 q.2.2, w ∈ lw_tbl ∧ mm_okW w = true) ∧ ∃ ty : Nat → FieldType, (∀ k, k < q.2.2 → parseFieldDescriptor (q.2.1 k).2.2.1 = some (ty k)) ∧ (∀ a, a < q.2.2 → ∀ b, b < q.2.2 → a ≠ b → (q.2.1 a).2.1 ≠ (q.2.1 b).2.1) ∧ ∀ k, k < q.2.2 → mm_rf ci k 0 = none → ty k = .int ∨ (ty k = .boolean ∧ mm_fz ci k = true) := by
  have hw : ∀ ws : List Cond, ws.all (fun w => decide (w ∈ lw_tbl) && mm_okW w) = true → ∀ w ∈ ws, w ∈ lw_tbl ∧ mm_okW w = true := by
    intro ws h w hw
    have h1 := List.all_eq_true.mp h w hw
    simp only [Bool.and_eq_true, decide_eq_true_eq] at h1
    exact h1
  match ci, h with
  | 0, h => cases h; exact ⟨(fun w hw => by cases hw), tyX0, tyX0_ok, nmX0, by decide +kernel⟩
  | 1, h => cases h; exact ⟨(hw _ mm_ws_1), tyX1, tyX1_ok, nmX1, by decide +kernel⟩
  | 2, h => cases h; exact ⟨(fun w hw => by cases hw), tyX2, tyX2_ok, nmX2, by decide +kernel⟩
  | 3, h => cases h; exact ⟨(fun w hw => by cases hw), tyX3, tyX3_ok, nmX3, by decide +kernel⟩
  | 4, h => cases h; exact ⟨(fun w hw => by cases hw), tyX4, tyX4_ok, nmX4, by decide +kernel⟩
  | 5, h => cases h; exact ⟨(fun w hw => by cases hw), tyX5, tyX5_ok, nmX5, by decide +kernel⟩
  | 6, h => cases h; exact ⟨(fun w hw => by cases hw), tyX6, tyX6_ok, nmX6, by decide +kernel⟩
  | 7, h => cases h; exact ⟨(fun w hw => by cases hw), tyX7, tyX7_ok, nmX7, by decide +kernel⟩
  | 8, h => cases h; exact ⟨(hw _ mm_ws_8), tyX8, tyX8_ok, nmX8, by decide +kernel⟩
  | 9, h => cases h; exact ⟨(fun w hw => by cases hw), tyX9, tyX9_ok, nmX9, by decide +kernel⟩
  | 10, h => cases h; exact ⟨(hw _ mm_ws_10), tyX10, tyX10_ok, nmX10, by decide +kernel⟩
  | 11, h => cases h; exact ⟨(hw _ mm_ws_11), tyX11, tyX11_ok, nmX11, by decide +kernel⟩
  | n + 12, h => exact absurd (mm_cls_lt h) (by omega)
/-! locals -/
def mm_L (ad : Nat → Nat) (ls : Array Slot) (nL : Nat) (lv : List Value) : Prop := ls.size = nL ∧ lv.length = nL ∧ lv_wf ls ∧ ∀ (i : Nat) (v : Value), lv[i]? = some v → v ≠ .null → ls[i]? = some (.val (mm_rv ad v))
theorem mm_cat (ad : Nat → Nat) (v : Value) : (mm_rv ad v).category = v.category := by cases v <;> rfl
theorem mm_ssr (ad : Nat → Nat) (st : List Value) : ((st.map (mm_rv ad)).map fun v => v.category).sum = mm_ss st := by
  unfold mm_ss
  rw [List.map_map]
  congr 1
  exact List.map_congr_left (fun v _ => mm_cat ad v)
def mm_asc (ad : Nat → Nat) (lv : List Value) : List (Nat × Value) := (List.range lv.length).filterMap (fun i => match lv[i]? with
  | some v => if v = .null then none else some (i, mm_rv ad v)
  | none => none)
theorem mm_asc_mem {ad : Nat → Nat} {lv : List Value} {q : Nat × Value} : q ∈ mm_asc ad lv ↔ ∃ v, lv[q.1]? = some v ∧ v ≠ .null ∧ q.2 = mm_rv ad v := by
  unfold mm_asc
  rw [List.mem_filterMap]
  constructor
  · rintro ⟨i, -, hi⟩
    cases h : lv[i]? with
    | none => rw [h] at hi; cases hi
    | some v =>
      rw [h] at hi
      by_cases hn : v = .null
      · simp [hn] at hi
      · simp only [if_neg hn] at hi
        cases hi
        exact ⟨v, h, hn, rfl⟩
  · rintro ⟨v, h1, h2, h3⟩
    refine ⟨q.1, List.mem_range.mpr (List.getElem?_eq_some_iff.mp h1).1, ?_⟩
    rw [h1]
    simp only [if_neg h2]
    rw [← h3]
theorem mm_L.has {ad : Nat → Nat} {ls : Array Slot} {nL : Nat} {lv : List Value} (h : mm_L ad ls nL lv) : lv_has ls nL (mm_asc ad lv) := by
  refine ⟨h.1, h.2.2.1, fun q hq => ?_⟩
  obtain ⟨v, h1, h2, h3⟩ := mm_asc_mem.mp hq
  rw [h3]
  exact h.2.2.2 _ _ h1 h2
theorem mm_L.at {ad : Nat → Nat} {ls : Array Slot} {nL : Nat} {lv : List Value} (h : mm_L ad ls nL lv) {i : Nat} {v : Value} (hv : lv[i]? = some v) (hn : v ≠ .null) : ls[i]? = some (.val (mm_rv ad v)) := h.2.2.2 i v hv hn
theorem mm_cat2 {v : Value} (h : v.category = 2) : (∃ y, v = .long y) ∨ ∃ y, v = .double y := by
  cases v <;> first | exact Or.inl ⟨_, rfl⟩ | exact Or.inr ⟨_, rfl⟩ | (simp [Value.category] at h)
theorem mm_pl_f {lv : List Value} {i j : Nat} {w : Value} (h : mm_pl lv i = false) (hj : lv[j]? = some w) (e : j + 1 = i) : w.category = 1 := by
  subst e
  unfold mm_pl at h
  rcases lv_cat w with q | q
  · exact q
  · rcases mm_cat2 q with ⟨y, rfl⟩ | ⟨y, rfl⟩ <;> simp [hj] at h
theorem mm_L.set1 {ad : Nat → Nat} {ls ls' : Array Slot} {nL : Nat} {lv : List Value} {i : Nat} {v : Value} (h : mm_L ad ls nL lv) (hp : mm_pl lv i = false) (h' : lv_has ls' nL ((i, mm_rv ad v) :: (mm_asc ad lv).filter (fun q => !(q.1 == i) && !(q.1 + 1 == i && q.2.category == 2)))) : mm_L ad ls' nL (lv.set i v) := by
  refine ⟨h'.1, by simpa using h.2.1, h'.2.1, fun j w hj hn => ?_⟩
  rw [List.getElem?_set] at hj
  by_cases e : i = j
  · subst e
    rw [if_pos rfl] at hj
    split at hj
    · cases hj
      exact h'.2.2 _ List.mem_cons_self
    · cases hj
  · rw [if_neg e] at hj
    refine h'.2.2 (j, mm_rv ad w) (List.mem_cons_of_mem _ (List.mem_filter.mpr ⟨mm_asc_mem.mpr ⟨w, hj, hn, rfl⟩, ?_⟩))
    have e1 : (j == i) = false := by simpa using fun q : j = i => e q.symm
    by_cases e2 : j + 1 = i
    · have := mm_pl_f hp hj e2
      simp [e1, mm_cat, this]
    · simp [e1, e2]
theorem mm_L.set2 {ad : Nat → Nat} {ls ls' : Array Slot} {nL : Nat} {lv : List Value} {i : Nat} {v : Value} (h : mm_L ad ls nL lv) (hp : mm_pl lv i = false) (h' : lv_has ls' nL ((i, mm_rv ad v) :: (mm_asc ad lv).filter (fun q => !(q.1 == i) && (!(q.1 == i + 1) && !(q.1 + 1 == i && q.2.category == 2))))) : mm_L ad ls' nL ((lv.set i v).set (i + 1) .null) := by
  refine ⟨h'.1, by simpa using h.2.1, h'.2.1, fun j w hj hn => ?_⟩
  rw [List.getElem?_set] at hj
  by_cases e0 : i + 1 = j
  · subst e0
    rw [if_pos rfl] at hj
    split at hj
    · cases hj
      exact absurd rfl hn
    · cases hj
  rw [if_neg e0, List.getElem?_set] at hj
  by_cases e : i = j
  · subst e
    rw [if_pos rfl] at hj
    split at hj
    · cases hj
      exact h'.2.2 _ List.mem_cons_self
    · cases hj
  · rw [if_neg e] at hj
    refine h'.2.2 (j, mm_rv ad w) (List.mem_cons_of_mem _ (List.mem_filter.mpr ⟨mm_asc_mem.mpr ⟨w, hj, hn, rfl⟩, ?_⟩))
    have e1 : (j == i) = false := by simpa using fun q : j = i => e q.symm
    have e3 : (j == i + 1) = false := by simpa using fun q : j = i + 1 => e0 q.symm
    by_cases e2 : j + 1 = i
    · have := mm_pl_f hp hj e2
      simp [e1, e3, mm_cat, this]
    · simp [e1, e2, e3]
end
section
/-! one step -/
abbrev mm_tys (cI cK cS : ClassId) : List (ClassId × FieldType) := [(cI, .int), (cK, .object RX4), (cS, .object RX8)]
def mm_WW (p : Program) (l : Launch) (e : Env) (R : Room) (s : State) (m : MethodId) (args : Array Value) (below : List Frame) (meth : Method) (c : Code) (cells slots : Nat) (Q : State → Prop) (ad : Nat → Nat) (G : va_G) (cI cK cS : ClassId) (A : Nat → Prop) (H0 : Heap) (nL : Nat) (S : mm_St) : Prop :=
  ∀ (ls : Array Slot) (H : Heap) (locs : List Loc), mm_L ad ls nL S.2.1 → va_P G mm_cls (mm_cells ad cI cK cS S.2.2.2) H → va_S A H0 H locs → W p l e R s m args below meth c H locs cells slots Q (F0 m S.1 ls (S.2.2.1.map (mm_rv ad)))
def mm_Fr (p : Program) (s : State) (m : MethodId) (c : Code) (ad : Nat → Nat) (G : va_G) (cI cK cS : ClassId) (A : Nat → Prop) (M : mm_Me) : Prop :=
  p.tables.exec = Jvm.exec ∧ c.code = mm_by M ∧ c.maxLocals = mm_nL M ∧ s.vm.findClass (mm_y M).cls = some m.cls ∧ va_K G mm_cls (mm_tys cI cK cS) s ∧ mm_T s ∧ ∀ σ, va_D A (mm_cells ad cI cK cS σ)
theorem mm_k1 {i k : Nat} (h : decide ([i] = [k]) = true) : k = i := by
  have := of_decide_eq_true h
  cases this
  rfl
theorem mm_tsw_spec (a : Int32) (d : Nat) : ∀ (ts : List Nat) (lo : Nat), (∃ j t, ts[j]? = some t ∧ a = nI (lo + j) ∧ mm_tsw a d lo ts = t) ∨ ((∀ j, j < ts.length → a ≠ nI (lo + j)) ∧ mm_tsw a d lo ts = d)
  | [], lo => Or.inr ⟨fun j h => absurd h (Nat.not_lt_zero j), rfl⟩
  | t :: r, lo => by
    unfold mm_tsw
    by_cases h : a = nI lo
    · rw [if_pos h]
      exact Or.inl ⟨0, t, rfl, h, rfl⟩
    · rw [if_neg h]
      rcases mm_tsw_spec a d r (lo + 1) with ⟨j, u, h1, h2, h3⟩ | ⟨h1, h2⟩
      · exact Or.inl ⟨j + 1, u, h1, by rw [h2]; congr 1; omega, h3⟩
      · refine Or.inr ⟨fun j hj => ?_, h2⟩
        cases j with
        | zero => exact h
        | succ j =>
          have := h1 j (by simpa using hj)
          rw [show lo + (j + 1) = lo + 1 + j by omega]
          exact this
theorem mm_lsw_spec (a : Int32) (pc d : Int) (t : Nat) (hd : pc + d = (t : Int)) : ∀ (ps : List (Int × Int)) (ts : List Nat), ps.flatMap (fun a => [a.1, pc + a.2]) = ts.map (fun (t : Nat) => (t : Int)) → (∀ t ∈ ts, t < 100000) → pc + Op.lookupswitch.offset ps d a.toInt = (mm_lsw a t ts : Int)
  | [], ts, h, _ => by
    cases ts with
    | nil => simpa [Op.lookupswitch.offset, mm_lsw] using hd
    | cons u r => simp at h
  | q :: ps, ts, h, hs => by
    obtain ⟨k, o⟩ := q
    match ts, h, hs with
    | [], h, _ => simp at h
    | [u], h, _ =>
      have := congrArg List.length h
      simp at this
    | u :: w :: r, h, hs =>
      simp only [List.flatMap_cons, List.map_cons, List.cons_append, List.nil_append] at h
      injection h with h1 h2
      injection h2 with h2 h3
      have hu : u < 100000 := hs u List.mem_cons_self
      have ht : (nI u).toInt = k := by rw [nI_toInt (by omega), h1]
      unfold mm_lsw
      by_cases e : a = nI u
      · rw [if_pos e, Op.lookupswitch.offset_cons, if_pos (by rw [e, ht])]
        exact h2
      · rw [if_neg e, lv_osw e ht]
        exact mm_lsw_spec a pc d t hd ps r h3 (fun t ht => hs t (List.mem_cons_of_mem _ (List.mem_cons_of_mem _ ht)))
theorem mm_set_cp {ad : Nat → Nat} {cI cK cS : ClassId} {σ : mm_Sg} {a0 sp a dp n : Nat} (h : 0 < mm_len a) : (mm_cells ad cI cK cS σ).set a (ad a, .inl (cI, mm_len a, .inl (va_cpy (σ a0) (σ a) sp dp n))) = mm_cells ad cI cK cS (mm_cp σ a0 sp a dp n) := by
  have e := mm_set_row (ad := ad) (cI := cI) (cK := cK) (cS := cS) (σ := σ) (σ' := mm_cp σ a0 sp a dp n) h (fun b hb => by unfold mm_cp; rw [if_neg hb])
  rwa [show mm_cp σ a0 sp a dp n a = va_cpy (σ a0) (σ a) sp dp n by unfold mm_cp; rw [if_pos rfl]] at e
section MMstep
variable {p : Program} {l : Launch} {e : Env} {R : Room} {s : State} {m : MethodId} {args : Array Value} {below : List Frame} {meth : Method} {c : Code} {cells slots : Nat} {Q : State → Prop} {ad : Nat → Nat} {G : va_G} {cI cK cS : ClassId} {A : Nat → Prop} {H0 : Heap}
set_option maxHeartbeats 8000000 in
set_option maxRecDepth 20000 in
theorem mm_step {M : mm_Me} (hM : (mm_code M).all (mm_eok M) = true) (F : mm_Fr p s m c ad G cI cK cS A M) (hR : 38 * mm_lv M ≤ R.locals ∧ mm_lv M ≤ R.frames ∧ cells ≤ R.cells ∧ slots ≤ R.slots) {S S' : mm_St} {cs : List Prop} (h : mm_stp (mm_code M) S = some (S', cs)) (hc : mm_all cs)
    (K : mm_WW p l e R s m args below meth c cells slots Q ad G cI cK cS A H0 (mm_nL M) S') : mm_WW p l e R s m args below meth c cells slots Q ad G cI cK cS A H0 (mm_nL M) S := by
  obtain ⟨pc, lv, st, σ⟩ := S
  obtain ⟨hx, hb, hml, hown, hK, hT, hD⟩ := F
  unfold mm_stp at h
  dsimp only at h
  cases hf : mm_fnd (mm_code M) pc with
  | none => rw [hf] at h; cases h
  | some q =>
  obtain ⟨i, x, v⟩ := q
  rw [hf] at h
  dsimp only at h
  have hok : mm_eok M (pc, i, x, v) = true := by
    exact List.all_eq_true.mp hM _ (mm_fnd_mem _ _ _ hf)
  unfold mm_eok at hok
  simp only [Bool.and_eq_true, decide_eq_true_eq] at hok
  obtain ⟨hdec, hi⟩ := hok
  have wd : ∀ {i : Nat} {w : Cond}, mm_w i w = true → w.before args s = true := fun h => hT.at h args
  cases i
  case iconst n =>
    dsimp only [mm_ex] at h
    cases h
    have e9 := of_decide_eq_true (show decide (v = _) = true from hi)
    subst e9
    exact fun ls H locs hL hP hS => lv_iconst hx hb hdec rfl (K ls H locs hL hP hS)
  case bipush n =>
    dsimp only [mm_ex] at h
    cases h
    have e9 := of_decide_eq_true (show decide (v = _) = true from hi)
    subst e9
    exact fun ls H locs hL hP hS => lv_bipush hx hb hdec rfl (K ls H locs hL hP hS)
  case sipush n =>
    dsimp only [mm_ex] at h
    cases h
    have e9 := of_decide_eq_true (show decide (v = _) = true from hi)
    subst e9
    exact fun ls H locs hL hP hS => lv_sipush hx hb hdec rfl (K ls H locs hL hP hS)
  case lconst n =>
    dsimp only [mm_ex] at h
    cases h
    have e9 := of_decide_eq_true (show decide (v = _) = true from hi)
    subst e9
    exact fun ls H locs hL hP hS => lv_lconst hx hb hdec rfl (K ls H locs hL hP hS)
  case ldc n =>
    dsimp only [mm_ex] at h
    cases h
    dsimp only [mm_iok] at hi
    split at hi
    · exact fun ls H locs hL hP hS => lv_ldc hx hb hown (wd hi) hdec (K ls H locs hL hP hS)
    · cases hi
  case ldc_w n =>
    dsimp only [mm_ex] at h
    cases h
    dsimp only [mm_iok] at hi
    split at hi
    · exact fun ls H locs hL hP hS => lv_ldcw hx hb hown (wd hi) hdec (K ls H locs hL hP hS)
    · cases hi
  case ldc2_w n =>
    dsimp only [mm_ex] at h
    cases h
    dsimp only [mm_iok] at hi
    split at hi
    · exact fun ls H locs hL hP hS => lv_ldc2 hx hb hown (wd hi) hdec (K ls H locs hL hP hS)
    · cases hi
  case iload_n k =>
    dsimp only [mm_ex] at h
    split at h
    · split at h
      · rename_i heq
        cases h
        exact fun ls H locs hL hP hS => lv_iload_n hx hb hdec (mm_k1 hi) (hL.at heq (fun q => nomatch q)) (K ls H locs hL hP hS)
      · cases h
    · cases h
  case iload k =>
    dsimp only [mm_ex] at h
    split at h
    · split at h
      · rename_i heq
        cases h
        have e9 := mm_k1 hi
        subst e9
        exact fun ls H locs hL hP hS => lv_iload hx hb hdec (hL.at heq (fun q => nomatch q)) (K ls H locs hL hP hS)
      · cases h
    · cases h
  case lload_n k =>
    dsimp only [mm_ex] at h
    split at h
    · split at h
      · rename_i heq
        cases h
        exact fun ls H locs hL hP hS => lv_lload_n hx hb hdec (mm_k1 hi) (hL.at heq (fun q => nomatch q)) (K ls H locs hL hP hS)
      · cases h
    · cases h
  case lload k =>
    dsimp only [mm_ex] at h
    split at h
    · split at h
      · rename_i heq
        cases h
        have e9 := mm_k1 hi
        subst e9
        exact fun ls H locs hL hP hS => lv_lload hx hb hdec (hL.at heq (fun q => nomatch q)) (K ls H locs hL hP hS)
      · cases h
    · cases h
  case aload_n k =>
    dsimp only [mm_ex] at h
    split at h
    · split at h
      · rename_i heq
        cases h
        exact fun ls H locs hL hP hS => lv_aload_n hx hb hdec (mm_k1 hi) (hL.at heq (fun q => nomatch q)) (K ls H locs hL hP hS)
      · cases h
    · cases h
  case aload k =>
    dsimp only [mm_ex] at h
    split at h
    · split at h
      · rename_i heq
        cases h
        have e9 := mm_k1 hi
        subst e9
        exact fun ls H locs hL hP hS => lv_aload hx hb hdec (hL.at heq (fun q => nomatch q)) (K ls H locs hL hP hS)
      · cases h
    · cases h
  case istore_n k =>
    dsimp only [mm_ex] at h
    split at h
    · rename_i i9 y9 r9
      cases hb2 : (Nat.blt i9 lv.length && !(mm_pl lv i9)) with
      | false => rw [hb2] at h; cases h
      | true =>
        rw [hb2] at h
        cases h
        simp only [Bool.and_eq_true, Bool.not_eq_true'] at hb2
        intro ls H locs hL hP hS
        exact lv_istore_n hx hb hdec (mm_k1 hi) hL.has (by have h2 : lv.length = mm_nL M := hL.2.1; have h3 := Nat.blt_eq.mp hb2.1; omega) rfl (fun ls' h' => K ls' H locs (hL.set1 hb2.2 h') hP hS)
    · cases h
  case istore k =>
    dsimp only [mm_ex] at h
    split at h
    · rename_i i9 y9 r9
      cases hb2 : (Nat.blt i9 lv.length && !(mm_pl lv i9)) with
      | false => rw [hb2] at h; cases h
      | true =>
        rw [hb2] at h
        cases h
        simp only [Bool.and_eq_true, Bool.not_eq_true'] at hb2
        have e9 := mm_k1 hi
        subst e9
        intro ls H locs hL hP hS
        exact lv_istore hx hb hdec hL.has (by have h2 : lv.length = mm_nL M := hL.2.1; have h3 := Nat.blt_eq.mp hb2.1; omega) rfl (fun ls' h' => K ls' H locs (hL.set1 hb2.2 h') hP hS)
    · cases h
  case astore_n k =>
    dsimp only [mm_ex] at h
    split at h
    · rename_i i9 y9 r9
      cases hb2 : (Nat.blt i9 lv.length && !(mm_pl lv i9)) with
      | false => rw [hb2] at h; cases h
      | true =>
        rw [hb2] at h
        cases h
        simp only [Bool.and_eq_true, Bool.not_eq_true'] at hb2
        intro ls H locs hL hP hS
        exact lv_astore_n hx hb hdec (mm_k1 hi) hL.has (by have h2 : lv.length = mm_nL M := hL.2.1; have h3 := Nat.blt_eq.mp hb2.1; omega) rfl (fun ls' h' => K ls' H locs (hL.set1 hb2.2 h') hP hS)
    · cases h
  case astore k =>
    dsimp only [mm_ex] at h
    split at h
    · rename_i i9 y9 r9
      cases hb2 : (Nat.blt i9 lv.length && !(mm_pl lv i9)) with
      | false => rw [hb2] at h; cases h
      | true =>
        rw [hb2] at h
        cases h
        simp only [Bool.and_eq_true, Bool.not_eq_true'] at hb2
        have e9 := mm_k1 hi
        subst e9
        intro ls H locs hL hP hS
        exact lv_astore hx hb hdec hL.has (by have h2 : lv.length = mm_nL M := hL.2.1; have h3 := Nat.blt_eq.mp hb2.1; omega) rfl (fun ls' h' => K ls' H locs (hL.set1 hb2.2 h') hP hS)
    · cases h
  case lstore_n k =>
    dsimp only [mm_ex] at h
    split at h
    · rename_i i9 y9 r9
      cases hb2 : (Nat.blt (i9 + 1) lv.length && !(mm_pl lv i9)) with
      | false => rw [hb2] at h; cases h
      | true =>
        rw [hb2] at h
        cases h
        simp only [Bool.and_eq_true, Bool.not_eq_true'] at hb2
        have e9 := mm_k1 hi
        skip
        intro ls H locs hL hP hS
        exact lv_lstore_n hx hb hdec e9 hL.has (by have h2 : lv.length = mm_nL M := hL.2.1; have h3 := Nat.blt_eq.mp hb2.1; omega) rfl (fun ls' h' => K ls' H locs (hL.set2 hb2.2 h') hP hS)
    · cases h
  case lstore k =>
    dsimp only [mm_ex] at h
    split at h
    · rename_i i9 y9 r9
      cases hb2 : (Nat.blt (i9 + 1) lv.length && !(mm_pl lv i9)) with
      | false => rw [hb2] at h; cases h
      | true =>
        rw [hb2] at h
        cases h
        simp only [Bool.and_eq_true, Bool.not_eq_true'] at hb2
        have e9 := mm_k1 hi
        subst e9
        intro ls H locs hL hP hS
        exact lv_lstore hx hb hdec hL.has (by have h2 : lv.length = mm_nL M := hL.2.1; have h3 := Nat.blt_eq.mp hb2.1; omega) rfl (fun ls' h' => K ls' H locs (hL.set2 hb2.2 h') hP hS)
    · cases h
  case iinc k n =>
    dsimp only [mm_ex] at h
    split at h
    · split at h
      · rename_i i9 c9 _ y9 heq
        cases hb2 : (!(mm_pl lv i9)) with
        | false => rw [hb2] at h; cases h
        | true =>
          rw [hb2] at h
          cases h
          simp only [Bool.not_eq_true'] at hb2
          dsimp only [mm_iok] at hi
          have hi := (Bool.and_eq_true _ _).mp hi
          have e9 := mm_k1 hi.1
          have e8 := of_decide_eq_true hi.2
          subst e9
          cases e8
          intro ls H locs hL hP hS
          obtain ⟨k9, hk9⟩ := List.getElem?_of_mem (mm_asc_mem.mpr ⟨_, heq, (fun q => nomatch q), rfl⟩ : (k, mm_rv ad (.int y9)) ∈ mm_asc ad lv)
          exact lv_iinc hx hb hdec hL.has hk9 rfl (by have h2 : lv.length = mm_nL M := hL.2.1; have h3 := (List.getElem?_eq_some_iff.mp heq).1; omega) rfl (fun ls' h' => K ls' H locs (hL.set1 hb2 h') hP hS)
      · cases h
    · cases h
  case iadd =>
    dsimp only [mm_ex] at h
    split at h
    · cases h
      exact fun ls H locs hL hP hS => lv_iadd hx hb hdec (K ls H locs hL hP hS)
    · cases h
  case isub =>
    dsimp only [mm_ex] at h
    split at h
    · cases h
      exact fun ls H locs hL hP hS => lv_isub hx hb hdec (K ls H locs hL hP hS)
    · cases h
  case imul =>
    dsimp only [mm_ex] at h
    split at h
    · cases h
      exact fun ls H locs hL hP hS => lv_imul hx hb hdec (K ls H locs hL hP hS)
    · cases h
  case iand =>
    dsimp only [mm_ex] at h
    split at h
    · cases h
      exact fun ls H locs hL hP hS => lv_iand hx hb hdec (K ls H locs hL hP hS)
    · cases h
  case ior =>
    dsimp only [mm_ex] at h
    split at h
    · cases h
      exact fun ls H locs hL hP hS => lv_ior hx hb hdec (K ls H locs hL hP hS)
    · cases h
  case ixor =>
    dsimp only [mm_ex] at h
    split at h
    · cases h
      exact fun ls H locs hL hP hS => lv_ixor hx hb hdec (K ls H locs hL hP hS)
    · cases h
  case ishl =>
    dsimp only [mm_ex] at h
    split at h
    · cases h
      exact fun ls H locs hL hP hS => lv_ishl hx hb hdec (K ls H locs hL hP hS)
    · cases h
  case ishr =>
    dsimp only [mm_ex] at h
    split at h
    · cases h
      exact fun ls H locs hL hP hS => lv_ishr hx hb hdec (K ls H locs hL hP hS)
    · cases h
  case ladd =>
    dsimp only [mm_ex] at h
    split at h
    · cases h
      exact fun ls H locs hL hP hS => lv_ladd hx hb hdec (K ls H locs hL hP hS)
    · cases h
  case lsub =>
    dsimp only [mm_ex] at h
    split at h
    · cases h
      exact fun ls H locs hL hP hS => lv_lsub hx hb hdec (K ls H locs hL hP hS)
    · cases h
  case lmul =>
    dsimp only [mm_ex] at h
    split at h
    · cases h
      exact fun ls H locs hL hP hS => lv_lmul hx hb hdec (K ls H locs hL hP hS)
    · cases h
  case iushr =>
    dsimp only [mm_ex] at h
    split at h
    · cases h
      exact fun ls H locs hL hP hS => lv_iushr hx hb hdec rfl (K ls H locs hL hP hS)
    · cases h
  case i2l =>
    dsimp only [mm_ex] at h
    split at h
    · cases h
      exact fun ls H locs hL hP hS => lv_i2l hx hb hdec rfl (K ls H locs hL hP hS)
    · cases h
  case i2b =>
    dsimp only [mm_ex] at h
    split at h
    · cases h
      exact fun ls H locs hL hP hS => lv_i2b hx hb hdec rfl (K ls H locs hL hP hS)
    · cases h
  case i2s =>
    dsimp only [mm_ex] at h
    split at h
    · cases h
      exact fun ls H locs hL hP hS => lv_i2s hx hb hdec rfl (K ls H locs hL hP hS)
    · cases h
  case idiv =>
    dsimp only [mm_ex] at h
    split at h
    · cases h
      exact fun ls H locs hL hP hS => lv_idiv hx hb hdec hc.1 (K ls H locs hL hP hS)
    · cases h
  case irem =>
    dsimp only [mm_ex] at h
    split at h
    · cases h
      exact fun ls H locs hL hP hS => lv_irem hx hb hdec hc.1 (K ls H locs hL hP hS)
    · cases h
  case ldiv =>
    dsimp only [mm_ex] at h
    split at h
    · cases h
      exact fun ls H locs hL hP hS => lv_ldiv hx hb hdec hc.1 (K ls H locs hL hP hS)
    · cases h
  case lrem =>
    dsimp only [mm_ex] at h
    split at h
    · cases h
      exact fun ls H locs hL hP hS => lv_lrem hx hb hdec hc.1 (K ls H locs hL hP hS)
    · cases h
  case lcmp =>
    dsimp only [mm_ex] at h
    split at h
    · cases h
      exact fun ls H locs hL hP hS => W.lcmp hx hb hdec (K ls H locs hL hP hS)
    · cases h
  case dup =>
    dsimp only [mm_ex] at h
    split at h
    · cases h
      exact fun ls H locs hL hP hS => lv_dup (va := .int _) hx hb hdec rfl (K ls H locs hL hP hS)
    · cases h
      exact fun ls H locs hL hP hS => lv_dup (va := .ref _) hx hb hdec rfl (K ls H locs hL hP hS)
    · cases h
  case dup2 =>
    dsimp only [mm_ex] at h
    split at h
    · cases h
      exact fun ls H locs hL hP hS => lv_dup2_11 (va := .int _) (vb := .int _) hx hb hdec rfl rfl (K ls H locs hL hP hS)
    · cases h
      exact fun ls H locs hL hP hS => lv_dup2_11 (va := .int _) (vb := .ref _) hx hb hdec rfl rfl (K ls H locs hL hP hS)
    · cases h
  case goto o =>
    dsimp only [mm_ex] at h
    split at h
    · cases h
      exact fun ls H locs hL hP hS => lv_goto hx hb hdec (of_decide_eq_true hi) (K ls H locs hL hP hS)
    · cases h
  case ifCond cd o =>
    cases cd
    case eq =>
      dsimp only [mm_ex] at h
      split at h
      · cases h
        intro ls H locs hL hP hS
        have K9 := K ls H locs hL hP hS
        dsimp only at K9
        exact lv_if_eq hx hb hdec (of_decide_eq_true hi) (fun q => by rw [if_pos q] at K9; exact K9) (fun q => by rw [if_neg q] at K9; exact K9)
      · cases h
    case ne =>
      dsimp only [mm_ex] at h
      split at h
      · cases h
        intro ls H locs hL hP hS
        have K9 := K ls H locs hL hP hS
        dsimp only at K9
        exact lv_if_ne hx hb hdec (of_decide_eq_true hi) (fun q => by rw [if_pos q] at K9; exact K9) (fun q => by rw [if_neg (fun n => n q)] at K9; exact K9)
      · cases h
    case lt =>
      dsimp only [mm_ex] at h
      split at h
      · cases h
        intro ls H locs hL hP hS
        have K9 := K ls H locs hL hP hS
        dsimp only at K9
        exact lv_if_lt hx hb hdec (of_decide_eq_true hi) (fun q => by rw [if_pos q] at K9; exact K9) (fun q => by rw [if_neg q] at K9; exact K9)
      · cases h
    case ge =>
      dsimp only [mm_ex] at h
      split at h
      · cases h
        intro ls H locs hL hP hS
        have K9 := K ls H locs hL hP hS
        dsimp only at K9
        exact lv_if_ge hx hb hdec (of_decide_eq_true hi) (fun q => by rw [if_pos q] at K9; exact K9) (fun q => by rw [if_neg q] at K9; exact K9)
      · cases h
    case gt =>
      dsimp only [mm_ex] at h
      split at h
      · cases h
        intro ls H locs hL hP hS
        have K9 := K ls H locs hL hP hS
        dsimp only at K9
        exact lv_if_gt hx hb hdec (of_decide_eq_true hi) (fun q => by rw [if_pos q] at K9; exact K9) (fun q => by rw [if_neg q] at K9; exact K9)
      · cases h
    case le =>
      dsimp only [mm_ex] at h
      split at h
      · cases h
        intro ls H locs hL hP hS
        have K9 := K ls H locs hL hP hS
        dsimp only at K9
        exact lv_if_le hx hb hdec (of_decide_eq_true hi) (fun q => by rw [if_pos q] at K9; exact K9) (fun q => by rw [if_neg q] at K9; exact K9)
      · cases h
  case if_icmp cd o =>
    cases cd
    case eq =>
      dsimp only [mm_ex] at h
      split at h
      · cases h
        intro ls H locs hL hP hS
        have K9 := K ls H locs hL hP hS
        dsimp only at K9
        exact lv_icmp_eq hx hb hdec (of_decide_eq_true hi) (fun q => by rw [if_pos q] at K9; exact K9) (fun q => by rw [if_neg q] at K9; exact K9)
      · cases h
    case ne =>
      dsimp only [mm_ex] at h
      split at h
      · cases h
        intro ls H locs hL hP hS
        have K9 := K ls H locs hL hP hS
        dsimp only at K9
        exact lv_icmp_ne hx hb hdec (of_decide_eq_true hi) (fun q => by rw [if_pos q] at K9; exact K9) (fun q => by rw [if_neg (fun n => n q)] at K9; exact K9)
      · cases h
    case lt =>
      dsimp only [mm_ex] at h
      split at h
      · cases h
        intro ls H locs hL hP hS
        have K9 := K ls H locs hL hP hS
        dsimp only at K9
        exact lv_icmp_lt hx hb hdec (of_decide_eq_true hi) (fun q => by rw [if_pos q] at K9; exact K9) (fun q => by rw [if_neg q] at K9; exact K9)
      · cases h
    case ge =>
      dsimp only [mm_ex] at h
      split at h
      · cases h
        intro ls H locs hL hP hS
        have K9 := K ls H locs hL hP hS
        dsimp only at K9
        exact lv_icmp_ge hx hb hdec (of_decide_eq_true hi) (fun q => by rw [if_pos q] at K9; exact K9) (fun q => by rw [if_neg q] at K9; exact K9)
      · cases h
    case gt =>
      dsimp only [mm_ex] at h
      split at h
      · cases h
        intro ls H locs hL hP hS
        have K9 := K ls H locs hL hP hS
        dsimp only at K9
        exact lv_icmp_gt hx hb hdec (of_decide_eq_true hi) (fun q => by rw [if_pos q] at K9; exact K9) (fun q => by rw [if_neg q] at K9; exact K9)
      · cases h
    case le =>
      dsimp only [mm_ex] at h
      split at h
      · cases h
        intro ls H locs hL hP hS
        have K9 := K ls H locs hL hP hS
        dsimp only at K9
        exact lv_icmp_le hx hb hdec (of_decide_eq_true hi) (fun q => by rw [if_pos q] at K9; exact K9) (fun q => by rw [if_neg q] at K9; exact K9)
      · cases h
  case tableswitch d lo hi9 offs =>
    dsimp only [mm_ex] at h
    split at h
    · rename_i ln9 l9 t9 ts a9 r9
      cases h
      dsimp only [mm_iok] at hi
      simp only [Bool.and_eq_true, decide_eq_true_eq] at hi
      obtain ⟨⟨⟨⟨g1, g2⟩, g3⟩, g4⟩, g5⟩ := hi
      subst g1
      intro ls H locs hL hP hS
      have K9 := K ls H locs hL hP hS
      dsimp only at K9
      rcases mm_tsw_spec a9 t9 ts l9 with ⟨j, u, q1, q2, q3⟩ | ⟨q1, q2⟩
      · rw [q3] at K9
        have hj : j < ts.length := (List.getElem?_eq_some_iff.mp q1).1
        have ha : a9.toInt = (l9 : Int) + j := by rw [q2, nI_toInt (by omega)]; omega
        have g6 := congrArg (fun z => z[j]?) g4
        simp only [List.getElem?_map, q1, Option.map_some, Array.getElem?_toList] at g6
        cases ho : offs[j]? with
        | none => rw [ho] at g6; cases g6
        | some o =>
          rw [ho] at g6
          exact lv_tableIn (off := o) hx hb hdec (by omega) (by omega) (by rw [ha, show ((l9 : Int) + j - l9).toNat = j by omega]; exact ho) (Option.some.inj g6) K9
      · rw [q2] at K9
        refine lv_tableOut hx hb hdec ?_ g2 K9
        rcases Int.lt_or_le a9.toInt l9 with w1 | w1
        · exact Or.inl w1
        · rcases Int.lt_or_le hi9 a9.toInt with w2 | w2
          · exact Or.inr w2
          · refine absurd ?_ (q1 (a9.toInt - l9).toNat (by omega))
            apply Int32.toInt_inj.mp
            rw [nI_toInt (by omega)]
            omega
    · cases h
  case lookupswitch d ps =>
    dsimp only [mm_ex] at h
    split at h
    · rename_i ln9 t9 ts a9 r9
      cases h
      dsimp only [mm_iok] at hi
      simp only [Bool.and_eq_true, decide_eq_true_eq] at hi
      obtain ⟨⟨⟨g1, g2⟩, g3⟩, g4⟩ := hi
      intro ls H locs hL hP hS
      have K9 := K ls H locs hL hP hS
      dsimp only at K9
      exact lv_lookup hx hb hdec g3 rfl (mm_lsw_spec a9 pc d t9 g1 ps.toList ts g2 (fun u hu => of_decide_eq_true (List.all_eq_true.mp g4 u hu))) K9
    · cases h
  case getfield n =>
    dsimp only [mm_ex] at h
    split at h
    · rename_i wl ci k9 nest q9 r9
      cases h
      obtain ⟨hq, hc2⟩ := hc
      cases hcl : mm_cls[ci]? with
      | none => simp [mm_iok, mm_fok, hcl] at hi
      | some r0 =>
        obtain ⟨C, T, N⟩ := r0
        simp only [mm_iok, mm_fok, hcl, Bool.and_eq_true, decide_eq_true_eq, Bool.true_or, Bool.false_or] at hi
        obtain ⟨⟨hk, hfin⟩, hlink⟩ := hi
        obtain ⟨hw9, ty, hty, hnm, hty2⟩ := mm_ty ci _ hcl
        have hts : ∀ w ∈ u_ws C T N, w.before args s = true := fun w hw => va_tabs (mm_okW_tab (hw9 w hw).2) rfl (hT w (hw9 w hw).1 (hw9 w hw).2)
        subst hq
        intro ls H locs hL hP hS
        split at hlink
        · exact va_get hx hb hts (fun w hw => hw) hown hK hP q9 (mm_obj rfl (mm_cls_lt hcl)) hcl k9 hk (wd hlink) (fun _ h => h) (mm_fs_at hcl hk) hdec (K ls H locs hL hP hS)
        · exact va_getN hx hb hts (fun w hw => hw) hown hK hP q9 (mm_obj rfl (mm_cls_lt hcl)) hcl k9 hk (wd hlink) (fun _ h => h) (mm_fs_at hcl hk) hdec (K ls H locs hL hP hS)
    · cases h
  case putfield n =>
    dsimp only [mm_ex] at h
    split at h
    · rename_i wl ci k9 nest y9 q9 r9
      cases hrf : mm_rf ci k9 0 with
      | some z => rw [hrf] at h; cases h
      | none =>
      rw [hrf] at h
      dsimp only at h
      have hcc : mm_cl q9 = ci ∧ (mm_fz ci k9 = true → y9 = 0 ∨ y9 = 1) := by
        cases hz : mm_fz ci k9 with
        | true =>
          rw [hz] at h
          cases h
          exact ⟨hc.1, fun _ => hc.2.1⟩
        | false =>
          rw [hz] at h
          cases h
          exact ⟨hc.1, fun z => by cases z⟩
      have hS9 : S' = (pc + 3, lv, r9, mm_u σ q9 k9 y9) := by
        cases hz : mm_fz ci k9 <;> (rw [hz] at h; cases h; rfl)
      subst hS9
      obtain ⟨hq, hz9⟩ := hcc
      cases hcl : mm_cls[ci]? with
      | none => simp [mm_iok, mm_fok, hcl] at hi
      | some r0 =>
        obtain ⟨C, T, N⟩ := r0
        simp only [mm_iok, mm_fok, hcl, Bool.and_eq_true, decide_eq_true_eq, Bool.true_or, Bool.false_or] at hi
        obtain ⟨⟨hk, hfin⟩, hlink⟩ := hi
        obtain ⟨hw9, ty, hty, hnm, hty2⟩ := mm_ty ci _ hcl
        have hts : ∀ w ∈ u_ws C T N, w.before args s = true := fun w hw => va_tabs (mm_okW_tab (hw9 w hw).2) rfl (hT w (hw9 w hw).1 (hw9 w hw).2)
        have hn9 : narrow (ty k9) (.int y9) = .int y9 ∧ fits (ty k9) (.int y9) = true := by
          rcases hty2 k9 hk hrf with e8 | ⟨e8, e7⟩
          · rw [e8]; exact ⟨rfl, rfl⟩
          · rw [e8]
            rcases hz9 e7 with e6 | e6 <;> (subst e6; exact ⟨by decide, by decide⟩)
        subst hq
        intro ls H locs hL hP hS
        split at hlink
        · exact va_put (v := .int y9) hx hb hts (fun w hw => hw) ty hty hnm hown hK hP (hD σ) hS q9 (mm_obj rfl (mm_cls_lt hcl)) hcl k9 hk (wd hlink) (fun _ h => h) hfin (hty k9 hk) hn9.1 hn9.2 (mm_fs_len hcl hk) hdec (fun H1 locs1 hP1 _ hS1 => K ls H1 locs1 hL (by rw [← mm_set_obj rfl (mm_cls_lt hcl) hrf]; exact hP1) hS1)
        · exact va_putN (v := .int y9) hx hb hts (fun w hw => hw) ty hty hnm hown hK hP (hD σ) hS q9 (mm_obj rfl (mm_cls_lt hcl)) hcl k9 hk (wd hlink) (fun _ h => h) hfin (hty k9 hk) hn9.1 hn9.2 (mm_fs_len hcl hk) hdec (fun H1 locs1 hP1 _ hS1 => K ls H1 locs1 hL (by rw [← mm_set_obj rfl (mm_cls_lt hcl) hrf]; exact hP1) hS1)
    · cases h
  case iaload =>
    dsimp only [mm_ex] at h
    split at h
    · rename_i j9 q9 r9
      cases h
      have hlen : 0 < mm_len q9 := Nat.lt_of_le_of_lt (Nat.zero_le _) (Nat.not_le.mp fun q => hc.1 (Or.inr q))
      exact fun ls H locs hL hP hS => va_iald hx hb hK hP q9 0 (mm_row hlen) rfl hc.1 hdec (K ls H locs hL hP hS)
    · cases h
  case iastore =>
    dsimp only [mm_ex] at h
    split at h
    · rename_i y9 j9 q9 r9
      cases h
      have hlen : 0 < mm_len q9 := Nat.lt_of_le_of_lt (Nat.zero_le _) (Nat.not_le.mp fun q => hc.1 (Or.inr q))
      exact fun ls H locs hL hP hS => va_iast hx hb hK hP (hD σ) hS q9 0 (mm_row hlen) rfl hc.1 hdec (fun H1 locs1 hP1 _ hS1 => K ls H1 locs1 hL (by rw [← mm_set_row hlen (fun a ha => mm_u_o ha), mm_u_s]; exact hP1) hS1)
    · cases h
  case aaload =>
    dsimp only [mm_ex] at h
    split at h
    · rename_i j9 q9 r9
      cases h
      obtain ⟨hv, hq, -⟩ := hc
      intro ls H locs hL hP hS
      rcases hq with rfl | rfl
      · exact va_aldq (n := 8) (f := fun j => some (ad (mm_el 1 j))) hx hb hK hP 1 1 (mm_at (by decide)) rfl hv hdec (K ls H locs hL hP hS)
      · exact va_aldq (n := 8) (f := fun j => some (ad (mm_el 31 j))) hx hb hK hP 31 2 (mm_at (by decide)) rfl hv hdec (K ls H locs hL hP hS)
    · cases h
  case arraylength =>
    dsimp only [mm_ex] at h
    split at h
    · rename_i q9 r9
      cases h
      exact fun ls H locs hL hP hS => va_alen hx hb hK hP q9 0 (mm_row hc.1) rfl rfl hdec (K ls H locs hL hP hS)
    · cases h
  case invokestatic n =>
    dsimp only [mm_ex] at h
    obtain ⟨w1, w2, w3, w4, w5⟩ := mm_mwords
    obtain ⟨w6, w7, w8⟩ := mm_awords
    split at h
    · rename_i wl b9 a9 r9
      cases hs : Nat.ble (mm_ss r9) 8 with
      | false => rw [hs] at h; cases h
      | true =>
        rw [hs] at h
        cases h
        dsimp only [mm_iok] at hi
        simp only [Bool.and_eq_true, decide_eq_true_eq] at hi
        have hs2 := Nat.le_of_ble_eq_true hs
        exact fun ls H locs hL hP hS => va_mmin hx hb (by rw [hml, hL.1]) hown (wd hi.1) (wd w1) (wd w3) (wd w2) (by omega) (by rw [mm_ssr]; omega) hR.2.2.1 hR.2.2.2 hdec (K ls H locs hL hP hS)
    · rename_i wl b9 a9 r9
      cases hs : Nat.ble (mm_ss r9) 8 with
      | false => rw [hs] at h; cases h
      | true =>
        rw [hs] at h
        cases h
        dsimp only [mm_iok] at hi
        simp only [Bool.and_eq_true, decide_eq_true_eq] at hi
        have hs2 := Nat.le_of_ble_eq_true hs
        exact fun ls H locs hL hP hS => va_mmax hx hb (by rw [hml, hL.1]) hown (wd hi.1) (wd w4) (wd w3) (wd w5) (by omega) (by rw [mm_ssr]; omega) hR.2.2.1 hR.2.2.2 hdec (K ls H locs hL hP hS)
    · rename_i wl n9 dp9 a9 sp9 a8 r9
      cases hs : Nat.ble (mm_ss r9) 8 with
      | false => rw [hs] at h; cases h
      | true =>
        rw [hs] at h
        cases h
        dsimp only [mm_iok] at hi
        simp only [Bool.and_eq_true, decide_eq_true_eq] at hi
        have hs2 := Nat.le_of_ble_eq_true hs
        obtain ⟨c1, c2, c3, c4, c5, c6, c7, -⟩ := hc
        have hnf : nativeFrameWords "java/lang/System" "arraycopy" 5 = 7 := by decide
        exact fun ls H locs hL hP hS => va_copyi hx hb (by rw [hml, hL.1]) hown (wd hi.1) (wd w6) (wd w7) (wd w8) hK hP (hD σ) hS a8 a9 0 0 (mm_row c6) (mm_row c7) rfl rfl rfl c1 c2 c3 c4 c5 (fun _ _ => rfl) (by omega) (by rw [mm_ssr, hnf]; omega) hdec (fun H1 locs1 hP1 _ hS1 => K ls H1 locs1 hL (by show va_P G mm_cls (mm_cells ad cI cK cS (mm_cp σ a8 sp9.toNatClampNeg a9 dp9.toNatClampNeg n9.toNatClampNeg)) H1; rw [← mm_set_cp c7]; exact hP1) hS1)
    · cases h
  all_goals exact absurd (show (none : Option (mm_St × List Prop)) = some (S', cs) from h) (fun q => nomatch q)
end MMstep
end
section
/-! calls, ends, and the whole method -/
def mm_Wd (ad : Nat → Nat) (G : va_G) (cI cK cS : ClassId) (σ : mm_Sg) (U : State) : Prop := va_P G mm_cls (mm_cells ad cI cK cS σ) U.heap ∧ va_K G mm_cls (mm_tys cI cK cS) U ∧ mm_T U
def mm_A (ad : Nat → Nat) : Nat → Prop := fun q => ∃ k, k < 65 ∧ q = ad k
def mm_Q (ad : Nat → Nat) (G : va_G) (cI cK cS : ClassId) (R : Option Value × mm_Sg) : Array Value → State → Outcome → State → Prop := fun _ st oc t => oc = .returned (R.1.map (mm_rv ad)) ∧ mm_Wd ad G cI cK cS R.2 t ∧ va_F (mm_A ad) st t
def mm_rm (lv : Nat) : Room := { frames := lv, cells := 0, slots := 0, locals := 38 * lv }
abbrev mm_ws (M : mm_Me) : List Cond := [Cond.code (mm_y M) (mm_by M) (mm_nL M) (mm_rt M)]
def mm_Mt (l : Launch) (ad : Nat → Nat) (G : va_G) (cI cK cS : ClassId) (M : mm_Me) (as : List Value) (σ : mm_Sg) (R : Option Value × mm_Sg) : Prop :=
  Met l (mm_y M) (mm_ws M) (mm_rm (mm_lv M)) (va_Pc (as.map (mm_rv ad)) (mm_Wd ad G cI cK cS σ)) (mm_Q ad G cI cK cS R) 0 0 (mm_A ad)
theorem mm_blind {av : List Value} {ad : Nat → Nat} {G : va_G} {cI cK cS : ClassId} {σ : mm_Sg} : FrameBlind (va_Pc av (mm_Wd ad G cI cK cS σ)) := fun a U g mk q =>
  ⟨q.1, q.2.1, va_K.moved (u := U) (U := U.calling g mk a) (Vm.Alike.refl U.vm) q.2.2.1, mm_T.same (s := U) (U := U.calling g mk a) q.2.2.2 rfl⟩
theorem mm_D {ad : Nat → Nat} {cI cK cS : ClassId} (hinj : ∀ i j, i < 65 → j < 65 → ad i = ad j → i = j) (σ : mm_Sg) : va_D (mm_A ad) (mm_cells ad cI cK cS σ) := by
  have hlt : ∀ (k : Nat) (q : Nat × va_E), (mm_cells ad cI cK cS σ)[k]? = some q → k < 65 ∧ q.1 = ad k := by
    intro k q h
    have h1 : k < 65 := by
      have := (List.getElem?_eq_some_iff.mp h).1
      unfold mm_cells at this
      simpa using this
    rw [mm_at h1] at h
    cases h
    exact ⟨h1, rfl⟩
  refine ⟨fun i j p q hi hj e => ?_, fun k q hk => ⟨k, hlt k q hk⟩⟩
  obtain ⟨a1, a2⟩ := hlt i p hi
  obtain ⟨b1, b2⟩ := hlt j q hj
  exact hinj i j a1 b1 (by rw [← a2, ← b2, e])
section MMcalls
variable {p : Program} {l : Launch} {e : Env} {R : Room} {s : State} {m : MethodId} {args : Array Value} {below : List Frame} {meth : Method} {c : Code} {cells slots : Nat} {Q : State → Prop} {ad : Nat → Nat} {G : va_G} {cI cK cS : ClassId} {A : Nat → Prop} {H0 H : Heap} {locs : List Loc}
theorem mm_calls {pc : Nat} {ls : Array Slot} {rest st0 : List Value} {a : Array Value} {free : Addr → Prop} {X : Option Value × mm_Sg} (hr : va_Run p l e R s m args below meth c H locs cells slots 0 0 (F0 m pc ls st0) rest (mm_Q ad G cI cK cS X a) free) (hS : va_S A H0 H locs) (hA : ∀ q, mm_A ad q → A q) (hf : ∀ q, free q → A q)
    (kk : ∀ (t : State) (H1 : Heap) (locs1 : List Loc), t.heap = H1 → s.vm.Alike t.vm → mm_Wd ad G cI cK cS X.2 t → va_S A H0 H1 locs1 → W p l e R s m args below meth c H1 locs1 cells slots Q (F0 m (pc + 3) ls ((X.1.map (mm_rv ad)).toList ++ rest))) : W p l e R s m args below meth c H locs cells slots Q (F0 m pc ls st0) := by
  intro T hT X0
  obtain ⟨v, st₀, t, T', L, h0, X', hL, e1, e2, ⟨hv, hb, hz, hk⟩, st⟩ := hr T hT X0
  have hv : v = X.1.map (mm_rv ad) := by cases hv; rfl
  subst hv
  rw [h0] at hz hk
  obtain ⟨t2, a1, b1⟩ := kk t T'.heap (locs ++ L) e1.symm (by rw [← e2]; exact X'.warmed.alike) hb
    ⟨Nat.le_trans hS.1 (by rw [e1]; exact hz), fun q h1 h2 => by rw [e1, hk q (Nat.lt_of_lt_of_le h1 hS.1) (fun z => h2 (hA q z))]; exact hS.2.1 q h1 h2, fun q hq => by
      rcases List.mem_append.mp hq with h | h
      · exact hS.2.2 q h
      · exact hf _ (hL q h)⟩ T' rfl X'
  exact ⟨t2, st t2 a1, b1⟩
/-- super.m() of a method that stands higher up than the class that is named -/
theorem mm_runSU6 {x y : MethodName} {bytes cc : ByteArray} {maxL nL n index : Nat} {ret : Option FieldType} {ws : List Cond} {rm : Room} {Pc : Array Value → State → Prop} {Qc : Array Value → State → Outcome → State → Prop} {free : Addr → Prop} {Ts : List Cond} {own C : String} {cC : ClassId} {b : Addr} {As rest : List Value} {g : JFrame}
    (hat : ClassAt s C cC) (S : CallFix p m c cc nL s args Ts own) (hM : Met l y ws rm Pc Qc 0 0 free) (hrc : rm.cells = 0) (hrs : rm.slots = 0) (hfr : rm.frames + 1 ≤ R.frames) (hlo : 8 + (maxL + 11) + rm.locals ≤ R.locals) (hws : ∀ w ∈ ws, ∀ (a' : Array Value) (U : State), s.WarmedH U.vm → w.before a' U = true) (hcw : Cond.code y bytes maxL ret ∈ ws)
    (hini : (Cond.initialized y.cls).before args s = true) (hcode : (Cond.code y bytes maxL ret).before args s = true) (hlink : (Cond.methodLink own index x).before args s = true) (hyx : y = ⟨y.cls, x.name, x.desc⟩) (hsame : (Cond.sameMethod x.cls y.cls x.name x.desc).before args s = true) (hsup : (Cond.superclass own x.cls).before args s = true) (hsup2 : (Cond.superclass x.cls y.cls).before args s = true)
    (hinst : (Cond.instanceMethod y).before args s = true) (hno : x.name ≠ "<init>") (hlen : ∀ sig, parseMethodDescriptor y.desc = some sig → n = sig.parameters.length) (hp : PreV s H C b Pc As)
    (hg : g.method = m) (hn : As.length = n) (hsize : g.locals.size = nL) (hstack : g.stack = As.reverse ++ .ref b :: rest) (hW : 2 * g.monitorRoom + (rest.map fun v => v.category).sum ≤ 8) (hdg : decode cc g.pc = .ok (.invokespecial index, 3)) (hf : cells + 0 ≤ R.cells ∧ slots + 0 ≤ R.slots) :
    va_Run p l e R s m args below meth c H locs cells slots 0 0 g rest (Qc (Value.ref b :: As).toArray) (free) := by
  have hK : Back l R p e below s args y 3 8 (PreOf R 0 0 Pc) (PostOf Qc 0 0 free) := back_of (bytes := bytes) (maxL := maxL) (ret := ret) hM hp.1 hrc hrs hfr hlo hws hcw (fun a' U hW => word_at hW (Or.inl (by first | rfl | simp [Cond.onTables, Cond.keeps, Cond.steady])) hini)
  obtain ⟨hx, hb, hml, ho, -⟩ := S
  obtain ⟨-, ⟨cellB, hcB, hoB, hclB⟩, hPc⟩ := hp
  obtain ⟨hfc, kB, hkB, -⟩ := hat
  cases hfc.symm.trans hclB
  obtain ⟨mk, methM, hnamed, hmethM, hstM, habM⟩ := Cond.instanceMethod_spec hinst
  obtain ⟨methM', cM, hmethM', -, -, -, -, -, -, hsigM⟩ := Cond.code_spec hnamed hcode
  cases hmethM.symm.trans hmethM'
  obtain ⟨ps, dk, kp, hps, hdk, hkp, hsuper, -, -, hnid⟩ := Cond.superclass_spec ho hsup
  obtain ⟨ps2, dk2, kp2, hps2, hdk2, hkp2, hsuper2, -, -, -⟩ := Cond.superclass_spec hps hsup2
  have hn2 : s.methodNamed? ⟨y.cls, x.name, x.desc⟩ = some mk := hyx ▸ hnamed
  have hpm : ps2 = mk.cls := Option.some.inj (hps2.symm.trans (findClass_of_methodNamed hnamed))
  have hlt : ps < s.vm.classes.size := (Array.getElem?_eq_some_iff.mp hdk2).1
  have hsub : s.vm.isSubclass ps mk.cls = true := by
    rw [← hpm]
    obtain ⟨z, hz⟩ : ∃ z, s.vm.classes.size = z + 1 := Nat.exists_eq_succ_of_ne_zero (Nat.ne_of_gt (Nat.lt_of_le_of_lt (Nat.zero_le _) hlt))
    simp [Vm.isSubclass, Vm.isSubclassAux, hz, hdk2, hsuper2]
  intro T hT X
  obtain ⟨vm₁, X₁, hstep₁⟩ := X.invokespecialUp hx ho hlink hsame hn2 hmethM hstM habM hno hdk hnid hps hsuper hsub (a := b) (cell := cellB) (by rw [hT]; exact hcB)
    (fun z h => by rw [h] at hoB; cases hoB) hkB (g := g) hg (argsL := As) (rest := rest) (hn.trans (hlen _ hsigM)) hstack (by rw [hb]; exact hdg)
  obtain ⟨v, B, X', hpost, hsteps⟩ := hK m meth c ⟨T.setVm vm₁, locs, cells, slots⟩ { g with stack := rest } (.invokespecial index) mk (Value.ref b :: As).toArray X₁ hg (hsize.trans hml.symm) (by rw [hb]; exact hdg) hW (X₁.named hnamed) ⟨hf.1, hf.2, hPc (T.setVm vm₁) hT X₁.warmed⟩
  obtain ⟨g', mk', t, L, e1, e2, hq, h1, hL, h2, h3⟩ := hpost
  obtain ⟨U', l2, c2, s2⟩ := B
  dsimp only [Pt.U, Pt.locs, Pt.cells, Pt.slots] at X' e1 e2 h1 h2 h3 hsteps
  subst h1; subst h2; subst h3
  exact ⟨v, (T.setVm vm₁).calling g' mk' (Value.ref b :: As).toArray, t, U', L, hT, X', hL, e1, e2, hq, fun target h => hstep₁ _ (by rw [doInvoke_state]; exact hsteps.trans h)⟩
theorem mm_facts {M : mm_Me} (hM : mm_good M = true) {s : State} (hT : mm_T s) (args : Array Value) : (Cond.code (mm_y M) (mm_by M) (mm_nL M) (mm_rt M)).before args s = true ∧ (∀ w ∈ mm_ws M, ∀ (a' : Array Value) (U : State), s.WarmedH U.vm → w.before a' U = true) ∧ (Cond.initialized (mm_y M).cls).before args s = true ∧ ((mm_xs M).getD 3 0 = 1 → (Cond.static (mm_y M)).before args s = true) ∧ ((mm_xs M).getD 3 0 = 0 → (Cond.instanceMethod (mm_y M)).before args s = true) ∧ plainName (mm_y M).cls = true ∧ mm_nL M ≤ 19 ∧ (∀ sig, parseMethodDescriptor (mm_y M).desc = some sig → (mm_xs M).getD 4 0 = sig.parameters.length) ∧ ((mm_y M).cls ≠ "java/lang/invoke/MethodHandle" ∧ (mm_y M).cls ≠ "java/lang/invoke/VarHandle") := by
  unfold mm_good at hM
  have h := ((Bool.and_eq_true _ _).mp hM).1
  unfold mm_mok at h
  split at h
  · rename_i wc wi wk st np hxs
    simp only [Bool.and_eq_true, decide_eq_true_eq] at h
    obtain ⟨⟨⟨⟨⟨⟨⟨h1, h2⟩, h3⟩, h4⟩, h5⟩, h6⟩, h7⟩, h8⟩ := h
    rw [hxs]
    refine ⟨hT.at h1 args, fun w hw a' U hW => ?_, hT.at h2 args, fun e9 => ?_, fun e9 => ?_, h4, h5, fun sig hs => ?_, h7⟩
    · rw [List.mem_singleton.mp hw]
      exact mm_warm (mm_w_in h1).2 hW (hT.at h1 args)
    · have e9 : st = 1 := e9
      subst e9
      exact hT.at h3 args
    · have e9 : st = 0 := e9
      subst e9
      exact hT.at h3 args
    · rw [hs] at h6
      exact (Option.some.inj h6).symm
  · cases h
set_option maxHeartbeats 4000000 in
/-- a call of a method that keeps its contract -/
theorem mm_callsnd {M M' : mm_Me} {as rest lv st : List Value} {σ σ' : mm_Sg} {r : Option Value} {pc : Nat} (hM : (mm_code M).all (mm_eok M) = true) (hM' : mm_good M' = true) (F : mm_Fr p s m c ad G cI cK cS A M) (hR : 38 * mm_lv M ≤ R.locals ∧ mm_lv M ≤ R.frames ∧ cells ≤ R.cells ∧ slots ≤ R.slots) (hA : ∀ q, mm_A ad q → A q)
    (hMt : mm_Mt l ad G cI cK cS M' as σ (r, σ')) (hcall : mm_call M (pc, lv, st, σ) M' as rest) (K : mm_WW p l e R s m args below meth c cells slots Q ad G cI cK cS A H0 (mm_nL M) (pc + 3, lv, r.toList ++ rest, σ')) : mm_WW p l e R s m args below meth c cells slots Q ad G cI cK cS A H0 (mm_nL M) (pc, lv, st, σ) := by
  obtain ⟨i, x, v, hf, hisc, htg, hst, hlen, hss, hsl, hrc⟩ := hcall
  obtain ⟨hx, hb, hml, hown, hK, hT, hD⟩ := F
  dsimp only at hf hst
  have hok : mm_eok M (pc, i, x, v) = true := by
    exact List.all_eq_true.mp hM _ (mm_fnd_mem _ _ _ hf)
  unfold mm_eok at hok
  simp only [Bool.and_eq_true, decide_eq_true_eq] at hok
  obtain ⟨hdec, hi⟩ := hok
  obtain ⟨f1, f2, f3, f4, f5, f6, f7, f8, f9⟩ := mm_facts hM' hT args
  have wd : ∀ {i : Nat} {w : Cond}, mm_w i w = true → w.before args s = true := fun h => hT.at h args
  intro ls H locs hL hP hS
  subst hst
  have hpre : ∀ U : State, U.heap = H → s.WarmedH U.vm → va_Pc (as.map (mm_rv ad)) (mm_Wd ad G cI cK cS σ) (as.map (mm_rv ad)).toArray U := fun U hU hW => ⟨rfl, by rw [hU]; exact hP, va_K.moved hW.alike hK, hT.warm hW⟩
  have CF : CallFix p m c (mm_by M) (mm_nL M) s args [] (mm_y M).cls := ⟨hx, hb, hml, hown, fun _ h => by cases h⟩
  have hW8 : 2 * (F0 m pc ls ((as.reverse ++ rest).map (mm_rv ad))).monitorRoom + ((rest.map (mm_rv ad)).map fun v => v.category).sum ≤ 8 := lv_room (by rw [mm_ssr]; exact hss)
  have hcs : cells + 0 ≤ R.cells ∧ slots + 0 ≤ R.slots := ⟨hR.2.2.1, hR.2.2.2⟩
  have fin : va_Run p l e R s m args below meth c H locs cells slots 0 0 (F0 m pc ls ((as.reverse ++ rest).map (mm_rv ad))) (rest.map (mm_rv ad)) (mm_Q ad G cI cK cS (r, σ') (as.map (mm_rv ad)).toArray) (mm_A ad) → W p l e R s m args below meth c H locs cells slots Q (F0 m pc ls ((as.reverse ++ rest).map (mm_rv ad))) := by
    intro hr
    refine mm_calls hr hS hA hA (fun t H1 locs1 e1 e2 hWd hS1 => ?_)
    have := K ls H1 locs1 hL (by rw [← e1]; exact hWd.1) hS1
    cases r with
    | none => exact this
    | some y => exact this
  have room : mm_lv M' < mm_lv M → (mm_rm (mm_lv M')).frames + 1 ≤ R.frames ∧ 8 + (mm_nL M' + 11) + (mm_rm (mm_lv M')).locals ≤ R.locals := by
    intro h
    show mm_lv M' + 1 ≤ R.frames ∧ 8 + (mm_nL M' + 11) + 38 * mm_lv M' ≤ R.locals
    omega
  have hrs : ∀ a9 : List Value, ((a9.reverse ++ rest).map (mm_rv ad)) = (a9.map (mm_rv ad)).reverse ++ rest.map (mm_rv ad) := fun a9 => by rw [List.map_append, List.map_reverse]
  -- the receiver
  have recv : ∀ (ci q : Nat) (qc : vw_C), mm_cls[ci]? = some qc → mm_cl q = ci → ∃ cell : Cell, H[ad q]? = some cell ∧ cell.vm.isStatics = false ∧ s.vm.findClass qc.1 = some cell.cls := by
    intro ci q qc h1 h2
    exact va_recv hK hP h1 (mm_obj h2 (mm_cls_lt h1))
  apply fin
  cases i with
  | invokestatic n =>
    have hk : mm_cok M n x = true ∧ x.headD 9 < 2 := by
      dsimp only [mm_iok] at hi
      split at hi
      · simp [mm_tg] at htg
      · simp [mm_tg] at htg
      · simp [mm_tg] at htg
      · simpa using hi
    obtain ⟨hk, hlt⟩ := hk
    unfold mm_cok at hk
    split at hk
    · rename_i wl n9 t9
      have htg : mm_tab[t9]? = some M' := htg
      rw [htg] at hk
      simp only [mm_lk, Bool.and_eq_true, decide_eq_true_eq] at hk
      obtain ⟨⟨⟨k1, k2⟩, k3⟩, k4⟩ := hk
      have r9 := room k4
      exact va_runS (As := as.map (mm_rv ad)) CF hMt ⟨⟨rfl, rfl, r9.1, r9.2, f2, List.mem_singleton.mpr rfl, f1, f3, f9, f8, wd k1⟩, f4 k2⟩ ⟨mm_blind, hpre⟩ rfl (by rw [List.length_map, hlen, k3]; rfl) hL.1 (hrs as) hW8 hdec hcs
    · rename_i wl n9 t9
      have htg : mm_tab[t9]? = some M' := htg
      rw [htg] at hk
      simp only [mm_lk, Bool.and_eq_true, decide_eq_true_eq] at hk
      obtain ⟨⟨⟨k1, k2⟩, k3⟩, k4⟩ := hk
      have r9 := room k4
      exact va_runSN (As := as.map (mm_rv ad)) (host := mm_host) CF hMt ⟨⟨⟨rfl, rfl, r9.1, r9.2, f2, List.mem_singleton.mpr rfl⟩, f1, f3, f9, f8, wd k1⟩, f4 k2, trivial⟩ ⟨mm_blind, hpre⟩ rfl (by rw [List.length_map, hlen, k3]; rfl) hL.1 (hrs as) hW8 hdec hcs
    · simp at hlt
    · simp at hlt
    · simp at hlt
    · simp at hlt
    · simp at hlt
    · cases hk
  | invokevirtual n =>
    dsimp only [mm_iok] at hi
    simp only [Bool.and_eq_true, decide_eq_true_eq] at hi
    obtain ⟨⟨hk, hge⟩, hlt⟩ := hi
    unfold mm_cok at hk
    split at hk
    · simp at hge
    · simp at hge
    · rename_i wl n9 t9 ws9 ci9
      have htg : mm_tab[t9]? = some M' := htg
      rw [htg] at hk
      obtain ⟨q9, hq1, hq2⟩ := (show ∃ q, as.head? = some (.ref q) ∧ mm_cl q = ci9 from hrc)
      cases hcl : mm_cls[ci9]? with
      | none => simp [hcl] at hk
      | some qc =>
        simp only [hcl, mm_lk, Bool.and_eq_true, decide_eq_true_eq] at hk
        obtain ⟨⟨⟨⟨k1, k2⟩, k3⟩, k4⟩, k5⟩ := hk
        have r9 := room k4
        obtain ⟨as9, rfl⟩ : ∃ as9, as = .ref q9 :: as9 := by
          cases as with
          | nil => cases hq1
          | cons a as9 => cases hq1; exact ⟨as9, rfl⟩
        exact va_runV (C := qc.1) (b := ad q9) (As := as9.map (mm_rv ad)) CF hMt ⟨⟨rfl, rfl, r9.1, r9.2, f2, List.mem_singleton.mpr rfl, f1, f3, f9, f8, wd k1⟩, f5 k2, wd k5⟩ ⟨mm_blind, recv ci9 q9 qc hcl hq2, hpre⟩ rfl (by have := hlen; simp at this; rw [List.length_map]; omega) hL.1 (by rw [hrs]; simp [mm_rv]) hW8 hdec hcs
    · rename_i wl n9 t9 ws9 ci9
      have htg : mm_tab[t9]? = some M' := htg
      rw [htg] at hk
      obtain ⟨q9, hq1, hq2⟩ := (show ∃ q, as.head? = some (.ref q) ∧ mm_cl q = ci9 from hrc)
      cases hcl : mm_cls[ci9]? with
      | none => simp [hcl] at hk
      | some qc =>
        simp only [hcl, mm_lk, Bool.and_eq_true, decide_eq_true_eq] at hk
        obtain ⟨⟨⟨⟨k1, k2⟩, k3⟩, k4⟩, k5⟩ := hk
        have r9 := room k4
        obtain ⟨as9, rfl⟩ : ∃ as9, as = .ref q9 :: as9 := by
          cases as with
          | nil => cases hq1
          | cons a as9 => cases hq1; exact ⟨as9, rfl⟩
        exact va_runVN (C := qc.1) (b := ad q9) (As := as9.map (mm_rv ad)) (host := mm_host) CF hMt ⟨⟨⟨rfl, rfl, r9.1, r9.2, f2, List.mem_singleton.mpr rfl⟩, f1, f3, f9, f8, wd k1⟩, f5 k2, wd k5⟩ ⟨mm_blind, recv ci9 q9 qc hcl hq2, hpre⟩ rfl (by have := hlen; simp at this; rw [List.length_map]; omega) hL.1 (by rw [hrs]; simp [mm_rv]) hW8 hdec hcs
    · rename_i wl n9 t9
      obtain ⟨q9, hq1, hq2⟩ := (show ∃ q, as.head? = some (.ref q) ∧ mm_cl q < 12 from hrc)
      obtain ⟨as9, rfl⟩ : ∃ as9, as = .ref q9 :: as9 := by
        cases as with
        | nil => cases hq1
        | cons a as9 => cases hq1; exact ⟨as9, rfl⟩
      cases hvt : mm_vt[t9]? with
      | none => simp [hvt] at hk
      | some vt =>
        obtain ⟨v0, rows⟩ := vt
        simp only [hvt] at hk
        split at hk
        · rename_i xm wsm wi rows9 heq
          cases heq
          cases hxm : mm_tab[xm]? with
          | none => simp [hxm] at hk
          | some M0 =>
            simp only [hxm, mm_lk, Bool.and_eq_true, decide_eq_true_eq] at hk
            obtain ⟨⟨⟨⟨k1, k2⟩, k3⟩, k4⟩, k5⟩ := hk
            have k6 := List.all_eq_true.mp k5 (mm_cl q9) (List.mem_range.mpr hq2)
            have htg : (match rows[mm_cl q9]? with
              | some (m :: _) => mm_tab[m]?
              | _ => none) = some M' := by
              have h9 := htg
              simp only [mm_tg, hvt] at h9
              exact h9
            obtain ⟨qc, hcl⟩ : ∃ qc, mm_cls[mm_cl q9]? = some qc := ⟨_, List.getElem?_eq_getElem hq2⟩
            rw [hcl] at k6
            split at k6
            · rename_i m9 ws9 q8 h8 h7
              cases h7
              rw [h8] at htg
              dsimp only at htg
              rw [htg] at k6
              simp only [Bool.and_eq_true, decide_eq_true_eq] at k6
              obtain ⟨⟨j1, j2⟩, j3⟩ := k6
              have r9 := room j3
              have hM0 : mm_good M0 = true := mm_chk _ (List.mem_of_getElem? hxm)
              obtain ⟨u1, u2, u3, u4, u5, u6, u7, u8, u9⟩ := mm_facts hM0 hT args
              exact va_runU (x := mm_y M0) (y := mm_y M') (C := qc.1) (owner := (mm_y M0).cls) (b := ad q9) (As := as9.map (mm_rv ad)) CF hMt ⟨⟨rfl, rfl, r9.1, r9.2, f2, List.mem_singleton.mpr rfl⟩, f1, f3, u9, u8, wd k1, wd k2, va_Decl.of (wd k3) u1, wd j1, f5 j2⟩ ⟨mm_blind, recv _ q9 qc hcl rfl, hpre⟩ rfl (by have := hlen; simp at this; rw [List.length_map]; omega) hL.1 (by rw [hrs]; simp [mm_rv]) hW8 hdec hcs
            · rename_i h8 h7
              first | (rw [h7] at htg; cases htg) | (simp_all)
            · rename_i h8
              rw [h8] at htg
              cases htg
            · cases k6
        · cases hk
    · simp at hlt
    · simp at hlt
    · cases hk
  | invokespecial n =>
    dsimp only [mm_iok] at hi
    simp only [Bool.and_eq_true, decide_eq_true_eq] at hi
    obtain ⟨hk, hge⟩ := hi
    unfold mm_cok at hk
    split at hk
    · simp at hge
    · simp at hge
    · simp at hge
    · simp at hge
    · simp at hge
    · rename_i wl n9 t9 wsm wsp
      have htg : mm_tab[t9]? = some M' := htg
      rw [htg] at hk
      obtain ⟨q9, hq1, hq2⟩ := (show ∃ q, as.head? = some (.ref q) ∧ mm_cl q < 12 from hrc)
      obtain ⟨as9, rfl⟩ : ∃ as9, as = .ref q9 :: as9 := by
        cases as with
        | nil => cases hq1
        | cons a as9 => cases hq1; exact ⟨as9, rfl⟩
      simp only [mm_lk, Bool.and_eq_true, decide_eq_true_eq] at hk
      obtain ⟨⟨⟨⟨⟨⟨k1, k2⟩, k3⟩, k4⟩, k5⟩, k6⟩, k7⟩ := hk
      have r9 := room k4
      obtain ⟨qc, hcl⟩ : ∃ qc, mm_cls[mm_cl q9]? = some qc := ⟨_, List.getElem?_eq_getElem hq2⟩
      exact va_runSU (C := qc.1) (b := ad q9) (As := as9.map (mm_rv ad)) (hK.1 _ _ hcl).2 CF hMt ⟨⟨rfl, rfl, r9.1, r9.2, f2, List.mem_singleton.mpr rfl⟩, wd k1, wd k5, wd k6, f5 k2, f3, f1, k7, f8⟩ ⟨mm_blind, recv _ q9 qc hcl rfl, hpre⟩ rfl (by have := hlen; simp at this; rw [List.length_map]; omega) hL.1 (by rw [hrs]; simp [mm_rv]) hW8 hdec hcs
    · rename_i wl n9 t9 wsm wsp wsq wdc
      have htg : mm_tab[t9]? = some M' := htg
      rw [htg] at hk
      obtain ⟨q9, hq1, hq2⟩ := (show ∃ q, as.head? = some (.ref q) ∧ mm_cl q < 12 from hrc)
      obtain ⟨as9, rfl⟩ : ∃ as9, as = .ref q9 :: as9 := by
        cases as with
        | nil => cases hq1
        | cons a as9 => cases hq1; exact ⟨as9, rfl⟩
      simp only [mm_lk, Bool.and_eq_true, decide_eq_true_eq] at hk
      obtain ⟨⟨⟨⟨⟨⟨⟨⟨k1, k2⟩, k3⟩, k4⟩, k5⟩, k6⟩, k7⟩, k8⟩, k9⟩ := hk
      have r9 := room k4
      obtain ⟨qc, hcl⟩ : ∃ qc, mm_cls[mm_cl q9]? = some qc := ⟨_, List.getElem?_eq_getElem hq2⟩
      exact mm_runSU6 (x := ⟨RX2, (mm_y M').name, (mm_y M').desc⟩) (C := qc.1) (b := ad q9) (As := as9.map (mm_rv ad)) (hK.1 _ _ hcl).2 CF hMt rfl rfl r9.1 r9.2 f2 (List.mem_singleton.mpr rfl) f3 f1 (wd k1) rfl (wd k5) (wd k6) (wd k7) (f5 k2) k9 f8 ⟨mm_blind, recv _ q9 qc hcl rfl, hpre⟩ rfl (by have := hlen; simp at this; rw [List.length_map]; omega) hL.1 (by rw [hrs]; simp [mm_rv]) hW8 hdec hcs
    · cases hk
  | _ => cases hisc
end MMcalls
end
section
/-! every run of the small machine is kept by the machine -/
theorem mm_tgmem {x : List Nat} {as : List Value} {M' : mm_Me} (h : mm_tg x as = some M') : M' ∈ mm_tab := by
  unfold mm_tg at h
  split at h
  · split at h
    · split at h
      · split at h
        · exact List.mem_of_getElem? h
        · cases h
      · cases h
    · cases h
  · rename_i knd _ _ t _ _
    cases hb : Nat.ble knd 6 with
    | true => rw [hb] at h; exact List.mem_of_getElem? h
    | false => rw [hb] at h; cases h
  · cases h
theorem mm_slots1 {v : Value} (h : v.category = 1) (r : List Value) : mm_slots (v :: r) = v :: mm_slots r := by
  cases v <;> first | rfl | simp [Value.category] at h
theorem mm_slots2 {v : Value} (h : v.category = 2) (r : List Value) : mm_slots (v :: r) = v :: .null :: mm_slots r := by
  cases v <;> first | rfl | simp [Value.category] at h
theorem mm_slots_len (ad : Nat → Nat) : ∀ as : List Value, (lg_sl (as.map (mm_rv ad))).length = (mm_slots as).length
  | [] => rfl
  | v :: r => by
    have ih := mm_slots_len ad r
    unfold lg_sl at ih ⊢
    rw [List.map_cons, List.flatMap_cons, List.length_append, ih, mm_cat]
    rcases lv_cat v with h | h
    · rw [mm_slots1 h, if_neg (by rw [h]; decide)]
      simp
      omega
    · rw [mm_slots2 h, if_pos h]
      simp
      omega
theorem mm_args_at (ad : Nat → Nat) : ∀ (as : List Value) (k i : Nat) (v : Value), (mm_slots as)[i]? = some v → v ≠ .null → (k + i, mm_rv ad v) ∈ lv_args k (as.map (mm_rv ad))
  | [], k, i, v, h, _ => by simp [mm_slots] at h
  | a :: as, k, i, v, h, hn => by
    rw [List.map_cons]
    unfold lv_args
    rw [mm_cat]
    rcases lv_cat a with hc | hc
    · rw [mm_slots1 hc] at h
      rw [if_neg (by rw [hc]; decide)]
      cases i with
      | zero => cases h; exact List.mem_cons_self
      | succ i =>
        have := mm_args_at ad as (k + 1) i v h hn
        rw [show k + (i + 1) = k + 1 + i by omega]
        exact List.mem_cons_of_mem _ this
    · rw [mm_slots2 hc] at h
      rw [if_pos hc]
      match i, h with
      | 0, h => cases h; exact List.mem_cons_self
      | 1, h => cases h; exact absurd rfl hn
      | i + 2, h =>
        have := mm_args_at ad as (k + 2) i v h hn
        rw [show k + (i + 2) = k + 2 + i by omega]
        exact List.mem_cons_of_mem _ this
theorem mm_L0 {ad : Nat → Nat} {as : List Value} {nL : Nat} {ls : Array Slot} (h : (mm_slots as).length ≤ nL) (hl : lv_has ls nL (lv_args 0 (as.map (mm_rv ad)))) : mm_L ad ls nL (mm_ini nL as) := by
  refine ⟨hl.1, ?_, hl.2.1, fun i v hi hn => ?_⟩
  · unfold mm_ini
    simp
    omega
  · unfold mm_ini at hi
    rcases Nat.lt_or_ge i (mm_slots as).length with q | q
    · rw [List.getElem?_append_left q] at hi
      have := hl.2.2 _ (mm_args_at ad as 0 i v hi hn)
      simpa using this
    · rw [List.getElem?_append_right q, List.getElem?_replicate] at hi
      split at hi
      · cases hi
        exact absurd rfl hn
      · cases hi
section MMsnd
variable {l : Launch} {ad : Nat → Nat} {G : va_G} {cI cK cS : ClassId}
theorem mm_met {M : mm_Me} (hM : M ∈ mm_tab) {as : List Value} {σ : mm_Sg} {R : Option Value × mm_Sg} (hinj : ∀ i j, i < 65 → j < 65 → ad i = ad j → i = j) (hsl : (mm_slots as).length ≤ mm_nL M)
    (h : ∀ {p : Program} {e : Env} {s : State} {m : MethodId} {args : Array Value} {below : List Frame} {meth : Method} {c : Code}, mm_Fr p s m c ad G cI cK cS (mm_A ad) M → meth.sig.returnType = mm_rt M → meth.locks = false →
      mm_WW p l e (mm_rm (mm_lv M)) s m args below meth c 0 0 (MQ below (mm_Q ad G cI cK cS R) args s 0 0 (mm_A ad)) ad G cI cK cS (mm_A ad) s.heap (mm_nL M) (0, mm_ini (mm_nL M) as, [], σ)) : mm_Mt l ad G cI cK cS M as σ R := by
  have hg := mm_chk M hM
  have hpl : plainName (mm_y M).cls = true := by
    unfold mm_good at hg
    have h1 := ((Bool.and_eq_true _ _).mp hg).1
    unfold mm_mok at h1
    split at h1
    · simp only [Bool.and_eq_true, decide_eq_true_eq] at h1
      exact h1.1.1.1.1.2
    · cases h1
  refine Met.ofW (cc := mm_by M) (maxL := mm_nL M) (ret := mm_rt M) hpl rfl ?_
  intro p e s m args below meth c s₁ B hml hv
  obtain ⟨rfl, hP, hK, hT⟩ := hv
  have hl := lv_entry (as.map (mm_rv ad)) (n := mm_nL M) (by rw [mm_slots_len]; exact hsl)
  rw [lg_entry_eq]
  exact h ⟨B.exec, B.bytes, hml, findClass_of_methodNamed B.named, hK, hT, mm_D hinj⟩ B.returns B.notSynchronized _ s.heap [] (mm_L0 hsl hl) hP va_S.rf
theorem mm_snd (hinj : ∀ i j, i < 65 → j < 65 → ad i = ad j → i = j) : ∀ (n : Nat) (M : mm_Me) (S : mm_St) (X : Option Value × mm_Sg), M ∈ mm_tab → mm_Run n M S X → ∀ {p : Program} {e : Env} {s : State} {m : MethodId} {args : Array Value} {below : List Frame} {meth : Method} {c : Code}, mm_Fr p s m c ad G cI cK cS (mm_A ad) M → meth.sig.returnType = mm_rt M → meth.locks = false →
    mm_WW p l e (mm_rm (mm_lv M)) s m args below meth c 0 0 (MQ below (mm_Q ad G cI cK cS X) args s 0 0 (mm_A ad)) ad G cI cK cS (mm_A ad) s.heap (mm_nL M) S
  | 0, _, _, _, _, h => h.elim
  | n + 1, M, S, X, hM, h => by
    intro F hr hlocks
    rename_i p e s m args below meth c
    have hg := mm_chk M hM
    have hg2 : (mm_code M).all (mm_eok M) = true := by
      unfold mm_good at hg
      exact ((Bool.and_eq_true _ _).mp hg).2
    have hR : 38 * mm_lv M ≤ (mm_rm (mm_lv M)).locals ∧ mm_lv M ≤ (mm_rm (mm_lv M)).frames ∧ 0 ≤ (mm_rm (mm_lv M)).cells ∧ 0 ≤ (mm_rm (mm_lv M)).slots := ⟨Nat.le_refl _, Nat.le_refl _, Nat.le_refl _, Nat.le_refl _⟩
    rcases h with ⟨S', cs, h1, h2, h3⟩ | ⟨M', as, rest, r, σ', h1, h2, h3⟩ | h1
    · exact mm_step hg2 F hR h1 h2 (mm_snd hinj n M S' X hM h3 F hr hlocks)
    · obtain ⟨pc, lv, st, σ⟩ := S
      have hM' : M' ∈ mm_tab := by
        obtain ⟨i, x, v, -, -, htg, -⟩ := h1
        exact mm_tgmem htg
      have hsl : (mm_slots as).length ≤ mm_nL M' := by
        obtain ⟨i, x, v, -, -, -, -, -, -, hsl, -⟩ := h1
        exact hsl
      exact mm_callsnd hg2 (mm_chk M' hM') F hR (fun _ h => h) (mm_met hM' hinj hsl (fun F9 hr9 hl9 => mm_snd hinj n M' _ (r, σ') hM' h2 F9 hr9 hl9)) h1 (mm_snd hinj n M _ X hM h3 F hr hlocks)
    · obtain ⟨pc, lv, st, σ⟩ := S
      obtain ⟨i, x, v, hf, hrr⟩ := h1
      obtain ⟨hx, hb, hml, hown, hK, hT, hD⟩ := F
      dsimp only at hf hrr
      have hok : mm_eok M (pc, i, x, v) = true := List.all_eq_true.mp hg2 _ (mm_fnd_mem _ _ _ hf)
      unfold mm_eok at hok
      simp only [Bool.and_eq_true, decide_eq_true_eq] at hok
      obtain ⟨hdec, -⟩ := hok
      intro ls H locs hL hP hS
      have hfin : ∀ t : State, t.heap = H → s.WarmedH t.vm → mm_Wd ad G cI cK cS σ t ∧ va_F (mm_A ad) s t := fun t ht hW => ⟨⟨by rw [ht]; exact hP, va_K.moved hW.alike hK, hT.warm hW⟩, hS.F ht⟩
      unfold mm_rr at hrr
      split at hrr
      · obtain ⟨ty, y, hty, hst, hX, hn⟩ := hrr
        subst hst
        subst hX
        exact W.zret (v := y) (ty := ty) hx hb (hr.trans hty) hn (fun t ht hW => ⟨rfl, hfin t ht hW⟩) hS.2.2 hdec hlocks
      · obtain ⟨y, hty, hst, hX⟩ := hrr
        subst hst
        subst hX
        exact W.lret (v := y) hx hb (hr.trans hty) (fun t ht hW => ⟨rfl, hfin t ht hW⟩) hS.2.2 hdec hlocks
      · obtain ⟨C, q, hty, hst, hX⟩ := hrr
        subst hst
        subst hX
        exact W.aret (v := .ref (ad q)) hx hb (hr.trans hty) (Or.inl ⟨C, rfl⟩) (Or.inr ⟨_, rfl⟩) (fun t ht hW => ⟨rfl, hfin t ht hW⟩) hS.2.2 hdec hlocks
      · obtain ⟨hty, hst, hX⟩ := hrr
        subst hst
        subst hX
        exact W.vret hx hb (hr.trans hty) (fun t ht hW => ⟨rfl, hfin t ht hW⟩) hS.2.2 hdec hlocks
      · exact hrr.elim
/-- what the small machine answers, the machine answers -/
theorem mm_contract {M : mm_Me} (hM : M ∈ mm_tab) (hinj : ∀ i j, i < 65 → j < 65 → ad i = ad j → i = j) {as : List Value} {σ σ' : mm_Sg} {r : Option Value} (hsl : (mm_slots as).length ≤ mm_nL M) (h : mm_Ev M as σ r σ') : mm_Mt l ad G cI cK cS M as σ (r, σ') := by
  obtain ⟨n, hn⟩ := h
  exact mm_met hM hinj hsl (fun F hr hl => mm_snd hinj n M _ (r, σ') hM hn F hr hl)
end MMsnd
end
section
/-! words for the pieces of runs -/
theorem mm_tsw_t {y : Int32} {d lo t : Nat} {r : List Nat} (h : y = nI lo) : mm_tsw y d lo (t :: r) = t := by unfold mm_tsw; rw [if_pos h]
theorem mm_tsw_f {y : Int32} {d lo t : Nat} {r : List Nat} (h : ¬ y = nI lo) : mm_tsw y d lo (t :: r) = mm_tsw y d (lo + 1) r := by rw [mm_tsw, if_neg h]
theorem mm_lsw_t {y : Int32} {d k t : Nat} {r : List Nat} (h : y = nI k) : mm_lsw y d (k :: t :: r) = t := by rw [mm_lsw, if_pos h]
theorem mm_lsw_f {y : Int32} {d k t : Nat} {r : List Nat} (h : ¬ y = nI k) : mm_lsw y d (k :: t :: r) = mm_lsw y d r := by rw [mm_lsw, if_neg h]
def mm_dsp (t q : Nat) : Option mm_Me := match mm_vt[t]? with
  | some (_, rows) => match rows[mm_cl q]? with
    | some (m :: _) => mm_tab[m]?
    | _ => none
  | none => none
/-- a call by the receiver's class -/
def mm_Dv (t : Nat) (as : List Value) (σ : mm_Sg) (r : Option Value) (σ' : mm_Sg) : Prop := ∃ (M : mm_Me) (q : Nat) (as' : List Value), as = .ref q :: as' ∧ mm_dsp t q = some M ∧ mm_cl q < 12 ∧ (mm_slots as).length ≤ mm_nL M ∧ mm_Ev M as σ r σ'
theorem mm_nb {y : Int32} (h : y = 0 ∨ y = 1) : narrow .boolean (.int y) = .int y := by
  rcases h with h | h <;> (subst h; rfl)
theorem mm_tb_X0_cupsOn : mm_tab[0]? = some mm_m_X0_cupsOn := rfl
theorem mm_tb_X0_tiringFor : mm_tab[1]? = some mm_m_X0_tiringFor := rfl
theorem mm_tb_X0_debtFor : mm_tab[2]? = some mm_m_X0_debtFor := rfl
theorem mm_tb_X0_priceOf : mm_tab[3]? = some mm_m_X0_priceOf := rfl
theorem mm_tb_X0_failureOf : mm_tab[4]? = some mm_m_X0_failureOf := rfl
theorem mm_tb_X1_becomeLike : mm_tab[5]? = some mm_m_X1_becomeLike := rfl
theorem mm_tb_X1_has : mm_tab[6]? = some mm_m_X1_has := rfl
theorem mm_tb_X1_isAwake : mm_tab[7]? = some mm_m_X1_isAwake := rfl
theorem mm_tb_X1_joins : mm_tab[8]? = some mm_m_X1_joins := rfl
theorem mm_tb_X1_thirstOf : mm_tab[9]? = some mm_m_X1_thirstOf := rfl
theorem mm_tb_X1_thirstOfAll : mm_tab[10]? = some mm_m_X1_thirstOfAll := rfl
theorem mm_tb_X1_goDays : mm_tab[11]? = some mm_m_X1_goDays := rfl
theorem mm_tb_X1_restSleepers : mm_tab[12]? = some mm_m_X1_restSleepers := rfl
theorem mm_tb_X1_pour : mm_tab[13]? = some mm_m_X1_pour := rfl
theorem mm_tb_X1_endDay : mm_tab[14]? = some mm_m_X1_endDay := rfl
theorem mm_tb_X1_obeys : mm_tab[15]? = some mm_m_X1_obeys := rfl
theorem mm_tb_X1_turnsOver : mm_tab[16]? = some mm_m_X1_turnsOver := rfl
theorem mm_tb_X1_setIn : mm_tab[17]? = some mm_m_X1_setIn := rfl
theorem mm_tb_X1_owedInAll : mm_tab[18]? = some mm_m_X1_owedInAll := rfl
theorem mm_tb_X1_tiredInAll : mm_tab[19]? = some mm_m_X1_tiredInAll := rfl
theorem mm_tb_X1_drinkersOf : mm_tab[20]? = some mm_m_X1_drinkersOf := rfl
theorem mm_tb_X1_heaviestWaker : mm_tab[21]? = some mm_m_X1_heaviestWaker := rfl
theorem mm_tb_X1_deepestDrinker : mm_tab[22]? = some mm_m_X1_deepestDrinker := rfl
theorem mm_tb_X1_aloneBits : mm_tab[23]? = some mm_m_X1_aloneBits := rfl
theorem mm_tb_X2_cupsOn : mm_tab[24]? = some mm_m_X2_cupsOn := rfl
theorem mm_tb_X2_priceOf : mm_tab[25]? = some mm_m_X2_priceOf := rfl
theorem mm_tb_X3_cupsOn : mm_tab[26]? = some mm_m_X3_cupsOn := rfl
theorem mm_tb_X3_tiringFor : mm_tab[27]? = some mm_m_X3_tiringFor := rfl
theorem mm_tb_X3_priceOf : mm_tab[28]? = some mm_m_X3_priceOf := rfl
theorem mm_tb_X4_cupsOn : mm_tab[29]? = some mm_m_X4_cupsOn := rfl
theorem mm_tb_X4_tiringFor : mm_tab[30]? = some mm_m_X4_tiringFor := rfl
theorem mm_tb_X4_debtFor : mm_tab[31]? = some mm_m_X4_debtFor := rfl
theorem mm_tb_X4_priceOf : mm_tab[32]? = some mm_m_X4_priceOf := rfl
theorem mm_tb_X4_failureOf : mm_tab[33]? = some mm_m_X4_failureOf := rfl
theorem mm_tb_X5_cupsOn : mm_tab[34]? = some mm_m_X5_cupsOn := rfl
theorem mm_tb_X5_tiringFor : mm_tab[35]? = some mm_m_X5_tiringFor := rfl
theorem mm_tb_X6_cupsOn : mm_tab[36]? = some mm_m_X6_cupsOn := rfl
theorem mm_tb_X6_tiringFor : mm_tab[37]? = some mm_m_X6_tiringFor := rfl
theorem mm_tb_X6_priceOf : mm_tab[38]? = some mm_m_X6_priceOf := rfl
theorem mm_tb_X7_cupsOn : mm_tab[39]? = some mm_m_X7_cupsOn := rfl
theorem mm_tb_X7_tiringFor : mm_tab[40]? = some mm_m_X7_tiringFor := rfl
theorem mm_tb_X7_debtFor : mm_tab[41]? = some mm_m_X7_debtFor := rfl
theorem mm_tb_X7_priceOf : mm_tab[42]? = some mm_m_X7_priceOf := rfl
theorem mm_tb_X8_becomeRow : mm_tab[43]? = some mm_m_X8_becomeRow := rfl
theorem mm_tb_X8_hasPlace : mm_tab[44]? = some mm_m_X8_hasPlace := rfl
theorem mm_tb_X8_hasPlaces : mm_tab[45]? = some mm_m_X8_hasPlaces := rfl
theorem mm_tb_X8_at : mm_tab[46]? = some mm_m_X8_at := rfl
theorem mm_tb_X8_setAt : mm_tab[47]? = some mm_m_X8_setAt := rfl
theorem mm_tb_X8_numberAt : mm_tab[48]? = some mm_m_X8_numberAt := rfl
theorem mm_tb_X8_leastOfSort : mm_tab[49]? = some mm_m_X8_leastOfSort := rfl
theorem mm_tb_X8_allows : mm_tab[50]? = some mm_m_X8_allows := rfl
theorem mm_tb_X9_cupsOn : mm_tab[51]? = some mm_m_X9_cupsOn := rfl
theorem mm_tb_X9_tiringFor : mm_tab[52]? = some mm_m_X9_tiringFor := rfl
theorem mm_tb_X9_debtFor : mm_tab[53]? = some mm_m_X9_debtFor := rfl
theorem mm_tb_X9_priceOf : mm_tab[54]? = some mm_m_X9_priceOf := rfl
theorem mm_tb_X9_failureOf : mm_tab[55]? = some mm_m_X9_failureOf := rfl
theorem mm_tb_X10_treaty : mm_tab[56]? = some mm_m_X10_treaty := rfl
theorem mm_tb_X10_drinker : mm_tab[57]? = some mm_m_X10_drinker := rfl
theorem mm_tb_X10_waker : mm_tab[58]? = some mm_m_X10_waker := rfl
theorem mm_tb_X10_comes : mm_tab[59]? = some mm_m_X10_comes := rfl
theorem mm_tb_X10_wakes : mm_tab[60]? = some mm_m_X10_wakes := rfl
theorem mm_tb_X10_tires : mm_tab[61]? = some mm_m_X10_tires := rfl
theorem mm_tb_X10_sleeps : mm_tab[62]? = some mm_m_X10_sleeps := rfl
theorem mm_tb_X10_bags : mm_tab[63]? = some mm_m_X10_bags := rfl
theorem mm_tb_X10_days : mm_tab[64]? = some mm_m_X10_days := rfl
theorem mm_tb_X10_owesThen : mm_tab[65]? = some mm_m_X10_owesThen := rfl
theorem mm_tb_X10_tiredThen : mm_tab[66]? = some mm_m_X10_tiredThen := rfl
theorem mm_tb_X10_then : mm_tab[67]? = some mm_m_X10_then := rfl
theorem mm_tb_X10_firstAsleep : mm_tab[68]? = some mm_m_X10_firstAsleep := rfl
theorem mm_tb_X10_out : mm_tab[69]? = some mm_m_X10_out := rfl
theorem mm_tb_X10_bestWaker : mm_tab[70]? = some mm_m_X10_bestWaker := rfl
theorem mm_tb_X10_match : mm_tab[71]? = some mm_m_X10_match := rfl
theorem mm_tb_X10_milk : mm_tab[72]? = some mm_m_X10_milk := rfl
theorem mm_tb_X10_fewest : mm_tab[73]? = some mm_m_X10_fewest := rfl
theorem mm_tb_X10_store : mm_tab[74]? = some mm_m_X10_store := rfl
theorem mm_tb_X10_heaviest : mm_tab[75]? = some mm_m_X10_heaviest := rfl
theorem mm_tb_X10_rest : mm_tab[76]? = some mm_m_X10_rest := rfl
theorem mm_tb_X10_whatIs : mm_tab[77]? = some mm_m_X10_whatIs := rfl
theorem mm_tb_X10_shed : mm_tab[78]? = some mm_m_X10_shed := rfl
theorem mm_tb_X10_two : mm_tab[79]? = some mm_m_X10_two := rfl
theorem mm_tb_X10_falls : mm_tab[80]? = some mm_m_X10_falls := rfl
theorem mm_tb_X10_mean : mm_tab[81]? = some mm_m_X10_mean := rfl
theorem mm_tb_X10_forged : mm_tab[82]? = some mm_m_X10_forged := rfl
theorem mm_tb_X10_judge : mm_tab[83]? = some mm_m_X10_judge := rfl
theorem mm_tb_X10_years : mm_tab[84]? = some mm_m_X10_years := rfl
theorem mm_tb_X10_image : mm_tab[85]? = some mm_m_X10_image := rfl
theorem mm_tb_X10_restore : mm_tab[86]? = some mm_m_X10_restore := rfl
theorem mm_tb_X10_count : mm_tab[87]? = some mm_m_X10_count := rfl
theorem mm_tb_X10_keep : mm_tab[88]? = some mm_m_X10_keep := rfl
theorem mm_tb_X10_row : mm_tab[89]? = some mm_m_X10_row := rfl
theorem mm_tb_X10_put : mm_tab[90]? = some mm_m_X10_put := rfl
theorem mm_tb_X10_copy : mm_tab[91]? = some mm_m_X10_copy := rfl
theorem mm_tb_X10_cost : mm_tab[92]? = some mm_m_X10_cost := rfl
theorem mm_tb_X10_isBetween : mm_tab[93]? = some mm_m_X10_isBetween := rfl
theorem mm_tb_X10_isWaker : mm_tab[94]? = some mm_m_X10_isWaker := rfl
theorem mm_tb_X10_isWakerOrNobody : mm_tab[95]? = some mm_m_X10_isWakerOrNobody := rfl
theorem mm_tb_X10_isShelf : mm_tab[96]? = some mm_m_X10_isShelf := rfl
theorem mm_tb_X10_kindNumbered : mm_tab[97]? = some mm_m_X10_kindNumbered := rfl
theorem mm_tb_X10_refusalUnless : mm_tab[98]? = some mm_m_X10_refusalUnless := rfl
theorem mm_tb_X10_refusedLong : mm_tab[99]? = some mm_m_X10_refusedLong := rfl
theorem mm_tb_X10_digitsBehind : mm_tab[100]? = some mm_m_X10_digitsBehind := rfl
theorem mm_tb_X10_isLetter : mm_tab[101]? = some mm_m_X10_isLetter := rfl
theorem mm_tb_X10_firstBadByte : mm_tab[102]? = some mm_m_X10_firstBadByte := rfl
theorem mm_tb_X10_thinkDaysOn : mm_tab[103]? = some mm_m_X10_thinkDaysOn := rfl
theorem mm_tb_X10_owedBehindWithWaker : mm_tab[104]? = some mm_m_X10_owedBehindWithWaker := rfl
theorem mm_tb_X10_owedBehindWithMilk : mm_tab[105]? = some mm_m_X10_owedBehindWithMilk := rfl
theorem mm_tb_X10_owedBehindWithout : mm_tab[106]? = some mm_m_X10_owedBehindWithout := rfl
theorem mm_tb_X10_owedBehindKeeping : mm_tab[107]? = some mm_m_X10_owedBehindKeeping := rfl
theorem mm_tb_X10_owedBehindFalls : mm_tab[108]? = some mm_m_X10_owedBehindFalls := rfl
theorem mm_tb_X10_mindOwesAsTold : mm_tab[109]? = some mm_m_X10_mindOwesAsTold := rfl
theorem mm_tb_X10_gainInMind : mm_tab[110]? = some mm_m_X10_gainInMind := rfl
theorem mm_tb_X10_fillDrunkBehind : mm_tab[111]? = some mm_m_X10_fillDrunkBehind := rfl
theorem mm_tb_X10_bagsGoAsTold : mm_tab[112]? = some mm_m_X10_bagsGoAsTold := rfl
theorem mm_tb_X10_matchCell : mm_tab[113]? = some mm_m_X10_matchCell := rfl
theorem mm_tb_X10_mostWokenFrom : mm_tab[114]? = some mm_m_X10_mostWokenFrom := rfl
theorem mm_tb_X10_fillMostWoken : mm_tab[115]? = some mm_m_X10_fillMostWoken := rfl
theorem mm_tb_X10_firstMatchOf : mm_tab[116]? = some mm_m_X10_firstMatchOf := rfl
theorem mm_tb_X10_power : mm_tab[117]? = some mm_m_X10_power := rfl
theorem mm_tb_X10_partOfFraction : mm_tab[118]? = some mm_m_X10_partOfFraction := rfl
theorem mm_tb_X10_nextSeed : mm_tab[119]? = some mm_m_X10_nextSeed := rfl
theorem mm_tb_X10_drawOf : mm_tab[120]? = some mm_m_X10_drawOf := rfl
theorem mm_tb_X11_isIn : mm_tab[121]? = some mm_m_X11_isIn := rfl
theorem mm_tb_X11_least : mm_tab[122]? = some mm_m_X11_least := rfl
theorem mm_tb_X11_lessBy : mm_tab[123]? = some mm_m_X11_lessBy := rfl
theorem mm_tb_X11_copies : mm_tab[124]? = some mm_m_X11_copies := rfl
theorem mm_tb_X11_of : mm_tab[125]? = some mm_m_X11_of := rfl
theorem mm_tb_X11_isDrinker : mm_tab[126]? = some mm_m_X11_isDrinker := rfl
theorem mm_tb_X11_isWaker : mm_tab[127]? = some mm_m_X11_isWaker := rfl
theorem mm_tb_X11_isWakerOrNone : mm_tab[128]? = some mm_m_X11_isWakerOrNone := rfl
theorem mm_tb_X11_has : mm_tab[129]? = some mm_m_X11_has := rfl
theorem mm_tb_X11_bits : mm_tab[130]? = some mm_m_X11_bits := rfl
theorem mm_tb_X11_drinksBy : mm_tab[131]? = some mm_m_X11_drinksBy := rfl
theorem mm_tb_X11_tiresBy : mm_tab[132]? = some mm_m_X11_tiresBy := rfl
theorem mm_tb_X11_owesBy : mm_tab[133]? = some mm_m_X11_owesBy := rfl
theorem mm_tb_X11_isAwake : mm_tab[134]? = some mm_m_X11_isAwake := rfl
theorem mm_tb_X11_wakesUp : mm_tab[135]? = some mm_m_X11_wakesUp := rfl
theorem mm_tb_X11_drinks : mm_tab[136]? = some mm_m_X11_drinks := rfl
theorem mm_tb_X11_liesDown : mm_tab[137]? = some mm_m_X11_liesDown := rfl
theorem mm_tb_X11_day : mm_tab[138]? = some mm_m_X11_day := rfl
theorem mm_tb_X11_daysOn : mm_tab[139]? = some mm_m_X11_daysOn := rfl
theorem mm_tb_X11_allOwed : mm_tab[140]? = some mm_m_X11_allOwed := rfl
theorem mm_tb_X11_allTired : mm_tab[141]? = some mm_m_X11_allTired := rfl
theorem mm_tb_X11_here : mm_tab[142]? = some mm_m_X11_here := rfl
theorem mm_tb_X11_readsNumber : mm_tab[143]? = some mm_m_X11_readsNumber := rfl
theorem mm_tb_X11_readsStatement : mm_tab[144]? = some mm_m_X11_readsStatement := rfl
theorem mm_tb_X11_adds : mm_tab[145]? = some mm_m_X11_adds := rfl
theorem mm_tb_X11_isDone : mm_tab[146]? = some mm_m_X11_isDone := rfl
theorem mm_tb_X11_treaty : mm_tab[147]? = some mm_m_X11_treaty := rfl
theorem mm_tb_X11_nextOf : mm_tab[148]? = some mm_m_X11_nextOf := rfl
theorem mm_tb_X11_drinker : mm_tab[149]? = some mm_m_X11_drinker := rfl
theorem mm_tb_X11_manyOf : mm_tab[150]? = some mm_m_X11_manyOf := rfl
theorem mm_tb_X11_waker : mm_tab[151]? = some mm_m_X11_waker := rfl
theorem mm_tb_X11_comes : mm_tab[152]? = some mm_m_X11_comes := rfl
theorem mm_tb_X11_sets : mm_tab[153]? = some mm_m_X11_sets := rfl
theorem mm_tb_X11_wakes : mm_tab[154]? = some mm_m_X11_wakes := rfl
theorem mm_tb_X11_tires : mm_tab[155]? = some mm_m_X11_tires := rfl
theorem mm_tb_X11_sleeps : mm_tab[156]? = some mm_m_X11_sleeps := rfl
theorem mm_tb_X11_bags : mm_tab[157]? = some mm_m_X11_bags := rfl
theorem mm_tb_X11_days : mm_tab[158]? = some mm_m_X11_days := rfl
theorem mm_tb_X11_isLate : mm_tab[159]? = some mm_m_X11_isLate := rfl
theorem mm_tb_X11_takes : mm_tab[160]? = some mm_m_X11_takes := rfl
theorem mm_tb_X11_owesThen : mm_tab[161]? = some mm_m_X11_owesThen := rfl
theorem mm_tb_X11_tiredThen : mm_tab[162]? = some mm_m_X11_tiredThen := rfl
theorem mm_tb_X11_then : mm_tab[163]? = some mm_m_X11_then := rfl
theorem mm_tb_X11_firstAsleep : mm_tab[164]? = some mm_m_X11_firstAsleep := rfl
theorem mm_tb_X11_out : mm_tab[165]? = some mm_m_X11_out := rfl
theorem mm_tb_X11_owedNow : mm_tab[166]? = some mm_m_X11_owedNow := rfl
theorem mm_tb_X11_bestWaker : mm_tab[167]? = some mm_m_X11_bestWaker := rfl
theorem mm_tb_X11_canWake : mm_tab[168]? = some mm_m_X11_canWake := rfl
theorem mm_tb_X11_matches : mm_tab[169]? = some mm_m_X11_matches := rfl
theorem mm_tb_X11_wakerOf : mm_tab[170]? = some mm_m_X11_wakerOf := rfl
theorem mm_tb_X11_match : mm_tab[171]? = some mm_m_X11_match := rfl
theorem mm_tb_X11_milk : mm_tab[172]? = some mm_m_X11_milk := rfl
theorem mm_tb_X11_fewest : mm_tab[173]? = some mm_m_X11_fewest := rfl
theorem mm_tb_X11_store : mm_tab[174]? = some mm_m_X11_store := rfl
theorem mm_tb_X11_heaviest : mm_tab[175]? = some mm_m_X11_heaviest := rfl
theorem mm_tb_X11_rest : mm_tab[176]? = some mm_m_X11_rest := rfl
theorem mm_tb_X11_leastOf : mm_tab[177]? = some mm_m_X11_leastOf := rfl
theorem mm_tb_X11_isTold : mm_tab[178]? = some mm_m_X11_isTold := rfl
theorem mm_tb_X11_whatIs : mm_tab[179]? = some mm_m_X11_whatIs := rfl
theorem mm_tb_X11_isShedSo : mm_tab[180]? = some mm_m_X11_isShedSo := rfl
theorem mm_tb_X11_shed : mm_tab[181]? = some mm_m_X11_shed := rfl
theorem mm_tb_X11_hasBy : mm_tab[182]? = some mm_m_X11_hasBy := rfl
theorem mm_tb_X11_two : mm_tab[183]? = some mm_m_X11_two := rfl
theorem mm_tb_X11_gcd : mm_tab[184]? = some mm_m_X11_gcd := rfl
theorem mm_tb_X11_partOf : mm_tab[185]? = some mm_m_X11_partOf := rfl
theorem mm_tb_X11_falls : mm_tab[186]? = some mm_m_X11_falls := rfl
theorem mm_tb_X11_mean : mm_tab[187]? = some mm_m_X11_mean := rfl
theorem mm_tb_X11_forged : mm_tab[188]? = some mm_m_X11_forged := rfl
theorem mm_tb_X11_judge : mm_tab[189]? = some mm_m_X11_judge := rfl
theorem mm_tb_X11_drawn : mm_tab[190]? = some mm_m_X11_drawn := rfl
theorem mm_tb_X11_years : mm_tab[191]? = some mm_m_X11_years := rfl
theorem mm_tb_X11_image : mm_tab[192]? = some mm_m_X11_image := rfl
theorem mm_tb_X11_restore : mm_tab[193]? = some mm_m_X11_restore := rfl
theorem mm_tb_X11_count : mm_tab[194]? = some mm_m_X11_count := rfl
theorem mm_tb_X11_thrown : mm_tab[195]? = some mm_m_X11_thrown := rfl
theorem mm_tb_X11_isShelf : mm_tab[196]? = some mm_m_X11_isShelf := rfl
theorem mm_tb_X11_wrongRow : mm_tab[197]? = some mm_m_X11_wrongRow := rfl
theorem mm_tb_X11_wrongKept : mm_tab[198]? = some mm_m_X11_wrongKept := rfl
theorem mm_tb_X11_keep : mm_tab[199]? = some mm_m_X11_keep := rfl
theorem mm_tb_X11_row : mm_tab[200]? = some mm_m_X11_row := rfl
theorem mm_tb_X11_put : mm_tab[201]? = some mm_m_X11_put := rfl
theorem mm_tb_X11_element : mm_tab[202]? = some mm_m_X11_element := rfl
theorem mm_tb_X11_copy : mm_tab[203]? = some mm_m_X11_copy := rfl
theorem mm_tb_X11_costBy : mm_tab[204]? = some mm_m_X11_costBy := rfl
theorem mm_tb_X11_cost : mm_tab[205]? = some mm_m_X11_cost := rfl
theorem mm_tb_X11_toss : mm_tab[206]? = some mm_m_X11_toss := rfl
theorem mm_tb_J6_bitCount_0f7a4 : mm_tab[207]? = some mm_m_J6_bitCount_0f7a4 := rfl
theorem mm_tb_J7_fill_53178 : mm_tab[208]? = some mm_m_J7_fill_53178 := rfl
end
section
theorem sg_X10_isBetween_0 (σ : mm_Sg) (x0 : Int32) (x1 : Int32) (x2 : Int32) (R : Option Value × mm_Sg) (h : (((x0 < x1 → (R = (some (.int (0 : Int32)), σ))) ∧ (¬ (x0 < x1) → (((x2 < x0 → (R = (some (.int (0 : Int32)), σ))) ∧ (¬ (x2 < x0) → (R = (some (.int (1 : Int32)), σ))))))))) : mm_Go mm_m_X10_isBetween (0, [.int x0, .int x1, .int x2], [], σ) R := by
  refine mm_blk (M := mm_m_X10_isBetween) 3 (S' := ((if x0 < x1 then 14 else 5), [.int x0, .int x1, .int x2], [], σ)) (P := []) rfl trivial ?_
  by_cases b1 : x0 < x1
  · rw [if_pos b1]
    have h := h.1 b1
    refine mm_blk (M := mm_m_X10_isBetween) 1 (S' := (15, [.int x0, .int x1, .int x2], [.int (0 : Int32)], σ)) (P := []) rfl trivial ?_
    subst h
    exact mm_rt_ ⟨_, _, _, rfl, ⟨_, _, rfl, rfl, rfl, rfl⟩⟩
  · rw [if_neg b1]
    have h := h.2 b1
    refine mm_blk (M := mm_m_X10_isBetween) 3 (S' := ((if x2 < x0 then 14 else 10), [.int x0, .int x1, .int x2], [], σ)) (P := []) rfl trivial ?_
    by_cases b2 : x2 < x0
    · rw [if_pos b2]
      have h := h.1 b2
      refine mm_blk (M := mm_m_X10_isBetween) 1 (S' := (15, [.int x0, .int x1, .int x2], [.int (0 : Int32)], σ)) (P := []) rfl trivial ?_
      subst h
      exact mm_rt_ ⟨_, _, _, rfl, ⟨_, _, rfl, rfl, rfl, rfl⟩⟩
    · rw [if_neg b2]
      have h := h.2 b2
      refine mm_blk (M := mm_m_X10_isBetween) 2 (S' := (15, [.int x0, .int x1, .int x2], [.int (1 : Int32)], σ)) (P := []) rfl trivial ?_
      subst h
      exact mm_rt_ ⟨_, _, _, rfl, ⟨_, _, rfl, rfl, rfl, rfl⟩⟩
theorem sg_X1_has_0 (σ : mm_Sg) (q0 : Nat) (x1 : Int32) (R : Option Value × mm_Sg) (h : (((x1 < (0 : Int32) → (R = (some (.int (0 : Int32)), σ))) ∧ (¬ (x1 < (0 : Int32)) → ((mm_cl q0 = 1) ∧ (((σ q0 6) ≤ x1 → (R = (some (.int (0 : Int32)), σ))) ∧ (¬ ((σ q0 6) ≤ x1) → ((((7 : Int32) ≤ x1 → (R = (some (.int (0 : Int32)), σ))) ∧ (¬ ((7 : Int32) ≤ x1) → (R = (some (.int (1 : Int32)), σ)))))))))))) : mm_Go mm_m_X1_has (0, [.ref q0, .int x1], [], σ) R := by
  refine mm_blk (M := mm_m_X1_has) 2 (S' := ((if x1 < (0 : Int32) then 22 else 4), [.ref q0, .int x1], [], σ)) (P := []) rfl trivial ?_
  by_cases b1 : x1 < (0 : Int32)
  · rw [if_pos b1]
    have h := h.1 b1
    refine mm_blk (M := mm_m_X1_has) 1 (S' := (23, [.ref q0, .int x1], [.int (0 : Int32)], σ)) (P := []) rfl trivial ?_
    subst h
    exact mm_rt_ ⟨_, _, _, rfl, ⟨_, _, rfl, rfl, rfl, rfl⟩⟩
  · rw [if_neg b1]
    have h := h.2 b1
    obtain ⟨c2, h⟩ := h
    refine mm_blk (M := mm_m_X1_has) 4 (S' := ((if (σ q0 6) ≤ x1 then 22 else 12), [.ref q0, .int x1], [], σ)) (P := [mm_cl q0 = 1]) rfl ⟨c2, trivial⟩ ?_
    by_cases b3 : (σ q0 6) ≤ x1
    · rw [if_pos b3]
      have h := h.1 b3
      refine mm_blk (M := mm_m_X1_has) 1 (S' := (23, [.ref q0, .int x1], [.int (0 : Int32)], σ)) (P := []) rfl trivial ?_
      subst h
      exact mm_rt_ ⟨_, _, _, rfl, ⟨_, _, rfl, rfl, rfl, rfl⟩⟩
    · rw [if_neg b3]
      have h := h.2 b3
      refine mm_blk (M := mm_m_X1_has) 3 (S' := ((if (7 : Int32) ≤ x1 then 22 else 18), [.ref q0, .int x1], [], σ)) (P := []) rfl trivial ?_
      by_cases b4 : (7 : Int32) ≤ x1
      · rw [if_pos b4]
        have h := h.1 b4
        refine mm_blk (M := mm_m_X1_has) 1 (S' := (23, [.ref q0, .int x1], [.int (0 : Int32)], σ)) (P := []) rfl trivial ?_
        subst h
        exact mm_rt_ ⟨_, _, _, rfl, ⟨_, _, rfl, rfl, rfl, rfl⟩⟩
      · rw [if_neg b4]
        have h := h.2 b4
        refine mm_blk (M := mm_m_X1_has) 2 (S' := (23, [.ref q0, .int x1], [.int (1 : Int32)], σ)) (P := []) rfl trivial ?_
        subst h
        exact mm_rt_ ⟨_, _, _, rfl, ⟨_, _, rfl, rfl, rfl, rfl⟩⟩
theorem sg_X1_thirstOf_0 (σ : mm_Sg) (q0 : Nat) (x1 : Int32) (x2 : Int32) (R : Option Value × mm_Sg) (h : ((mm_cl q0 = 1) ∧ ∃ (v3 : Int32) (σ1 : mm_Sg), mm_Ev mm_m_X1_has [.ref q0, .int x1] σ (some (.int v3)) σ1 ∧ (((v3 = (0 : Int32) → (R = (some (.int (0 : Int32)), σ1))) ∧ (¬ (v3 = (0 : Int32)) → ((vp_in x1 (mm_len (q0 + 1))) ∧ ∃ (q9 : Nat) (σ7 : mm_Sg), mm_Ev mm_m_X10_kindNumbered [.ref 1, .int (σ1 (q0 + 1) x1.toNatClampNeg)] σ1 (some (.ref q9)) σ7 ∧ ((vp_in x1 (mm_len (q0 + 2))) ∧ ∃ (v13 : Int32) (σ11 : mm_Sg), mm_Dv 0 [.ref q9, .int x2, .int (σ7 (q0 + 2) x1.toNatClampNeg)] σ7 (some (.int v13)) σ11 ∧ (R = (some (.int v13), σ11))))))))) : mm_Go mm_m_X1_thirstOf (0, [.ref q0, .int x1, .int x2], [], σ) R := by
  refine mm_blk (M := mm_m_X1_thirstOf) 2 (S' := (2, [.ref q0, .int x1, .int x2], [.int x1, .ref q0], σ)) (P := []) rfl trivial ?_
  obtain ⟨c4, h⟩ := h
  obtain ⟨v3, σ1, e2, h⟩ := h
  refine mm_cl_ (rest := []) e2 ⟨_, _, _, rfl, rfl, mm_tb_X1_has, rfl, rfl, Nat.le_of_ble_eq_true rfl, Nat.le_of_ble_eq_true rfl, ⟨_, rfl, c4⟩⟩ ?_
  refine mm_blk (M := mm_m_X1_thirstOf) 1 (S' := ((if v3 = (0 : Int32) then 34 else 8), [.ref q0, .int x1, .int x2], [], σ1)) (P := []) rfl trivial ?_
  by_cases b5 : v3 = (0 : Int32)
  · rw [if_pos b5]
    have h := h.1 b5
    refine mm_blk (M := mm_m_X1_thirstOf) 1 (S' := (35, [.ref q0, .int x1, .int x2], [.int (0 : Int32)], σ1)) (P := []) rfl trivial ?_
    subst h
    exact mm_rt_ ⟨_, _, _, rfl, ⟨_, _, rfl, rfl, rfl, rfl⟩⟩
  · rw [if_neg b5]
    have h := h.2 b5
    obtain ⟨c6, h⟩ := h
    refine mm_blk (M := mm_m_X1_thirstOf) 6 (S' := (18, [.ref q0, .int x1, .int x2], [.int (σ1 (q0 + 1) x1.toNatClampNeg), .ref 1], σ1)) (P := [mm_cl q0 = 1, mm_cl q0 = 1, vp_in x1 (mm_len (q0 + 1))]) rfl ⟨c4, c4, c6, trivial⟩ ?_
    obtain ⟨q9, σ7, e8, h⟩ := h
    refine mm_cl_ (rest := []) e8 ⟨_, _, _, rfl, rfl, mm_tb_X10_kindNumbered, rfl, rfl, Nat.le_of_ble_eq_true rfl, Nat.le_of_ble_eq_true rfl, trivial⟩ ?_
    obtain ⟨c10, h⟩ := h
    refine mm_blk (M := mm_m_X1_thirstOf) 5 (S' := (28, [.ref q0, .int x1, .int x2], [.int (σ7 (q0 + 2) x1.toNatClampNeg), .int x2, .ref q9], σ7)) (P := [mm_cl q0 = 1, vp_in x1 (mm_len (q0 + 2))]) rfl ⟨c4, c10, trivial⟩ ?_
    obtain ⟨v13, σ11, ⟨M14, dq, dr, de, d1, d2, d3, e12⟩, h⟩ := h
    cases de
    refine mm_cl_ (rest := []) e12 ⟨_, _, _, rfl, rfl, d1, rfl, rfl, Nat.le_of_ble_eq_true rfl, d3, ⟨_, rfl, d2⟩⟩ ?_
    refine mm_blk (M := mm_m_X1_thirstOf) 1 (S' := (35, [.ref q0, .int x1, .int x2], [.int v13], σ11)) (P := []) rfl trivial ?_
    subst h
    exact mm_rt_ ⟨_, _, _, rfl, ⟨_, _, rfl, rfl, rfl, rfl⟩⟩
theorem sg_X1_goDays_0 (σ : mm_Sg) (q0 : Nat) (x1 : Int32) (R : Option Value × mm_Sg) (h : mm_Go mm_m_X1_goDays (2, [.ref q0, .int x1, .int (0 : Int32), .null], [], σ) R) : mm_Go mm_m_X1_goDays (0, [.ref q0, .int x1, .null, .null], [], σ) R := by
  refine mm_blk (M := mm_m_X1_goDays) 2 (S' := (2, [.ref q0, .int x1, .int (0 : Int32), .null], [], σ)) (P := []) rfl trivial ?_
  exact h
theorem sg_X1_goDays_2 (σ : mm_Sg) (q0 : Nat) (x1 : Int32) (x2 : Int32) (d3 : Value) (R : Option Value × mm_Sg) (h : (((x1 ≤ x2 → (R = (none, σ))) ∧ (¬ (x1 ≤ x2) → ((mm_cl q0 = 1) ∧ ∀ σ3 : mm_Sg, σ3 = mm_u σ q0 9 ((σ q0 9) + (1 : Int32)) → (∃ (σ5 : mm_Sg), mm_Ev mm_m_X1_restSleepers [.ref q0] σ3 none σ5 ∧ mm_Go mm_m_X1_goDays (23, [.ref q0, .int x1, .int x2, .int (0 : Int32)], [], σ5) R)))))) : mm_Go mm_m_X1_goDays (2, [.ref q0, .int x1, .int x2, d3], [], σ) R := by
  refine mm_blk (M := mm_m_X1_goDays) 3 (S' := ((if x1 ≤ x2 then 52 else 7), [.ref q0, .int x1, .int x2, d3], [], σ)) (P := []) rfl trivial ?_
  by_cases b1 : x1 ≤ x2
  · rw [if_pos b1]
    have h := h.1 b1
    subst h
    exact mm_rt_ ⟨_, _, _, rfl, ⟨rfl, rfl, rfl⟩⟩
  · rw [if_neg b1]
    have h := h.2 b1
    obtain ⟨c2, h⟩ := h
    refine mm_blk (M := mm_m_X1_goDays) 6 (S' := (17, [.ref q0, .int x1, .int x2, d3], [], mm_u σ q0 9 ((σ q0 9) + (1 : Int32)))) (P := [mm_cl q0 = 1, mm_cl q0 = 1]) rfl ⟨c2, c2, trivial⟩ ?_
    obtain ⟨σ3, e4⟩ : ∃ z, z = mm_u σ q0 9 ((σ q0 9) + (1 : Int32)) := ⟨_, rfl⟩
    rw [← e4]
    have h := h σ3 e4
    refine mm_blk (M := mm_m_X1_goDays) 1 (S' := (18, [.ref q0, .int x1, .int x2, d3], [.ref q0], σ3)) (P := []) rfl trivial ?_
    obtain ⟨σ5, e6, h⟩ := h
    refine mm_cl_ (rest := []) e6 ⟨_, _, _, rfl, rfl, mm_tb_X1_restSleepers, rfl, rfl, Nat.le_of_ble_eq_true rfl, Nat.le_of_ble_eq_true rfl, ⟨_, rfl, c2⟩⟩ ?_
    refine mm_blk (M := mm_m_X1_goDays) 2 (S' := (23, [.ref q0, .int x1, .int x2, .int (0 : Int32)], [], σ5)) (P := []) rfl trivial ?_
    exact h
theorem sg_X1_goDays_23 (σ : mm_Sg) (q0 : Nat) (x1 : Int32) (x2 : Int32) (x3 : Int32) (R : Option Value × mm_Sg) (h : ((mm_cl q0 = 1) ∧ (((σ q0 6) ≤ x3 → (∃ (σ3 : mm_Sg), mm_Ev mm_m_X1_endDay [.ref q0] σ none σ3 ∧ mm_Go mm_m_X1_goDays (2, [.ref q0, .int x1, .int (x2 + (1 : Int32)), .int x3], [], σ3) R)) ∧ (¬ ((σ q0 6) ≤ x3) → (∃ (σ5 : mm_Sg), mm_Ev mm_m_X1_pour [.ref q0, .int x3] σ none σ5 ∧ mm_Go mm_m_X1_goDays (23, [.ref q0, .int x1, .int x2, .int (x3 + (1 : Int32))], [], σ5) R))))) : mm_Go mm_m_X1_goDays (23, [.ref q0, .int x1, .int x2, .int x3], [], σ) R := by
  obtain ⟨c1, h⟩ := h
  refine mm_blk (M := mm_m_X1_goDays) 4 (S' := ((if (σ q0 6) ≤ x3 then 42 else 31), [.ref q0, .int x1, .int x2, .int x3], [], σ)) (P := [mm_cl q0 = 1]) rfl ⟨c1, trivial⟩ ?_
  by_cases b2 : (σ q0 6) ≤ x3
  · rw [if_pos b2]
    have h := h.1 b2
    refine mm_blk (M := mm_m_X1_goDays) 1 (S' := (43, [.ref q0, .int x1, .int x2, .int x3], [.ref q0], σ)) (P := []) rfl trivial ?_
    obtain ⟨σ3, e4, h⟩ := h
    refine mm_cl_ (rest := []) e4 ⟨_, _, _, rfl, rfl, mm_tb_X1_endDay, rfl, rfl, Nat.le_of_ble_eq_true rfl, Nat.le_of_ble_eq_true rfl, ⟨_, rfl, c1⟩⟩ ?_
    refine mm_blk (M := mm_m_X1_goDays) 2 (S' := (2, [.ref q0, .int x1, .int (x2 + (1 : Int32)), .int x3], [], σ3)) (P := []) rfl trivial ?_
    exact h
  · rw [if_neg b2]
    have h := h.2 b2
    refine mm_blk (M := mm_m_X1_goDays) 2 (S' := (33, [.ref q0, .int x1, .int x2, .int x3], [.int x3, .ref q0], σ)) (P := []) rfl trivial ?_
    obtain ⟨σ5, e6, h⟩ := h
    refine mm_cl_ (rest := []) e6 ⟨_, _, _, rfl, rfl, mm_tb_X1_pour, rfl, rfl, Nat.le_of_ble_eq_true rfl, Nat.le_of_ble_eq_true rfl, ⟨_, rfl, c1⟩⟩ ?_
    refine mm_blk (M := mm_m_X1_goDays) 2 (S' := (23, [.ref q0, .int x1, .int x2, .int (x3 + (1 : Int32))], [], σ5)) (P := []) rfl trivial ?_
    exact h
theorem sg_X1_pour_0 (σ : mm_Sg) (q0 : Nat) (x1 : Int32) (R : Option Value × mm_Sg) (h : ((mm_cl q0 = 1) ∧ ∃ (v3 : Int32) (σ1 : mm_Sg), mm_Ev mm_m_X1_has [.ref q0, .int x1] σ (some (.int v3)) σ1 ∧ (((¬ v3 = (0 : Int32) → ((vp_in x1 (mm_len (q0 + 1))) ∧ ∃ (q9 : Nat) (σ7 : mm_Sg), mm_Ev mm_m_X10_kindNumbered [.ref 1, .int (σ1 (q0 + 1) x1.toNatClampNeg)] σ1 (some (.ref q9)) σ7 ∧ ((((((σ7 q0 12) >>> (x1 &&& 31)) &&& (1 : Int32)) = (0 : Int32) → ((vp_in x1 (mm_len (q0 + 2))) ∧ ∃ (v14 : Int32) (σ12 : mm_Sg), mm_Dv 0 [.ref q9, .int (σ7 q0 9), .int (σ7 (q0 + 2) x1.toNatClampNeg)] σ7 (some (.int v14)) σ12 ∧ (((¬ x1 = (σ12 q0 11) → (∀ σ16 : mm_Sg, σ16 = mm_u σ12 q0 8 ((σ12 q0 8) - (if (σ12 q0 8) < v14 then (σ12 q0 8) else v14)) → ((vp_in x1 (mm_len (q0 + 6))) ∧ ∀ σ19 : mm_Sg, σ19 = mm_u σ16 (q0 + 6) x1.toNatClampNeg ((σ16 (q0 + 6) x1.toNatClampNeg) + (if (σ12 q0 8) < v14 then (σ12 q0 8) else v14)) → ((vp_in x1 (mm_len (q0 + 3))) ∧ ∃ (v24 : Int32) (σ22 : mm_Sg), mm_Ev mm_m_X1_isAwake [.ref q0, .int (σ19 (q0 + 3) x1.toNatClampNeg)] σ19 (some (.int v24)) σ22 ∧ (((v24 = (0 : Int32) → ((vp_in x1 (mm_len (q0 + 4))) ∧ ∃ (v29 : Int32) (σ27 : mm_Sg), mm_Dv 2 [.ref q9, .int (if (σ12 q0 8) < v14 then (σ12 q0 8) else v14), .int (σ22 (q0 + 2) x1.toNatClampNeg)] σ22 (some (.int v29)) σ27 ∧ (∀ σ30 : mm_Sg, σ30 = mm_u σ27 (q0 + 4) x1.toNatClampNeg (if ((σ22 (q0 + 4) x1.toNatClampNeg) + v29) < (999 : Int32) then ((σ22 (q0 + 4) x1.toNatClampNeg) + v29) else (999 : Int32)) → (R = (none, σ30))))) ∧ (¬ (v24 = (0 : Int32)) → ((vp_in (σ19 (q0 + 3) x1.toNatClampNeg) (mm_len (q0 + 5))) ∧ ∃ (v36 : Int32) (σ34 : mm_Sg), mm_Dv 1 [.ref q9, .int (if (σ12 q0 8) < v14 then (σ12 q0 8) else v14), .int (σ22 (q0 + 2) x1.toNatClampNeg)] σ22 (some (.int v36)) σ34 ∧ (∀ σ37 : mm_Sg, σ37 = mm_u σ34 (q0 + 5) (σ19 (q0 + 3) x1.toNatClampNeg).toNatClampNeg (if ((σ22 (q0 + 5) (σ19 (q0 + 3) x1.toNatClampNeg).toNatClampNeg) + v36) < (99 : Int32) then ((σ22 (q0 + 5) (σ19 (q0 + 3) x1.toNatClampNeg).toNatClampNeg) + v36) else (99 : Int32)) → (R = (none, σ37))))))))))) ∧ (¬ (¬ x1 = (σ12 q0 11)) → (∀ σ40 : mm_Sg, σ40 = mm_u σ12 q0 8 ((σ12 q0 8) - (if (σ12 q0 8) < (v14 / (2 : Int32)) then (σ12 q0 8) else (v14 / (2 : Int32)))) → ((vp_in x1 (mm_len (q0 + 6))) ∧ ∀ σ43 : mm_Sg, σ43 = mm_u σ40 (q0 + 6) x1.toNatClampNeg ((σ40 (q0 + 6) x1.toNatClampNeg) + (if (σ12 q0 8) < (v14 / (2 : Int32)) then (σ12 q0 8) else (v14 / (2 : Int32)))) → ((vp_in x1 (mm_len (q0 + 3))) ∧ ∃ (v48 : Int32) (σ46 : mm_Sg), mm_Ev mm_m_X1_isAwake [.ref q0, .int (σ43 (q0 + 3) x1.toNatClampNeg)] σ43 (some (.int v48)) σ46 ∧ (((v48 = (0 : Int32) → ((vp_in x1 (mm_len (q0 + 4))) ∧ ∃ (v53 : Int32) (σ51 : mm_Sg), mm_Dv 2 [.ref q9, .int (if (σ12 q0 8) < (v14 / (2 : Int32)) then (σ12 q0 8) else (v14 / (2 : Int32))), .int (σ46 (q0 + 2) x1.toNatClampNeg)] σ46 (some (.int v53)) σ51 ∧ (∀ σ54 : mm_Sg, σ54 = mm_u σ51 (q0 + 4) x1.toNatClampNeg (if ((σ46 (q0 + 4) x1.toNatClampNeg) + v53) < (999 : Int32) then ((σ46 (q0 + 4) x1.toNatClampNeg) + v53) else (999 : Int32)) → (R = (none, σ54))))) ∧ (¬ (v48 = (0 : Int32)) → ((vp_in (σ43 (q0 + 3) x1.toNatClampNeg) (mm_len (q0 + 5))) ∧ ∃ (v60 : Int32) (σ58 : mm_Sg), mm_Dv 1 [.ref q9, .int (if (σ12 q0 8) < (v14 / (2 : Int32)) then (σ12 q0 8) else (v14 / (2 : Int32))), .int (σ46 (q0 + 2) x1.toNatClampNeg)] σ46 (some (.int v60)) σ58 ∧ (∀ σ61 : mm_Sg, σ61 = mm_u σ58 (q0 + 5) (σ43 (q0 + 3) x1.toNatClampNeg).toNatClampNeg (if ((σ46 (q0 + 5) (σ43 (q0 + 3) x1.toNatClampNeg).toNatClampNeg) + v60) < (99 : Int32) then ((σ46 (q0 + 5) (σ43 (q0 + 3) x1.toNatClampNeg).toNatClampNeg) + v60) else (99 : Int32)) → (R = (none, σ61))))))))))))))) ∧ (¬ ((((σ7 q0 12) >>> (x1 &&& 31)) &&& (1 : Int32)) = (0 : Int32)) → (((¬ x1 = (σ7 q0 11) → (∀ σ66 : mm_Sg, σ66 = mm_u σ7 q0 8 ((σ7 q0 8) - (if (σ7 q0 8) < (0 : Int32) then (σ7 q0 8) else (0 : Int32))) → ((vp_in x1 (mm_len (q0 + 6))) ∧ ∀ σ69 : mm_Sg, σ69 = mm_u σ66 (q0 + 6) x1.toNatClampNeg ((σ66 (q0 + 6) x1.toNatClampNeg) + (if (σ7 q0 8) < (0 : Int32) then (σ7 q0 8) else (0 : Int32))) → ((vp_in x1 (mm_len (q0 + 3))) ∧ ∃ (v74 : Int32) (σ72 : mm_Sg), mm_Ev mm_m_X1_isAwake [.ref q0, .int (σ69 (q0 + 3) x1.toNatClampNeg)] σ69 (some (.int v74)) σ72 ∧ (((v74 = (0 : Int32) → ((vp_in x1 (mm_len (q0 + 4))) ∧ (vp_in x1 (mm_len (q0 + 2))) ∧ ∃ (v80 : Int32) (σ78 : mm_Sg), mm_Dv 2 [.ref q9, .int (if (σ7 q0 8) < (0 : Int32) then (σ7 q0 8) else (0 : Int32)), .int (σ72 (q0 + 2) x1.toNatClampNeg)] σ72 (some (.int v80)) σ78 ∧ (∀ σ81 : mm_Sg, σ81 = mm_u σ78 (q0 + 4) x1.toNatClampNeg (if ((σ72 (q0 + 4) x1.toNatClampNeg) + v80) < (999 : Int32) then ((σ72 (q0 + 4) x1.toNatClampNeg) + v80) else (999 : Int32)) → (R = (none, σ81))))) ∧ (¬ (v74 = (0 : Int32)) → ((vp_in (σ69 (q0 + 3) x1.toNatClampNeg) (mm_len (q0 + 5))) ∧ (vp_in x1 (mm_len (q0 + 2))) ∧ ∃ (v88 : Int32) (σ86 : mm_Sg), mm_Dv 1 [.ref q9, .int (if (σ7 q0 8) < (0 : Int32) then (σ7 q0 8) else (0 : Int32)), .int (σ72 (q0 + 2) x1.toNatClampNeg)] σ72 (some (.int v88)) σ86 ∧ (∀ σ89 : mm_Sg, σ89 = mm_u σ86 (q0 + 5) (σ69 (q0 + 3) x1.toNatClampNeg).toNatClampNeg (if ((σ72 (q0 + 5) (σ69 (q0 + 3) x1.toNatClampNeg).toNatClampNeg) + v88) < (99 : Int32) then ((σ72 (q0 + 5) (σ69 (q0 + 3) x1.toNatClampNeg).toNatClampNeg) + v88) else (99 : Int32)) → (R = (none, σ89))))))))))) ∧ (¬ (¬ x1 = (σ7 q0 11)) → (∀ σ92 : mm_Sg, σ92 = mm_u σ7 q0 8 ((σ7 q0 8) - (if (σ7 q0 8) < ((0 : Int32) / (2 : Int32)) then (σ7 q0 8) else ((0 : Int32) / (2 : Int32)))) → ((vp_in x1 (mm_len (q0 + 6))) ∧ ∀ σ95 : mm_Sg, σ95 = mm_u σ92 (q0 + 6) x1.toNatClampNeg ((σ92 (q0 + 6) x1.toNatClampNeg) + (if (σ7 q0 8) < ((0 : Int32) / (2 : Int32)) then (σ7 q0 8) else ((0 : Int32) / (2 : Int32)))) → ((vp_in x1 (mm_len (q0 + 3))) ∧ ∃ (v100 : Int32) (σ98 : mm_Sg), mm_Ev mm_m_X1_isAwake [.ref q0, .int (σ95 (q0 + 3) x1.toNatClampNeg)] σ95 (some (.int v100)) σ98 ∧ (((v100 = (0 : Int32) → ((vp_in x1 (mm_len (q0 + 4))) ∧ (vp_in x1 (mm_len (q0 + 2))) ∧ ∃ (v106 : Int32) (σ104 : mm_Sg), mm_Dv 2 [.ref q9, .int (if (σ7 q0 8) < ((0 : Int32) / (2 : Int32)) then (σ7 q0 8) else ((0 : Int32) / (2 : Int32))), .int (σ98 (q0 + 2) x1.toNatClampNeg)] σ98 (some (.int v106)) σ104 ∧ (∀ σ107 : mm_Sg, σ107 = mm_u σ104 (q0 + 4) x1.toNatClampNeg (if ((σ98 (q0 + 4) x1.toNatClampNeg) + v106) < (999 : Int32) then ((σ98 (q0 + 4) x1.toNatClampNeg) + v106) else (999 : Int32)) → (R = (none, σ107))))) ∧ (¬ (v100 = (0 : Int32)) → ((vp_in (σ95 (q0 + 3) x1.toNatClampNeg) (mm_len (q0 + 5))) ∧ (vp_in x1 (mm_len (q0 + 2))) ∧ ∃ (v114 : Int32) (σ112 : mm_Sg), mm_Dv 1 [.ref q9, .int (if (σ7 q0 8) < ((0 : Int32) / (2 : Int32)) then (σ7 q0 8) else ((0 : Int32) / (2 : Int32))), .int (σ98 (q0 + 2) x1.toNatClampNeg)] σ98 (some (.int v114)) σ112 ∧ (∀ σ115 : mm_Sg, σ115 = mm_u σ112 (q0 + 5) (σ95 (q0 + 3) x1.toNatClampNeg).toNatClampNeg (if ((σ98 (q0 + 5) (σ95 (q0 + 3) x1.toNatClampNeg).toNatClampNeg) + v114) < (99 : Int32) then ((σ98 (q0 + 5) (σ95 (q0 + 3) x1.toNatClampNeg).toNatClampNeg) + v114) else (99 : Int32)) → (R = (none, σ115)))))))))))))))))) ∧ (¬ (¬ v3 = (0 : Int32)) → (R = (none, σ1))))))) : mm_Go mm_m_X1_pour (0, [.ref q0, .int x1, .null, .null, .null, .null], [], σ) R := by
  refine mm_blk (M := mm_m_X1_pour) 2 (S' := (2, [.ref q0, .int x1, .null, .null, .null, .null], [.int x1, .ref q0], σ)) (P := []) rfl trivial ?_
  obtain ⟨c4, h⟩ := h
  obtain ⟨v3, σ1, e2, h⟩ := h
  refine mm_cl_ (rest := []) e2 ⟨_, _, _, rfl, rfl, mm_tb_X1_has, rfl, rfl, Nat.le_of_ble_eq_true rfl, Nat.le_of_ble_eq_true rfl, ⟨_, rfl, c4⟩⟩ ?_
  refine mm_blk (M := mm_m_X1_pour) 1 (S' := ((if ¬ v3 = (0 : Int32) then 9 else 8), [.ref q0, .int x1, .null, .null, .null, .null], [], σ1)) (P := []) rfl trivial ?_
  by_cases b5 : ¬ v3 = (0 : Int32)
  · rw [if_pos b5]
    have h := h.1 b5
    obtain ⟨c6, h⟩ := h
    refine mm_blk (M := mm_m_X1_pour) 6 (S' := (19, [.ref q0, .int x1, .null, .null, .null, .null], [.int (σ1 (q0 + 1) x1.toNatClampNeg), .ref 1], σ1)) (P := [mm_cl q0 = 1, mm_cl q0 = 1, vp_in x1 (mm_len (q0 + 1))]) rfl ⟨c4, c4, c6, trivial⟩ ?_
    obtain ⟨q9, σ7, e8, h⟩ := h
    refine mm_cl_ (rest := []) e8 ⟨_, _, _, rfl, rfl, mm_tb_X10_kindNumbered, rfl, rfl, Nat.le_of_ble_eq_true rfl, Nat.le_of_ble_eq_true rfl, trivial⟩ ?_
    refine mm_blk (M := mm_m_X1_pour) 8 (S' := ((if (((σ7 q0 12) >>> (x1 &&& 31)) &&& (1 : Int32)) = (0 : Int32) then 38 else 34), [.ref q0, .int x1, .ref q9, .null, .null, .null], [], σ7)) (P := [mm_cl q0 = 1]) rfl ⟨c4, trivial⟩ ?_
    by_cases b10 : (((σ7 q0 12) >>> (x1 &&& 31)) &&& (1 : Int32)) = (0 : Int32)
    · rw [if_pos b10]
      have h := h.1 b10
      obtain ⟨c11, h⟩ := h
      refine mm_blk (M := mm_m_X1_pour) 7 (S' := (49, [.ref q0, .int x1, .ref q9, .null, .null, .null], [.int (σ7 (q0 + 2) x1.toNatClampNeg), .int (σ7 q0 9), .ref q9], σ7)) (P := [mm_cl q0 = 1, mm_cl q0 = 1, vp_in x1 (mm_len (q0 + 2))]) rfl ⟨c4, c4, c11, trivial⟩ ?_
      obtain ⟨v14, σ12, ⟨M64, dq, dr, de, d1, d2, d3, e13⟩, h⟩ := h
      cases de
      refine mm_cl_ (rest := []) e13 ⟨_, _, _, rfl, rfl, d1, rfl, rfl, Nat.le_of_ble_eq_true rfl, d3, ⟨_, rfl, d2⟩⟩ ?_
      refine mm_blk (M := mm_m_X1_pour) 5 (S' := ((if ¬ x1 = (σ12 q0 11) then 67 else 61), [.ref q0, .int x1, .ref q9, .int v14, .null, .null], [], σ12)) (P := [mm_cl q0 = 1]) rfl ⟨c4, trivial⟩ ?_
      by_cases b15 : ¬ x1 = (σ12 q0 11)
      · rw [if_pos b15]
        have h := h.1 b15
        refine mm_blk (M := mm_m_X1_pour) 11 (S' := (88, [.ref q0, .int x1, .ref q9, .int v14, .int (if (σ12 q0 8) < v14 then (σ12 q0 8) else v14), .null], [], mm_u σ12 q0 8 ((σ12 q0 8) - (if (σ12 q0 8) < v14 then (σ12 q0 8) else v14)))) (P := [mm_cl q0 = 1, mm_cl q0 = 1, mm_cl q0 = 1]) rfl ⟨c4, c4, c4, trivial⟩ ?_
        obtain ⟨σ16, e17⟩ : ∃ z, z = mm_u σ12 q0 8 ((σ12 q0 8) - (if (σ12 q0 8) < v14 then (σ12 q0 8) else v14)) := ⟨_, rfl⟩
        rw [← e17]
        have h := h σ16 e17
        obtain ⟨c18, h⟩ := h
        refine mm_blk (M := mm_m_X1_pour) 8 (S' := (99, [.ref q0, .int x1, .ref q9, .int v14, .int (if (σ12 q0 8) < v14 then (σ12 q0 8) else v14), .null], [], mm_u σ16 (q0 + 6) x1.toNatClampNeg ((σ16 (q0 + 6) x1.toNatClampNeg) + (if (σ12 q0 8) < v14 then (σ12 q0 8) else v14)))) (P := [mm_cl q0 = 1, vp_in x1 (mm_len (q0 + 6)), vp_in x1 (mm_len (q0 + 6))]) rfl ⟨c4, c18, c18, trivial⟩ ?_
        obtain ⟨σ19, e20⟩ : ∃ z, z = mm_u σ16 (q0 + 6) x1.toNatClampNeg ((σ16 (q0 + 6) x1.toNatClampNeg) + (if (σ12 q0 8) < v14 then (σ12 q0 8) else v14)) := ⟨_, rfl⟩
        rw [← e20]
        have h := h σ19 e20
        obtain ⟨c21, h⟩ := h
        refine mm_blk (M := mm_m_X1_pour) 7 (S' := (110, [.ref q0, .int x1, .ref q9, .int v14, .int (if (σ12 q0 8) < v14 then (σ12 q0 8) else v14), .int (σ19 (q0 + 3) x1.toNatClampNeg)], [.int (σ19 (q0 + 3) x1.toNatClampNeg), .ref q0], σ19)) (P := [mm_cl q0 = 1, vp_in x1 (mm_len (q0 + 3))]) rfl ⟨c4, c21, trivial⟩ ?_
        obtain ⟨v24, σ22, e23, h⟩ := h
        refine mm_cl_ (rest := []) e23 ⟨_, _, _, rfl, rfl, mm_tb_X1_isAwake, rfl, rfl, Nat.le_of_ble_eq_true rfl, Nat.le_of_ble_eq_true rfl, ⟨_, rfl, c4⟩⟩ ?_
        refine mm_blk (M := mm_m_X1_pour) 1 (S' := ((if v24 = (0 : Int32) then 151 else 116), [.ref q0, .int x1, .ref q9, .int v14, .int (if (σ12 q0 8) < v14 then (σ12 q0 8) else v14), .int (σ19 (q0 + 3) x1.toNatClampNeg)], [], σ22)) (P := []) rfl trivial ?_
        by_cases b25 : v24 = (0 : Int32)
        · rw [if_pos b25]
          have h := h.1 b25
          obtain ⟨c26, h⟩ := h
          refine mm_blk (M := mm_m_X1_pour) 14 (S' := (174, [.ref q0, .int x1, .ref q9, .int v14, .int (if (σ12 q0 8) < v14 then (σ12 q0 8) else v14), .int (σ19 (q0 + 3) x1.toNatClampNeg)], [.int (σ22 (q0 + 2) x1.toNatClampNeg), .int (if (σ12 q0 8) < v14 then (σ12 q0 8) else v14), .ref q9, .int (σ22 (q0 + 4) x1.toNatClampNeg), .int (999 : Int32), .int x1, .ref (q0 + 4)], σ22)) (P := [mm_cl q0 = 1, mm_cl q0 = 1, vp_in x1 (mm_len (q0 + 4)), mm_cl q0 = 1, vp_in x1 (mm_len (q0 + 2))]) rfl ⟨c4, c4, c26, c4, c11, trivial⟩ ?_
          obtain ⟨v29, σ27, ⟨M32, dq, dr, de, d1, d2, d3, e28⟩, h⟩ := h
          cases de
          refine mm_cl_ (rest := [.int (σ22 (q0 + 4) x1.toNatClampNeg), .int (999 : Int32), .int x1, .ref (q0 + 4)]) e28 ⟨_, _, _, rfl, rfl, d1, rfl, rfl, Nat.le_of_ble_eq_true rfl, d3, ⟨_, rfl, d2⟩⟩ ?_
          refine mm_blk (M := mm_m_X1_pour) 3 (S' := (182, [.ref q0, .int x1, .ref q9, .int v14, .int (if (σ12 q0 8) < v14 then (σ12 q0 8) else v14), .int (σ19 (q0 + 3) x1.toNatClampNeg)], [], mm_u σ27 (q0 + 4) x1.toNatClampNeg (if ((σ22 (q0 + 4) x1.toNatClampNeg) + v29) < (999 : Int32) then ((σ22 (q0 + 4) x1.toNatClampNeg) + v29) else (999 : Int32)))) (P := [vp_in x1 (mm_len (q0 + 4))]) rfl ⟨c26, trivial⟩ ?_
          obtain ⟨σ30, e31⟩ : ∃ z, z = mm_u σ27 (q0 + 4) x1.toNatClampNeg (if ((σ22 (q0 + 4) x1.toNatClampNeg) + v29) < (999 : Int32) then ((σ22 (q0 + 4) x1.toNatClampNeg) + v29) else (999 : Int32)) := ⟨_, rfl⟩
          rw [← e31]
          have h := h σ30 e31
          subst h
          exact mm_rt_ ⟨_, _, _, rfl, ⟨rfl, rfl, rfl⟩⟩
        · rw [if_neg b25]
          have h := h.2 b25
          obtain ⟨c33, h⟩ := h
          refine mm_blk (M := mm_m_X1_pour) 14 (S' := (140, [.ref q0, .int x1, .ref q9, .int v14, .int (if (σ12 q0 8) < v14 then (σ12 q0 8) else v14), .int (σ19 (q0 + 3) x1.toNatClampNeg)], [.int (σ22 (q0 + 2) x1.toNatClampNeg), .int (if (σ12 q0 8) < v14 then (σ12 q0 8) else v14), .ref q9, .int (σ22 (q0 + 5) (σ19 (q0 + 3) x1.toNatClampNeg).toNatClampNeg), .int (99 : Int32), .int (σ19 (q0 + 3) x1.toNatClampNeg), .ref (q0 + 5)], σ22)) (P := [mm_cl q0 = 1, mm_cl q0 = 1, vp_in (σ19 (q0 + 3) x1.toNatClampNeg) (mm_len (q0 + 5)), mm_cl q0 = 1, vp_in x1 (mm_len (q0 + 2))]) rfl ⟨c4, c4, c33, c4, c11, trivial⟩ ?_
          obtain ⟨v36, σ34, ⟨M39, dq, dr, de, d1, d2, d3, e35⟩, h⟩ := h
          cases de
          refine mm_cl_ (rest := [.int (σ22 (q0 + 5) (σ19 (q0 + 3) x1.toNatClampNeg).toNatClampNeg), .int (99 : Int32), .int (σ19 (q0 + 3) x1.toNatClampNeg), .ref (q0 + 5)]) e35 ⟨_, _, _, rfl, rfl, d1, rfl, rfl, Nat.le_of_ble_eq_true rfl, d3, ⟨_, rfl, d2⟩⟩ ?_
          refine mm_blk (M := mm_m_X1_pour) 3 (S' := (148, [.ref q0, .int x1, .ref q9, .int v14, .int (if (σ12 q0 8) < v14 then (σ12 q0 8) else v14), .int (σ19 (q0 + 3) x1.toNatClampNeg)], [], mm_u σ34 (q0 + 5) (σ19 (q0 + 3) x1.toNatClampNeg).toNatClampNeg (if ((σ22 (q0 + 5) (σ19 (q0 + 3) x1.toNatClampNeg).toNatClampNeg) + v36) < (99 : Int32) then ((σ22 (q0 + 5) (σ19 (q0 + 3) x1.toNatClampNeg).toNatClampNeg) + v36) else (99 : Int32)))) (P := [vp_in (σ19 (q0 + 3) x1.toNatClampNeg) (mm_len (q0 + 5))]) rfl ⟨c33, trivial⟩ ?_
          obtain ⟨σ37, e38⟩ : ∃ z, z = mm_u σ34 (q0 + 5) (σ19 (q0 + 3) x1.toNatClampNeg).toNatClampNeg (if ((σ22 (q0 + 5) (σ19 (q0 + 3) x1.toNatClampNeg).toNatClampNeg) + v36) < (99 : Int32) then ((σ22 (q0 + 5) (σ19 (q0 + 3) x1.toNatClampNeg).toNatClampNeg) + v36) else (99 : Int32)) := ⟨_, rfl⟩
          rw [← e38]
          have h := h σ37 e38
          refine mm_blk (M := mm_m_X1_pour) 1 (S' := (182, [.ref q0, .int x1, .ref q9, .int v14, .int (if (σ12 q0 8) < v14 then (σ12 q0 8) else v14), .int (σ19 (q0 + 3) x1.toNatClampNeg)], [], σ37)) (P := []) rfl trivial ?_
          subst h
          exact mm_rt_ ⟨_, _, _, rfl, ⟨rfl, rfl, rfl⟩⟩
      · rw [if_neg b15]
        have h := h.2 b15
        refine mm_blk (M := mm_m_X1_pour) 14 (S' := (88, [.ref q0, .int x1, .ref q9, .int v14, .int (if (σ12 q0 8) < (v14 / (2 : Int32)) then (σ12 q0 8) else (v14 / (2 : Int32))), .null], [], mm_u σ12 q0 8 ((σ12 q0 8) - (if (σ12 q0 8) < (v14 / (2 : Int32)) then (σ12 q0 8) else (v14 / (2 : Int32)))))) (P := [¬ (2 : Int32) = 0, mm_cl q0 = 1, mm_cl q0 = 1, mm_cl q0 = 1]) rfl ⟨(by decide), c4, c4, c4, trivial⟩ ?_
        obtain ⟨σ40, e41⟩ : ∃ z, z = mm_u σ12 q0 8 ((σ12 q0 8) - (if (σ12 q0 8) < (v14 / (2 : Int32)) then (σ12 q0 8) else (v14 / (2 : Int32)))) := ⟨_, rfl⟩
        rw [← e41]
        have h := h σ40 e41
        obtain ⟨c42, h⟩ := h
        refine mm_blk (M := mm_m_X1_pour) 8 (S' := (99, [.ref q0, .int x1, .ref q9, .int v14, .int (if (σ12 q0 8) < (v14 / (2 : Int32)) then (σ12 q0 8) else (v14 / (2 : Int32))), .null], [], mm_u σ40 (q0 + 6) x1.toNatClampNeg ((σ40 (q0 + 6) x1.toNatClampNeg) + (if (σ12 q0 8) < (v14 / (2 : Int32)) then (σ12 q0 8) else (v14 / (2 : Int32)))))) (P := [mm_cl q0 = 1, vp_in x1 (mm_len (q0 + 6)), vp_in x1 (mm_len (q0 + 6))]) rfl ⟨c4, c42, c42, trivial⟩ ?_
        obtain ⟨σ43, e44⟩ : ∃ z, z = mm_u σ40 (q0 + 6) x1.toNatClampNeg ((σ40 (q0 + 6) x1.toNatClampNeg) + (if (σ12 q0 8) < (v14 / (2 : Int32)) then (σ12 q0 8) else (v14 / (2 : Int32)))) := ⟨_, rfl⟩
        rw [← e44]
        have h := h σ43 e44
        obtain ⟨c45, h⟩ := h
        refine mm_blk (M := mm_m_X1_pour) 7 (S' := (110, [.ref q0, .int x1, .ref q9, .int v14, .int (if (σ12 q0 8) < (v14 / (2 : Int32)) then (σ12 q0 8) else (v14 / (2 : Int32))), .int (σ43 (q0 + 3) x1.toNatClampNeg)], [.int (σ43 (q0 + 3) x1.toNatClampNeg), .ref q0], σ43)) (P := [mm_cl q0 = 1, vp_in x1 (mm_len (q0 + 3))]) rfl ⟨c4, c45, trivial⟩ ?_
        obtain ⟨v48, σ46, e47, h⟩ := h
        refine mm_cl_ (rest := []) e47 ⟨_, _, _, rfl, rfl, mm_tb_X1_isAwake, rfl, rfl, Nat.le_of_ble_eq_true rfl, Nat.le_of_ble_eq_true rfl, ⟨_, rfl, c4⟩⟩ ?_
        refine mm_blk (M := mm_m_X1_pour) 1 (S' := ((if v48 = (0 : Int32) then 151 else 116), [.ref q0, .int x1, .ref q9, .int v14, .int (if (σ12 q0 8) < (v14 / (2 : Int32)) then (σ12 q0 8) else (v14 / (2 : Int32))), .int (σ43 (q0 + 3) x1.toNatClampNeg)], [], σ46)) (P := []) rfl trivial ?_
        by_cases b49 : v48 = (0 : Int32)
        · rw [if_pos b49]
          have h := h.1 b49
          obtain ⟨c50, h⟩ := h
          refine mm_blk (M := mm_m_X1_pour) 14 (S' := (174, [.ref q0, .int x1, .ref q9, .int v14, .int (if (σ12 q0 8) < (v14 / (2 : Int32)) then (σ12 q0 8) else (v14 / (2 : Int32))), .int (σ43 (q0 + 3) x1.toNatClampNeg)], [.int (σ46 (q0 + 2) x1.toNatClampNeg), .int (if (σ12 q0 8) < (v14 / (2 : Int32)) then (σ12 q0 8) else (v14 / (2 : Int32))), .ref q9, .int (σ46 (q0 + 4) x1.toNatClampNeg), .int (999 : Int32), .int x1, .ref (q0 + 4)], σ46)) (P := [mm_cl q0 = 1, mm_cl q0 = 1, vp_in x1 (mm_len (q0 + 4)), mm_cl q0 = 1, vp_in x1 (mm_len (q0 + 2))]) rfl ⟨c4, c4, c50, c4, c11, trivial⟩ ?_
          obtain ⟨v53, σ51, ⟨M56, dq, dr, de, d1, d2, d3, e52⟩, h⟩ := h
          cases de
          refine mm_cl_ (rest := [.int (σ46 (q0 + 4) x1.toNatClampNeg), .int (999 : Int32), .int x1, .ref (q0 + 4)]) e52 ⟨_, _, _, rfl, rfl, d1, rfl, rfl, Nat.le_of_ble_eq_true rfl, d3, ⟨_, rfl, d2⟩⟩ ?_
          refine mm_blk (M := mm_m_X1_pour) 3 (S' := (182, [.ref q0, .int x1, .ref q9, .int v14, .int (if (σ12 q0 8) < (v14 / (2 : Int32)) then (σ12 q0 8) else (v14 / (2 : Int32))), .int (σ43 (q0 + 3) x1.toNatClampNeg)], [], mm_u σ51 (q0 + 4) x1.toNatClampNeg (if ((σ46 (q0 + 4) x1.toNatClampNeg) + v53) < (999 : Int32) then ((σ46 (q0 + 4) x1.toNatClampNeg) + v53) else (999 : Int32)))) (P := [vp_in x1 (mm_len (q0 + 4))]) rfl ⟨c50, trivial⟩ ?_
          obtain ⟨σ54, e55⟩ : ∃ z, z = mm_u σ51 (q0 + 4) x1.toNatClampNeg (if ((σ46 (q0 + 4) x1.toNatClampNeg) + v53) < (999 : Int32) then ((σ46 (q0 + 4) x1.toNatClampNeg) + v53) else (999 : Int32)) := ⟨_, rfl⟩
          rw [← e55]
          have h := h σ54 e55
          subst h
          exact mm_rt_ ⟨_, _, _, rfl, ⟨rfl, rfl, rfl⟩⟩
        · rw [if_neg b49]
          have h := h.2 b49
          obtain ⟨c57, h⟩ := h
          refine mm_blk (M := mm_m_X1_pour) 14 (S' := (140, [.ref q0, .int x1, .ref q9, .int v14, .int (if (σ12 q0 8) < (v14 / (2 : Int32)) then (σ12 q0 8) else (v14 / (2 : Int32))), .int (σ43 (q0 + 3) x1.toNatClampNeg)], [.int (σ46 (q0 + 2) x1.toNatClampNeg), .int (if (σ12 q0 8) < (v14 / (2 : Int32)) then (σ12 q0 8) else (v14 / (2 : Int32))), .ref q9, .int (σ46 (q0 + 5) (σ43 (q0 + 3) x1.toNatClampNeg).toNatClampNeg), .int (99 : Int32), .int (σ43 (q0 + 3) x1.toNatClampNeg), .ref (q0 + 5)], σ46)) (P := [mm_cl q0 = 1, mm_cl q0 = 1, vp_in (σ43 (q0 + 3) x1.toNatClampNeg) (mm_len (q0 + 5)), mm_cl q0 = 1, vp_in x1 (mm_len (q0 + 2))]) rfl ⟨c4, c4, c57, c4, c11, trivial⟩ ?_
          obtain ⟨v60, σ58, ⟨M63, dq, dr, de, d1, d2, d3, e59⟩, h⟩ := h
          cases de
          refine mm_cl_ (rest := [.int (σ46 (q0 + 5) (σ43 (q0 + 3) x1.toNatClampNeg).toNatClampNeg), .int (99 : Int32), .int (σ43 (q0 + 3) x1.toNatClampNeg), .ref (q0 + 5)]) e59 ⟨_, _, _, rfl, rfl, d1, rfl, rfl, Nat.le_of_ble_eq_true rfl, d3, ⟨_, rfl, d2⟩⟩ ?_
          refine mm_blk (M := mm_m_X1_pour) 3 (S' := (148, [.ref q0, .int x1, .ref q9, .int v14, .int (if (σ12 q0 8) < (v14 / (2 : Int32)) then (σ12 q0 8) else (v14 / (2 : Int32))), .int (σ43 (q0 + 3) x1.toNatClampNeg)], [], mm_u σ58 (q0 + 5) (σ43 (q0 + 3) x1.toNatClampNeg).toNatClampNeg (if ((σ46 (q0 + 5) (σ43 (q0 + 3) x1.toNatClampNeg).toNatClampNeg) + v60) < (99 : Int32) then ((σ46 (q0 + 5) (σ43 (q0 + 3) x1.toNatClampNeg).toNatClampNeg) + v60) else (99 : Int32)))) (P := [vp_in (σ43 (q0 + 3) x1.toNatClampNeg) (mm_len (q0 + 5))]) rfl ⟨c57, trivial⟩ ?_
          obtain ⟨σ61, e62⟩ : ∃ z, z = mm_u σ58 (q0 + 5) (σ43 (q0 + 3) x1.toNatClampNeg).toNatClampNeg (if ((σ46 (q0 + 5) (σ43 (q0 + 3) x1.toNatClampNeg).toNatClampNeg) + v60) < (99 : Int32) then ((σ46 (q0 + 5) (σ43 (q0 + 3) x1.toNatClampNeg).toNatClampNeg) + v60) else (99 : Int32)) := ⟨_, rfl⟩
          rw [← e62]
          have h := h σ61 e62
          refine mm_blk (M := mm_m_X1_pour) 1 (S' := (182, [.ref q0, .int x1, .ref q9, .int v14, .int (if (σ12 q0 8) < (v14 / (2 : Int32)) then (σ12 q0 8) else (v14 / (2 : Int32))), .int (σ43 (q0 + 3) x1.toNatClampNeg)], [], σ61)) (P := []) rfl trivial ?_
          subst h
          exact mm_rt_ ⟨_, _, _, rfl, ⟨rfl, rfl, rfl⟩⟩
    · rw [if_neg b10]
      have h := h.2 b10
      refine mm_blk (M := mm_m_X1_pour) 7 (S' := ((if ¬ x1 = (σ7 q0 11) then 67 else 61), [.ref q0, .int x1, .ref q9, .int (0 : Int32), .null, .null], [], σ7)) (P := [mm_cl q0 = 1]) rfl ⟨c4, trivial⟩ ?_
      by_cases b65 : ¬ x1 = (σ7 q0 11)
      · rw [if_pos b65]
        have h := h.1 b65
        refine mm_blk (M := mm_m_X1_pour) 11 (S' := (88, [.ref q0, .int x1, .ref q9, .int (0 : Int32), .int (if (σ7 q0 8) < (0 : Int32) then (σ7 q0 8) else (0 : Int32)), .null], [], mm_u σ7 q0 8 ((σ7 q0 8) - (if (σ7 q0 8) < (0 : Int32) then (σ7 q0 8) else (0 : Int32))))) (P := [mm_cl q0 = 1, mm_cl q0 = 1, mm_cl q0 = 1]) rfl ⟨c4, c4, c4, trivial⟩ ?_
        obtain ⟨σ66, e67⟩ : ∃ z, z = mm_u σ7 q0 8 ((σ7 q0 8) - (if (σ7 q0 8) < (0 : Int32) then (σ7 q0 8) else (0 : Int32))) := ⟨_, rfl⟩
        rw [← e67]
        have h := h σ66 e67
        obtain ⟨c68, h⟩ := h
        refine mm_blk (M := mm_m_X1_pour) 8 (S' := (99, [.ref q0, .int x1, .ref q9, .int (0 : Int32), .int (if (σ7 q0 8) < (0 : Int32) then (σ7 q0 8) else (0 : Int32)), .null], [], mm_u σ66 (q0 + 6) x1.toNatClampNeg ((σ66 (q0 + 6) x1.toNatClampNeg) + (if (σ7 q0 8) < (0 : Int32) then (σ7 q0 8) else (0 : Int32))))) (P := [mm_cl q0 = 1, vp_in x1 (mm_len (q0 + 6)), vp_in x1 (mm_len (q0 + 6))]) rfl ⟨c4, c68, c68, trivial⟩ ?_
        obtain ⟨σ69, e70⟩ : ∃ z, z = mm_u σ66 (q0 + 6) x1.toNatClampNeg ((σ66 (q0 + 6) x1.toNatClampNeg) + (if (σ7 q0 8) < (0 : Int32) then (σ7 q0 8) else (0 : Int32))) := ⟨_, rfl⟩
        rw [← e70]
        have h := h σ69 e70
        obtain ⟨c71, h⟩ := h
        refine mm_blk (M := mm_m_X1_pour) 7 (S' := (110, [.ref q0, .int x1, .ref q9, .int (0 : Int32), .int (if (σ7 q0 8) < (0 : Int32) then (σ7 q0 8) else (0 : Int32)), .int (σ69 (q0 + 3) x1.toNatClampNeg)], [.int (σ69 (q0 + 3) x1.toNatClampNeg), .ref q0], σ69)) (P := [mm_cl q0 = 1, vp_in x1 (mm_len (q0 + 3))]) rfl ⟨c4, c71, trivial⟩ ?_
        obtain ⟨v74, σ72, e73, h⟩ := h
        refine mm_cl_ (rest := []) e73 ⟨_, _, _, rfl, rfl, mm_tb_X1_isAwake, rfl, rfl, Nat.le_of_ble_eq_true rfl, Nat.le_of_ble_eq_true rfl, ⟨_, rfl, c4⟩⟩ ?_
        refine mm_blk (M := mm_m_X1_pour) 1 (S' := ((if v74 = (0 : Int32) then 151 else 116), [.ref q0, .int x1, .ref q9, .int (0 : Int32), .int (if (σ7 q0 8) < (0 : Int32) then (σ7 q0 8) else (0 : Int32)), .int (σ69 (q0 + 3) x1.toNatClampNeg)], [], σ72)) (P := []) rfl trivial ?_
        by_cases b75 : v74 = (0 : Int32)
        · rw [if_pos b75]
          have h := h.1 b75
          obtain ⟨c76, h⟩ := h
          obtain ⟨c77, h⟩ := h
          refine mm_blk (M := mm_m_X1_pour) 14 (S' := (174, [.ref q0, .int x1, .ref q9, .int (0 : Int32), .int (if (σ7 q0 8) < (0 : Int32) then (σ7 q0 8) else (0 : Int32)), .int (σ69 (q0 + 3) x1.toNatClampNeg)], [.int (σ72 (q0 + 2) x1.toNatClampNeg), .int (if (σ7 q0 8) < (0 : Int32) then (σ7 q0 8) else (0 : Int32)), .ref q9, .int (σ72 (q0 + 4) x1.toNatClampNeg), .int (999 : Int32), .int x1, .ref (q0 + 4)], σ72)) (P := [mm_cl q0 = 1, mm_cl q0 = 1, vp_in x1 (mm_len (q0 + 4)), mm_cl q0 = 1, vp_in x1 (mm_len (q0 + 2))]) rfl ⟨c4, c4, c76, c4, c77, trivial⟩ ?_
          obtain ⟨v80, σ78, ⟨M83, dq, dr, de, d1, d2, d3, e79⟩, h⟩ := h
          cases de
          refine mm_cl_ (rest := [.int (σ72 (q0 + 4) x1.toNatClampNeg), .int (999 : Int32), .int x1, .ref (q0 + 4)]) e79 ⟨_, _, _, rfl, rfl, d1, rfl, rfl, Nat.le_of_ble_eq_true rfl, d3, ⟨_, rfl, d2⟩⟩ ?_
          refine mm_blk (M := mm_m_X1_pour) 3 (S' := (182, [.ref q0, .int x1, .ref q9, .int (0 : Int32), .int (if (σ7 q0 8) < (0 : Int32) then (σ7 q0 8) else (0 : Int32)), .int (σ69 (q0 + 3) x1.toNatClampNeg)], [], mm_u σ78 (q0 + 4) x1.toNatClampNeg (if ((σ72 (q0 + 4) x1.toNatClampNeg) + v80) < (999 : Int32) then ((σ72 (q0 + 4) x1.toNatClampNeg) + v80) else (999 : Int32)))) (P := [vp_in x1 (mm_len (q0 + 4))]) rfl ⟨c76, trivial⟩ ?_
          obtain ⟨σ81, e82⟩ : ∃ z, z = mm_u σ78 (q0 + 4) x1.toNatClampNeg (if ((σ72 (q0 + 4) x1.toNatClampNeg) + v80) < (999 : Int32) then ((σ72 (q0 + 4) x1.toNatClampNeg) + v80) else (999 : Int32)) := ⟨_, rfl⟩
          rw [← e82]
          have h := h σ81 e82
          subst h
          exact mm_rt_ ⟨_, _, _, rfl, ⟨rfl, rfl, rfl⟩⟩
        · rw [if_neg b75]
          have h := h.2 b75
          obtain ⟨c84, h⟩ := h
          obtain ⟨c85, h⟩ := h
          refine mm_blk (M := mm_m_X1_pour) 14 (S' := (140, [.ref q0, .int x1, .ref q9, .int (0 : Int32), .int (if (σ7 q0 8) < (0 : Int32) then (σ7 q0 8) else (0 : Int32)), .int (σ69 (q0 + 3) x1.toNatClampNeg)], [.int (σ72 (q0 + 2) x1.toNatClampNeg), .int (if (σ7 q0 8) < (0 : Int32) then (σ7 q0 8) else (0 : Int32)), .ref q9, .int (σ72 (q0 + 5) (σ69 (q0 + 3) x1.toNatClampNeg).toNatClampNeg), .int (99 : Int32), .int (σ69 (q0 + 3) x1.toNatClampNeg), .ref (q0 + 5)], σ72)) (P := [mm_cl q0 = 1, mm_cl q0 = 1, vp_in (σ69 (q0 + 3) x1.toNatClampNeg) (mm_len (q0 + 5)), mm_cl q0 = 1, vp_in x1 (mm_len (q0 + 2))]) rfl ⟨c4, c4, c84, c4, c85, trivial⟩ ?_
          obtain ⟨v88, σ86, ⟨M91, dq, dr, de, d1, d2, d3, e87⟩, h⟩ := h
          cases de
          refine mm_cl_ (rest := [.int (σ72 (q0 + 5) (σ69 (q0 + 3) x1.toNatClampNeg).toNatClampNeg), .int (99 : Int32), .int (σ69 (q0 + 3) x1.toNatClampNeg), .ref (q0 + 5)]) e87 ⟨_, _, _, rfl, rfl, d1, rfl, rfl, Nat.le_of_ble_eq_true rfl, d3, ⟨_, rfl, d2⟩⟩ ?_
          refine mm_blk (M := mm_m_X1_pour) 3 (S' := (148, [.ref q0, .int x1, .ref q9, .int (0 : Int32), .int (if (σ7 q0 8) < (0 : Int32) then (σ7 q0 8) else (0 : Int32)), .int (σ69 (q0 + 3) x1.toNatClampNeg)], [], mm_u σ86 (q0 + 5) (σ69 (q0 + 3) x1.toNatClampNeg).toNatClampNeg (if ((σ72 (q0 + 5) (σ69 (q0 + 3) x1.toNatClampNeg).toNatClampNeg) + v88) < (99 : Int32) then ((σ72 (q0 + 5) (σ69 (q0 + 3) x1.toNatClampNeg).toNatClampNeg) + v88) else (99 : Int32)))) (P := [vp_in (σ69 (q0 + 3) x1.toNatClampNeg) (mm_len (q0 + 5))]) rfl ⟨c84, trivial⟩ ?_
          obtain ⟨σ89, e90⟩ : ∃ z, z = mm_u σ86 (q0 + 5) (σ69 (q0 + 3) x1.toNatClampNeg).toNatClampNeg (if ((σ72 (q0 + 5) (σ69 (q0 + 3) x1.toNatClampNeg).toNatClampNeg) + v88) < (99 : Int32) then ((σ72 (q0 + 5) (σ69 (q0 + 3) x1.toNatClampNeg).toNatClampNeg) + v88) else (99 : Int32)) := ⟨_, rfl⟩
          rw [← e90]
          have h := h σ89 e90
          refine mm_blk (M := mm_m_X1_pour) 1 (S' := (182, [.ref q0, .int x1, .ref q9, .int (0 : Int32), .int (if (σ7 q0 8) < (0 : Int32) then (σ7 q0 8) else (0 : Int32)), .int (σ69 (q0 + 3) x1.toNatClampNeg)], [], σ89)) (P := []) rfl trivial ?_
          subst h
          exact mm_rt_ ⟨_, _, _, rfl, ⟨rfl, rfl, rfl⟩⟩
      · rw [if_neg b65]
        have h := h.2 b65
        refine mm_blk (M := mm_m_X1_pour) 14 (S' := (88, [.ref q0, .int x1, .ref q9, .int (0 : Int32), .int (if (σ7 q0 8) < ((0 : Int32) / (2 : Int32)) then (σ7 q0 8) else ((0 : Int32) / (2 : Int32))), .null], [], mm_u σ7 q0 8 ((σ7 q0 8) - (if (σ7 q0 8) < ((0 : Int32) / (2 : Int32)) then (σ7 q0 8) else ((0 : Int32) / (2 : Int32)))))) (P := [¬ (2 : Int32) = 0, mm_cl q0 = 1, mm_cl q0 = 1, mm_cl q0 = 1]) rfl ⟨(by decide), c4, c4, c4, trivial⟩ ?_
        obtain ⟨σ92, e93⟩ : ∃ z, z = mm_u σ7 q0 8 ((σ7 q0 8) - (if (σ7 q0 8) < ((0 : Int32) / (2 : Int32)) then (σ7 q0 8) else ((0 : Int32) / (2 : Int32)))) := ⟨_, rfl⟩
        rw [← e93]
        have h := h σ92 e93
        obtain ⟨c94, h⟩ := h
        refine mm_blk (M := mm_m_X1_pour) 8 (S' := (99, [.ref q0, .int x1, .ref q9, .int (0 : Int32), .int (if (σ7 q0 8) < ((0 : Int32) / (2 : Int32)) then (σ7 q0 8) else ((0 : Int32) / (2 : Int32))), .null], [], mm_u σ92 (q0 + 6) x1.toNatClampNeg ((σ92 (q0 + 6) x1.toNatClampNeg) + (if (σ7 q0 8) < ((0 : Int32) / (2 : Int32)) then (σ7 q0 8) else ((0 : Int32) / (2 : Int32)))))) (P := [mm_cl q0 = 1, vp_in x1 (mm_len (q0 + 6)), vp_in x1 (mm_len (q0 + 6))]) rfl ⟨c4, c94, c94, trivial⟩ ?_
        obtain ⟨σ95, e96⟩ : ∃ z, z = mm_u σ92 (q0 + 6) x1.toNatClampNeg ((σ92 (q0 + 6) x1.toNatClampNeg) + (if (σ7 q0 8) < ((0 : Int32) / (2 : Int32)) then (σ7 q0 8) else ((0 : Int32) / (2 : Int32)))) := ⟨_, rfl⟩
        rw [← e96]
        have h := h σ95 e96
        obtain ⟨c97, h⟩ := h
        refine mm_blk (M := mm_m_X1_pour) 7 (S' := (110, [.ref q0, .int x1, .ref q9, .int (0 : Int32), .int (if (σ7 q0 8) < ((0 : Int32) / (2 : Int32)) then (σ7 q0 8) else ((0 : Int32) / (2 : Int32))), .int (σ95 (q0 + 3) x1.toNatClampNeg)], [.int (σ95 (q0 + 3) x1.toNatClampNeg), .ref q0], σ95)) (P := [mm_cl q0 = 1, vp_in x1 (mm_len (q0 + 3))]) rfl ⟨c4, c97, trivial⟩ ?_
        obtain ⟨v100, σ98, e99, h⟩ := h
        refine mm_cl_ (rest := []) e99 ⟨_, _, _, rfl, rfl, mm_tb_X1_isAwake, rfl, rfl, Nat.le_of_ble_eq_true rfl, Nat.le_of_ble_eq_true rfl, ⟨_, rfl, c4⟩⟩ ?_
        refine mm_blk (M := mm_m_X1_pour) 1 (S' := ((if v100 = (0 : Int32) then 151 else 116), [.ref q0, .int x1, .ref q9, .int (0 : Int32), .int (if (σ7 q0 8) < ((0 : Int32) / (2 : Int32)) then (σ7 q0 8) else ((0 : Int32) / (2 : Int32))), .int (σ95 (q0 + 3) x1.toNatClampNeg)], [], σ98)) (P := []) rfl trivial ?_
        by_cases b101 : v100 = (0 : Int32)
        · rw [if_pos b101]
          have h := h.1 b101
          obtain ⟨c102, h⟩ := h
          obtain ⟨c103, h⟩ := h
          refine mm_blk (M := mm_m_X1_pour) 14 (S' := (174, [.ref q0, .int x1, .ref q9, .int (0 : Int32), .int (if (σ7 q0 8) < ((0 : Int32) / (2 : Int32)) then (σ7 q0 8) else ((0 : Int32) / (2 : Int32))), .int (σ95 (q0 + 3) x1.toNatClampNeg)], [.int (σ98 (q0 + 2) x1.toNatClampNeg), .int (if (σ7 q0 8) < ((0 : Int32) / (2 : Int32)) then (σ7 q0 8) else ((0 : Int32) / (2 : Int32))), .ref q9, .int (σ98 (q0 + 4) x1.toNatClampNeg), .int (999 : Int32), .int x1, .ref (q0 + 4)], σ98)) (P := [mm_cl q0 = 1, mm_cl q0 = 1, vp_in x1 (mm_len (q0 + 4)), mm_cl q0 = 1, vp_in x1 (mm_len (q0 + 2))]) rfl ⟨c4, c4, c102, c4, c103, trivial⟩ ?_
          obtain ⟨v106, σ104, ⟨M109, dq, dr, de, d1, d2, d3, e105⟩, h⟩ := h
          cases de
          refine mm_cl_ (rest := [.int (σ98 (q0 + 4) x1.toNatClampNeg), .int (999 : Int32), .int x1, .ref (q0 + 4)]) e105 ⟨_, _, _, rfl, rfl, d1, rfl, rfl, Nat.le_of_ble_eq_true rfl, d3, ⟨_, rfl, d2⟩⟩ ?_
          refine mm_blk (M := mm_m_X1_pour) 3 (S' := (182, [.ref q0, .int x1, .ref q9, .int (0 : Int32), .int (if (σ7 q0 8) < ((0 : Int32) / (2 : Int32)) then (σ7 q0 8) else ((0 : Int32) / (2 : Int32))), .int (σ95 (q0 + 3) x1.toNatClampNeg)], [], mm_u σ104 (q0 + 4) x1.toNatClampNeg (if ((σ98 (q0 + 4) x1.toNatClampNeg) + v106) < (999 : Int32) then ((σ98 (q0 + 4) x1.toNatClampNeg) + v106) else (999 : Int32)))) (P := [vp_in x1 (mm_len (q0 + 4))]) rfl ⟨c102, trivial⟩ ?_
          obtain ⟨σ107, e108⟩ : ∃ z, z = mm_u σ104 (q0 + 4) x1.toNatClampNeg (if ((σ98 (q0 + 4) x1.toNatClampNeg) + v106) < (999 : Int32) then ((σ98 (q0 + 4) x1.toNatClampNeg) + v106) else (999 : Int32)) := ⟨_, rfl⟩
          rw [← e108]
          have h := h σ107 e108
          subst h
          exact mm_rt_ ⟨_, _, _, rfl, ⟨rfl, rfl, rfl⟩⟩
        · rw [if_neg b101]
          have h := h.2 b101
          obtain ⟨c110, h⟩ := h
          obtain ⟨c111, h⟩ := h
          refine mm_blk (M := mm_m_X1_pour) 14 (S' := (140, [.ref q0, .int x1, .ref q9, .int (0 : Int32), .int (if (σ7 q0 8) < ((0 : Int32) / (2 : Int32)) then (σ7 q0 8) else ((0 : Int32) / (2 : Int32))), .int (σ95 (q0 + 3) x1.toNatClampNeg)], [.int (σ98 (q0 + 2) x1.toNatClampNeg), .int (if (σ7 q0 8) < ((0 : Int32) / (2 : Int32)) then (σ7 q0 8) else ((0 : Int32) / (2 : Int32))), .ref q9, .int (σ98 (q0 + 5) (σ95 (q0 + 3) x1.toNatClampNeg).toNatClampNeg), .int (99 : Int32), .int (σ95 (q0 + 3) x1.toNatClampNeg), .ref (q0 + 5)], σ98)) (P := [mm_cl q0 = 1, mm_cl q0 = 1, vp_in (σ95 (q0 + 3) x1.toNatClampNeg) (mm_len (q0 + 5)), mm_cl q0 = 1, vp_in x1 (mm_len (q0 + 2))]) rfl ⟨c4, c4, c110, c4, c111, trivial⟩ ?_
          obtain ⟨v114, σ112, ⟨M117, dq, dr, de, d1, d2, d3, e113⟩, h⟩ := h
          cases de
          refine mm_cl_ (rest := [.int (σ98 (q0 + 5) (σ95 (q0 + 3) x1.toNatClampNeg).toNatClampNeg), .int (99 : Int32), .int (σ95 (q0 + 3) x1.toNatClampNeg), .ref (q0 + 5)]) e113 ⟨_, _, _, rfl, rfl, d1, rfl, rfl, Nat.le_of_ble_eq_true rfl, d3, ⟨_, rfl, d2⟩⟩ ?_
          refine mm_blk (M := mm_m_X1_pour) 3 (S' := (148, [.ref q0, .int x1, .ref q9, .int (0 : Int32), .int (if (σ7 q0 8) < ((0 : Int32) / (2 : Int32)) then (σ7 q0 8) else ((0 : Int32) / (2 : Int32))), .int (σ95 (q0 + 3) x1.toNatClampNeg)], [], mm_u σ112 (q0 + 5) (σ95 (q0 + 3) x1.toNatClampNeg).toNatClampNeg (if ((σ98 (q0 + 5) (σ95 (q0 + 3) x1.toNatClampNeg).toNatClampNeg) + v114) < (99 : Int32) then ((σ98 (q0 + 5) (σ95 (q0 + 3) x1.toNatClampNeg).toNatClampNeg) + v114) else (99 : Int32)))) (P := [vp_in (σ95 (q0 + 3) x1.toNatClampNeg) (mm_len (q0 + 5))]) rfl ⟨c110, trivial⟩ ?_
          obtain ⟨σ115, e116⟩ : ∃ z, z = mm_u σ112 (q0 + 5) (σ95 (q0 + 3) x1.toNatClampNeg).toNatClampNeg (if ((σ98 (q0 + 5) (σ95 (q0 + 3) x1.toNatClampNeg).toNatClampNeg) + v114) < (99 : Int32) then ((σ98 (q0 + 5) (σ95 (q0 + 3) x1.toNatClampNeg).toNatClampNeg) + v114) else (99 : Int32)) := ⟨_, rfl⟩
          rw [← e116]
          have h := h σ115 e116
          refine mm_blk (M := mm_m_X1_pour) 1 (S' := (182, [.ref q0, .int x1, .ref q9, .int (0 : Int32), .int (if (σ7 q0 8) < ((0 : Int32) / (2 : Int32)) then (σ7 q0 8) else ((0 : Int32) / (2 : Int32))), .int (σ95 (q0 + 3) x1.toNatClampNeg)], [], σ115)) (P := []) rfl trivial ?_
          subst h
          exact mm_rt_ ⟨_, _, _, rfl, ⟨rfl, rfl, rfl⟩⟩
  · rw [if_neg b5]
    have h := h.2 b5
    subst h
    exact mm_rt_ ⟨_, _, _, rfl, ⟨rfl, rfl, rfl⟩⟩
theorem sg_X10_owesThen_0 (σ : mm_Sg) (x1 : Int32) (x2 : Int32) (R : Option Value × mm_Sg) (h : (∃ (v3 : Int32) (σ1 : mm_Sg), mm_Ev mm_m_X1_has [.ref 10, .int x1] σ (some (.int v3)) σ1 ∧ (((v3 = (0 : Int32) → (R = (some (.int (-1 : Int32)), σ1))) ∧ (¬ (v3 = (0 : Int32)) → (∃ (v7 : Int32) (σ5 : mm_Sg), mm_Ev mm_m_X10_isBetween [.int x2, .int (0 : Int32), .int (60 : Int32)] σ1 (some (.int v7)) σ5 ∧ (((¬ v7 = (0 : Int32) → (∃ (σ9 : mm_Sg), mm_Ev mm_m_X10_thinkDaysOn [.ref 0, .int x2] σ5 none σ9 ∧ ((vp_in x1 (mm_len 28)) ∧ R = (some (.int (σ9 28 x1.toNatClampNeg)), σ9)))) ∧ (¬ (¬ v7 = (0 : Int32)) → (R = (some (.int (-1 : Int32)), σ5))))))))))) : mm_Go mm_m_X10_owesThen (0, [.ref 0, .int x1, .int x2], [], σ) R := by
  refine mm_blk (M := mm_m_X10_owesThen) 3 (S' := (5, [.ref 0, .int x1, .int x2], [.int x1, .ref 10], σ)) (P := [mm_cl 0 = 10]) rfl ⟨rfl, trivial⟩ ?_
  obtain ⟨v3, σ1, e2, h⟩ := h
  refine mm_cl_ (rest := []) e2 ⟨_, _, _, rfl, rfl, mm_tb_X1_has, rfl, rfl, Nat.le_of_ble_eq_true rfl, Nat.le_of_ble_eq_true rfl, ⟨_, rfl, rfl⟩⟩ ?_
  refine mm_blk (M := mm_m_X10_owesThen) 1 (S' := ((if v3 = (0 : Int32) then 21 else 11), [.ref 0, .int x1, .int x2], [], σ1)) (P := []) rfl trivial ?_
  by_cases b4 : v3 = (0 : Int32)
  · rw [if_pos b4]
    have h := h.1 b4
    refine mm_blk (M := mm_m_X10_owesThen) 1 (S' := (22, [.ref 0, .int x1, .int x2], [.int (-1 : Int32)], σ1)) (P := []) rfl trivial ?_
    subst h
    exact mm_rt_ ⟨_, _, _, rfl, ⟨_, _, rfl, rfl, rfl, rfl⟩⟩
  · rw [if_neg b4]
    have h := h.2 b4
    refine mm_blk (M := mm_m_X10_owesThen) 3 (S' := (15, [.ref 0, .int x1, .int x2], [.int (60 : Int32), .int (0 : Int32), .int x2], σ1)) (P := []) rfl trivial ?_
    obtain ⟨v7, σ5, e6, h⟩ := h
    refine mm_cl_ (rest := []) e6 ⟨_, _, _, rfl, rfl, mm_tb_X10_isBetween, rfl, rfl, Nat.le_of_ble_eq_true rfl, Nat.le_of_ble_eq_true rfl, trivial⟩ ?_
    refine mm_blk (M := mm_m_X10_owesThen) 1 (S' := ((if ¬ v7 = (0 : Int32) then 23 else 21), [.ref 0, .int x1, .int x2], [], σ5)) (P := []) rfl trivial ?_
    by_cases b8 : ¬ v7 = (0 : Int32)
    · rw [if_pos b8]
      have h := h.1 b8
      refine mm_blk (M := mm_m_X10_owesThen) 2 (S' := (25, [.ref 0, .int x1, .int x2], [.int x2, .ref 0], σ5)) (P := []) rfl trivial ?_
      obtain ⟨σ9, e10, h⟩ := h
      refine mm_cl_ (rest := []) e10 ⟨_, _, _, rfl, rfl, mm_tb_X10_thinkDaysOn, rfl, rfl, Nat.le_of_ble_eq_true rfl, Nat.le_of_ble_eq_true rfl, ⟨_, rfl, rfl⟩⟩ ?_
      obtain ⟨c11, h⟩ := h
      refine mm_blk (M := mm_m_X10_owesThen) 5 (S' := (37, [.ref 0, .int x1, .int x2], [.int (σ9 28 x1.toNatClampNeg)], σ9)) (P := [mm_cl 0 = 10, mm_cl 24 = 1, vp_in x1 (mm_len 28)]) rfl ⟨rfl, rfl, c11, trivial⟩ ?_
      subst h
      exact mm_rt_ ⟨_, _, _, rfl, ⟨_, _, rfl, rfl, rfl, rfl⟩⟩
    · rw [if_neg b8]
      have h := h.2 b8
      refine mm_blk (M := mm_m_X10_owesThen) 1 (S' := (22, [.ref 0, .int x1, .int x2], [.int (-1 : Int32)], σ5)) (P := []) rfl trivial ?_
      subst h
      exact mm_rt_ ⟨_, _, _, rfl, ⟨_, _, rfl, rfl, rfl, rfl⟩⟩
theorem sg_X11_drinksBy_0 (σ : mm_Sg) (x0 : Int32) (x1 : Int32) (x2 : Int32) (R : Option Value × mm_Sg) (h : (((x0 = nI 1 → (R = (some (.int ((2 : Int32) + (x2 - x2 / (2 : Int32) * (2 : Int32)))), σ))) ∧ (¬ (x0 = nI 1) → ((x0 = nI 2 → (R = (some (.int ((2 : Int32) + (x1 / (2 : Int32)))), σ))) ∧ (¬ (x0 = nI 2) → ((x0 = nI 3 → (R = (some (.int (1 : Int32)), σ))) ∧ (¬ (x0 = nI 3) → ((x0 = nI 4 → (R = (some (.int ((2 : Int32) * ((2 : Int32) + (x1 / (2 : Int32))))), σ))) ∧ (¬ (x0 = nI 4) → ((x0 = nI 5 → (((¬ (x2 - x2 / (3 : Int32) * (3 : Int32)) = (0 : Int32) → (R = (some (.int ((2 : Int32) + (x2 - x2 / (2 : Int32) * (2 : Int32)))), σ))) ∧ (¬ (¬ (x2 - x2 / (3 : Int32) * (3 : Int32)) = (0 : Int32)) → (R = (some (.int (0 : Int32)), σ)))))) ∧ (¬ (x0 = nI 5) → ((x0 = nI 6 → (R = (some (.int (((2 : Int32) * ((2 : Int32) + (x1 / (2 : Int32)))) - (1 : Int32))), σ))) ∧ (¬ (x0 = nI 6) → ((x0 = nI 7 → (R = (some (.int (0 : Int32)), σ))) ∧ (¬ (x0 = nI 7) → (R = (some (.int (2 : Int32)), σ)))))))))))))))))) : mm_Go mm_m_X11_drinksBy (0, [.int x0, .int x1, .int x2, .null, .null], [], σ) R := by
  refine mm_blk (M := mm_m_X11_drinksBy) 14 (S' := ((mm_tsw x0 89 1 [56, 58, 61, 63, 68, 80, 87]), [.int x0, .int x1, .int x2, .int ((2 : Int32) + (x2 - x2 / (2 : Int32) * (2 : Int32))), .int ((2 : Int32) + (x1 / (2 : Int32)))], [], σ)) (P := [¬ (2 : Int32) = 0, ¬ (2 : Int32) = 0]) rfl ⟨(by decide), (by decide), trivial⟩ ?_
  by_cases b1 : x0 = nI 1
  · rw [show mm_tsw x0 89 1 [56, 58, 61, 63, 68, 80, 87] = 56 from mm_tsw_t b1]
    have h := h.1 b1
    refine mm_blk (M := mm_m_X11_drinksBy) 1 (S' := (57, [.int x0, .int x1, .int x2, .int ((2 : Int32) + (x2 - x2 / (2 : Int32) * (2 : Int32))), .int ((2 : Int32) + (x1 / (2 : Int32)))], [.int ((2 : Int32) + (x2 - x2 / (2 : Int32) * (2 : Int32)))], σ)) (P := []) rfl trivial ?_
    subst h
    exact mm_rt_ ⟨_, _, _, rfl, ⟨_, _, rfl, rfl, rfl, rfl⟩⟩
  rw [show mm_tsw x0 89 1 [56, 58, 61, 63, 68, 80, 87] = mm_tsw x0 89 2 [58, 61, 63, 68, 80, 87] from mm_tsw_f b1]
  have h := h.2 b1
  by_cases b2 : x0 = nI 2
  · rw [show mm_tsw x0 89 2 [58, 61, 63, 68, 80, 87] = 58 from mm_tsw_t b2]
    have h := h.1 b2
    refine mm_blk (M := mm_m_X11_drinksBy) 1 (S' := (60, [.int x0, .int x1, .int x2, .int ((2 : Int32) + (x2 - x2 / (2 : Int32) * (2 : Int32))), .int ((2 : Int32) + (x1 / (2 : Int32)))], [.int ((2 : Int32) + (x1 / (2 : Int32)))], σ)) (P := []) rfl trivial ?_
    subst h
    exact mm_rt_ ⟨_, _, _, rfl, ⟨_, _, rfl, rfl, rfl, rfl⟩⟩
  rw [show mm_tsw x0 89 2 [58, 61, 63, 68, 80, 87] = mm_tsw x0 89 3 [61, 63, 68, 80, 87] from mm_tsw_f b2]
  have h := h.2 b2
  by_cases b3 : x0 = nI 3
  · rw [show mm_tsw x0 89 3 [61, 63, 68, 80, 87] = 61 from mm_tsw_t b3]
    have h := h.1 b3
    refine mm_blk (M := mm_m_X11_drinksBy) 1 (S' := (62, [.int x0, .int x1, .int x2, .int ((2 : Int32) + (x2 - x2 / (2 : Int32) * (2 : Int32))), .int ((2 : Int32) + (x1 / (2 : Int32)))], [.int (1 : Int32)], σ)) (P := []) rfl trivial ?_
    subst h
    exact mm_rt_ ⟨_, _, _, rfl, ⟨_, _, rfl, rfl, rfl, rfl⟩⟩
  rw [show mm_tsw x0 89 3 [61, 63, 68, 80, 87] = mm_tsw x0 89 4 [63, 68, 80, 87] from mm_tsw_f b3]
  have h := h.2 b3
  by_cases b4 : x0 = nI 4
  · rw [show mm_tsw x0 89 4 [63, 68, 80, 87] = 63 from mm_tsw_t b4]
    have h := h.1 b4
    refine mm_blk (M := mm_m_X11_drinksBy) 3 (S' := (67, [.int x0, .int x1, .int x2, .int ((2 : Int32) + (x2 - x2 / (2 : Int32) * (2 : Int32))), .int ((2 : Int32) + (x1 / (2 : Int32)))], [.int ((2 : Int32) * ((2 : Int32) + (x1 / (2 : Int32))))], σ)) (P := []) rfl trivial ?_
    subst h
    exact mm_rt_ ⟨_, _, _, rfl, ⟨_, _, rfl, rfl, rfl, rfl⟩⟩
  rw [show mm_tsw x0 89 4 [63, 68, 80, 87] = mm_tsw x0 89 5 [68, 80, 87] from mm_tsw_f b4]
  have h := h.2 b4
  by_cases b5 : x0 = nI 5
  · rw [show mm_tsw x0 89 5 [68, 80, 87] = 68 from mm_tsw_t b5]
    have h := h.1 b5
    refine mm_blk (M := mm_m_X11_drinksBy) 4 (S' := ((if ¬ (x2 - x2 / (3 : Int32) * (3 : Int32)) = (0 : Int32) then 78 else 74), [.int x0, .int x1, .int x2, .int ((2 : Int32) + (x2 - x2 / (2 : Int32) * (2 : Int32))), .int ((2 : Int32) + (x1 / (2 : Int32)))], [], σ)) (P := [¬ (3 : Int32) = 0]) rfl ⟨(by decide), trivial⟩ ?_
    by_cases b6 : ¬ (x2 - x2 / (3 : Int32) * (3 : Int32)) = (0 : Int32)
    · rw [if_pos b6]
      have h := h.1 b6
      refine mm_blk (M := mm_m_X11_drinksBy) 1 (S' := (79, [.int x0, .int x1, .int x2, .int ((2 : Int32) + (x2 - x2 / (2 : Int32) * (2 : Int32))), .int ((2 : Int32) + (x1 / (2 : Int32)))], [.int ((2 : Int32) + (x2 - x2 / (2 : Int32) * (2 : Int32)))], σ)) (P := []) rfl trivial ?_
      subst h
      exact mm_rt_ ⟨_, _, _, rfl, ⟨_, _, rfl, rfl, rfl, rfl⟩⟩
    · rw [if_neg b6]
      have h := h.2 b6
      refine mm_blk (M := mm_m_X11_drinksBy) 2 (S' := (79, [.int x0, .int x1, .int x2, .int ((2 : Int32) + (x2 - x2 / (2 : Int32) * (2 : Int32))), .int ((2 : Int32) + (x1 / (2 : Int32)))], [.int (0 : Int32)], σ)) (P := []) rfl trivial ?_
      subst h
      exact mm_rt_ ⟨_, _, _, rfl, ⟨_, _, rfl, rfl, rfl, rfl⟩⟩
  rw [show mm_tsw x0 89 5 [68, 80, 87] = mm_tsw x0 89 6 [80, 87] from mm_tsw_f b5]
  have h := h.2 b5
  by_cases b7 : x0 = nI 6
  · rw [show mm_tsw x0 89 6 [80, 87] = 80 from mm_tsw_t b7]
    have h := h.1 b7
    refine mm_blk (M := mm_m_X11_drinksBy) 5 (S' := (86, [.int x0, .int x1, .int x2, .int ((2 : Int32) + (x2 - x2 / (2 : Int32) * (2 : Int32))), .int ((2 : Int32) + (x1 / (2 : Int32)))], [.int (((2 : Int32) * ((2 : Int32) + (x1 / (2 : Int32)))) - (1 : Int32))], σ)) (P := []) rfl trivial ?_
    subst h
    exact mm_rt_ ⟨_, _, _, rfl, ⟨_, _, rfl, rfl, rfl, rfl⟩⟩
  rw [show mm_tsw x0 89 6 [80, 87] = mm_tsw x0 89 7 [87] from mm_tsw_f b7]
  have h := h.2 b7
  by_cases b8 : x0 = nI 7
  · rw [show mm_tsw x0 89 7 [87] = 87 from mm_tsw_t b8]
    have h := h.1 b8
    refine mm_blk (M := mm_m_X11_drinksBy) 1 (S' := (88, [.int x0, .int x1, .int x2, .int ((2 : Int32) + (x2 - x2 / (2 : Int32) * (2 : Int32))), .int ((2 : Int32) + (x1 / (2 : Int32)))], [.int (0 : Int32)], σ)) (P := []) rfl trivial ?_
    subst h
    exact mm_rt_ ⟨_, _, _, rfl, ⟨_, _, rfl, rfl, rfl, rfl⟩⟩
  rw [show mm_tsw x0 89 7 [87] = mm_tsw x0 89 8 [] from mm_tsw_f b8]
  have h := h.2 b8
  change mm_Go mm_m_X11_drinksBy (89, [.int x0, .int x1, .int x2, .int ((2 : Int32) + (x2 - x2 / (2 : Int32) * (2 : Int32))), .int ((2 : Int32) + (x1 / (2 : Int32)))], [], σ) R
  refine mm_blk (M := mm_m_X11_drinksBy) 1 (S' := (90, [.int x0, .int x1, .int x2, .int ((2 : Int32) + (x2 - x2 / (2 : Int32) * (2 : Int32))), .int ((2 : Int32) + (x1 / (2 : Int32)))], [.int (2 : Int32)], σ)) (P := []) rfl trivial ?_
  subst h
  exact mm_rt_ ⟨_, _, _, rfl, ⟨_, _, rfl, rfl, rfl, rfl⟩⟩
theorem sg_X10_digitsBehind_0 (σ : mm_Sg) (x0 : Int32) (R : Option Value × mm_Sg) (h : (((x0 = nI 98 → (R = (some (.int (3 : Int32)), σ))) ∧ (¬ (x0 = nI 98) → ((x0 = nI 99 → (R = (some (.int (0 : Int32)), σ))) ∧ (¬ (x0 = nI 99) → ((x0 = nI 100 → (R = (some (.int (2 : Int32)), σ))) ∧ (¬ (x0 = nI 100) → ((x0 = nI 101 → (R = (some (.int (0 : Int32)), σ))) ∧ (¬ (x0 = nI 101) → ((x0 = nI 102 → (R = (some (.int (0 : Int32)), σ))) ∧ (¬ (x0 = nI 102) → ((x0 = nI 103 → (R = (some (.int (0 : Int32)), σ))) ∧ (¬ (x0 = nI 103) → ((x0 = nI 104 → (R = (some (.int (0 : Int32)), σ))) ∧ (¬ (x0 = nI 104) → ((x0 = nI 105 → (R = (some (.int (0 : Int32)), σ))) ∧ (¬ (x0 = nI 105) → ((x0 = nI 106 → (R = (some (.int (0 : Int32)), σ))) ∧ (¬ (x0 = nI 106) → ((x0 = nI 107 → (R = (some (.int (3 : Int32)), σ))) ∧ (¬ (x0 = nI 107) → ((x0 = nI 108 → (R = (some (.int (0 : Int32)), σ))) ∧ (¬ (x0 = nI 108) → ((x0 = nI 109 → (R = (some (.int (0 : Int32)), σ))) ∧ (¬ (x0 = nI 109) → ((x0 = nI 110 → (R = (some (.int (0 : Int32)), σ))) ∧ (¬ (x0 = nI 110) → ((x0 = nI 111 → (R = (some (.int (3 : Int32)), σ))) ∧ (¬ (x0 = nI 111) → ((x0 = nI 112 → (R = (some (.int (0 : Int32)), σ))) ∧ (¬ (x0 = nI 112) → ((x0 = nI 113 → (R = (some (.int (0 : Int32)), σ))) ∧ (¬ (x0 = nI 113) → ((x0 = nI 114 → (R = (some (.int (0 : Int32)), σ))) ∧ (¬ (x0 = nI 114) → ((x0 = nI 115 → (R = (some (.int (0 : Int32)), σ))) ∧ (¬ (x0 = nI 115) → ((x0 = nI 116 → (R = (some (.int (3 : Int32)), σ))) ∧ (¬ (x0 = nI 116) → ((x0 = nI 117 → (R = (some (.int (0 : Int32)), σ))) ∧ (¬ (x0 = nI 117) → ((x0 = nI 118 → (R = (some (.int (0 : Int32)), σ))) ∧ (¬ (x0 = nI 118) → ((x0 = nI 119 → (R = (some (.int (2 : Int32)), σ))) ∧ (¬ (x0 = nI 119) → ((x0 = nI 120 → (R = (some (.int (0 : Int32)), σ))) ∧ (¬ (x0 = nI 120) → ((x0 = nI 121 → (R = (some (.int (0 : Int32)), σ))) ∧ (¬ (x0 = nI 121) → ((x0 = nI 122 → (R = (some (.int (1 : Int32)), σ))) ∧ (¬ (x0 = nI 122) → (R = (some (.int (0 : Int32)), σ)))))))))))))))))))))))))))))))))))))))))))))))))))))) : mm_Go mm_m_X10_digitsBehind (0, [.int x0], [], σ) R := by
  refine mm_blk (M := mm_m_X10_digitsBehind) 2 (S' := ((mm_tsw x0 122 98 [120, 122, 118, 122, 122, 122, 122, 122, 122, 120, 122, 122, 122, 120, 122, 122, 122, 122, 120, 122, 122, 118, 122, 122, 116]), [.int x0], [], σ)) (P := []) rfl trivial ?_
  by_cases b1 : x0 = nI 98
  · rw [show mm_tsw x0 122 98 [120, 122, 118, 122, 122, 122, 122, 122, 122, 120, 122, 122, 122, 120, 122, 122, 122, 122, 120, 122, 122, 118, 122, 122, 116] = 120 from mm_tsw_t b1]
    have h := h.1 b1
    refine mm_blk (M := mm_m_X10_digitsBehind) 1 (S' := (121, [.int x0], [.int (3 : Int32)], σ)) (P := []) rfl trivial ?_
    subst h
    exact mm_rt_ ⟨_, _, _, rfl, ⟨_, _, rfl, rfl, rfl, rfl⟩⟩
  rw [show mm_tsw x0 122 98 [120, 122, 118, 122, 122, 122, 122, 122, 122, 120, 122, 122, 122, 120, 122, 122, 122, 122, 120, 122, 122, 118, 122, 122, 116] = mm_tsw x0 122 99 [122, 118, 122, 122, 122, 122, 122, 122, 120, 122, 122, 122, 120, 122, 122, 122, 122, 120, 122, 122, 118, 122, 122, 116] from mm_tsw_f b1]
  have h := h.2 b1
  by_cases b2 : x0 = nI 99
  · rw [show mm_tsw x0 122 99 [122, 118, 122, 122, 122, 122, 122, 122, 120, 122, 122, 122, 120, 122, 122, 122, 122, 120, 122, 122, 118, 122, 122, 116] = 122 from mm_tsw_t b2]
    have h := h.1 b2
    refine mm_blk (M := mm_m_X10_digitsBehind) 1 (S' := (123, [.int x0], [.int (0 : Int32)], σ)) (P := []) rfl trivial ?_
    subst h
    exact mm_rt_ ⟨_, _, _, rfl, ⟨_, _, rfl, rfl, rfl, rfl⟩⟩
  rw [show mm_tsw x0 122 99 [122, 118, 122, 122, 122, 122, 122, 122, 120, 122, 122, 122, 120, 122, 122, 122, 122, 120, 122, 122, 118, 122, 122, 116] = mm_tsw x0 122 100 [118, 122, 122, 122, 122, 122, 122, 120, 122, 122, 122, 120, 122, 122, 122, 122, 120, 122, 122, 118, 122, 122, 116] from mm_tsw_f b2]
  have h := h.2 b2
  by_cases b3 : x0 = nI 100
  · rw [show mm_tsw x0 122 100 [118, 122, 122, 122, 122, 122, 122, 120, 122, 122, 122, 120, 122, 122, 122, 122, 120, 122, 122, 118, 122, 122, 116] = 118 from mm_tsw_t b3]
    have h := h.1 b3
    refine mm_blk (M := mm_m_X10_digitsBehind) 1 (S' := (119, [.int x0], [.int (2 : Int32)], σ)) (P := []) rfl trivial ?_
    subst h
    exact mm_rt_ ⟨_, _, _, rfl, ⟨_, _, rfl, rfl, rfl, rfl⟩⟩
  rw [show mm_tsw x0 122 100 [118, 122, 122, 122, 122, 122, 122, 120, 122, 122, 122, 120, 122, 122, 122, 122, 120, 122, 122, 118, 122, 122, 116] = mm_tsw x0 122 101 [122, 122, 122, 122, 122, 122, 120, 122, 122, 122, 120, 122, 122, 122, 122, 120, 122, 122, 118, 122, 122, 116] from mm_tsw_f b3]
  have h := h.2 b3
  by_cases b4 : x0 = nI 101
  · rw [show mm_tsw x0 122 101 [122, 122, 122, 122, 122, 122, 120, 122, 122, 122, 120, 122, 122, 122, 122, 120, 122, 122, 118, 122, 122, 116] = 122 from mm_tsw_t b4]
    have h := h.1 b4
    refine mm_blk (M := mm_m_X10_digitsBehind) 1 (S' := (123, [.int x0], [.int (0 : Int32)], σ)) (P := []) rfl trivial ?_
    subst h
    exact mm_rt_ ⟨_, _, _, rfl, ⟨_, _, rfl, rfl, rfl, rfl⟩⟩
  rw [show mm_tsw x0 122 101 [122, 122, 122, 122, 122, 122, 120, 122, 122, 122, 120, 122, 122, 122, 122, 120, 122, 122, 118, 122, 122, 116] = mm_tsw x0 122 102 [122, 122, 122, 122, 122, 120, 122, 122, 122, 120, 122, 122, 122, 122, 120, 122, 122, 118, 122, 122, 116] from mm_tsw_f b4]
  have h := h.2 b4
  by_cases b5 : x0 = nI 102
  · rw [show mm_tsw x0 122 102 [122, 122, 122, 122, 122, 120, 122, 122, 122, 120, 122, 122, 122, 122, 120, 122, 122, 118, 122, 122, 116] = 122 from mm_tsw_t b5]
    have h := h.1 b5
    refine mm_blk (M := mm_m_X10_digitsBehind) 1 (S' := (123, [.int x0], [.int (0 : Int32)], σ)) (P := []) rfl trivial ?_
    subst h
    exact mm_rt_ ⟨_, _, _, rfl, ⟨_, _, rfl, rfl, rfl, rfl⟩⟩
  rw [show mm_tsw x0 122 102 [122, 122, 122, 122, 122, 120, 122, 122, 122, 120, 122, 122, 122, 122, 120, 122, 122, 118, 122, 122, 116] = mm_tsw x0 122 103 [122, 122, 122, 122, 120, 122, 122, 122, 120, 122, 122, 122, 122, 120, 122, 122, 118, 122, 122, 116] from mm_tsw_f b5]
  have h := h.2 b5
  by_cases b6 : x0 = nI 103
  · rw [show mm_tsw x0 122 103 [122, 122, 122, 122, 120, 122, 122, 122, 120, 122, 122, 122, 122, 120, 122, 122, 118, 122, 122, 116] = 122 from mm_tsw_t b6]
    have h := h.1 b6
    refine mm_blk (M := mm_m_X10_digitsBehind) 1 (S' := (123, [.int x0], [.int (0 : Int32)], σ)) (P := []) rfl trivial ?_
    subst h
    exact mm_rt_ ⟨_, _, _, rfl, ⟨_, _, rfl, rfl, rfl, rfl⟩⟩
  rw [show mm_tsw x0 122 103 [122, 122, 122, 122, 120, 122, 122, 122, 120, 122, 122, 122, 122, 120, 122, 122, 118, 122, 122, 116] = mm_tsw x0 122 104 [122, 122, 122, 120, 122, 122, 122, 120, 122, 122, 122, 122, 120, 122, 122, 118, 122, 122, 116] from mm_tsw_f b6]
  have h := h.2 b6
  by_cases b7 : x0 = nI 104
  · rw [show mm_tsw x0 122 104 [122, 122, 122, 120, 122, 122, 122, 120, 122, 122, 122, 122, 120, 122, 122, 118, 122, 122, 116] = 122 from mm_tsw_t b7]
    have h := h.1 b7
    refine mm_blk (M := mm_m_X10_digitsBehind) 1 (S' := (123, [.int x0], [.int (0 : Int32)], σ)) (P := []) rfl trivial ?_
    subst h
    exact mm_rt_ ⟨_, _, _, rfl, ⟨_, _, rfl, rfl, rfl, rfl⟩⟩
  rw [show mm_tsw x0 122 104 [122, 122, 122, 120, 122, 122, 122, 120, 122, 122, 122, 122, 120, 122, 122, 118, 122, 122, 116] = mm_tsw x0 122 105 [122, 122, 120, 122, 122, 122, 120, 122, 122, 122, 122, 120, 122, 122, 118, 122, 122, 116] from mm_tsw_f b7]
  have h := h.2 b7
  by_cases b8 : x0 = nI 105
  · rw [show mm_tsw x0 122 105 [122, 122, 120, 122, 122, 122, 120, 122, 122, 122, 122, 120, 122, 122, 118, 122, 122, 116] = 122 from mm_tsw_t b8]
    have h := h.1 b8
    refine mm_blk (M := mm_m_X10_digitsBehind) 1 (S' := (123, [.int x0], [.int (0 : Int32)], σ)) (P := []) rfl trivial ?_
    subst h
    exact mm_rt_ ⟨_, _, _, rfl, ⟨_, _, rfl, rfl, rfl, rfl⟩⟩
  rw [show mm_tsw x0 122 105 [122, 122, 120, 122, 122, 122, 120, 122, 122, 122, 122, 120, 122, 122, 118, 122, 122, 116] = mm_tsw x0 122 106 [122, 120, 122, 122, 122, 120, 122, 122, 122, 122, 120, 122, 122, 118, 122, 122, 116] from mm_tsw_f b8]
  have h := h.2 b8
  by_cases b9 : x0 = nI 106
  · rw [show mm_tsw x0 122 106 [122, 120, 122, 122, 122, 120, 122, 122, 122, 122, 120, 122, 122, 118, 122, 122, 116] = 122 from mm_tsw_t b9]
    have h := h.1 b9
    refine mm_blk (M := mm_m_X10_digitsBehind) 1 (S' := (123, [.int x0], [.int (0 : Int32)], σ)) (P := []) rfl trivial ?_
    subst h
    exact mm_rt_ ⟨_, _, _, rfl, ⟨_, _, rfl, rfl, rfl, rfl⟩⟩
  rw [show mm_tsw x0 122 106 [122, 120, 122, 122, 122, 120, 122, 122, 122, 122, 120, 122, 122, 118, 122, 122, 116] = mm_tsw x0 122 107 [120, 122, 122, 122, 120, 122, 122, 122, 122, 120, 122, 122, 118, 122, 122, 116] from mm_tsw_f b9]
  have h := h.2 b9
  by_cases b10 : x0 = nI 107
  · rw [show mm_tsw x0 122 107 [120, 122, 122, 122, 120, 122, 122, 122, 122, 120, 122, 122, 118, 122, 122, 116] = 120 from mm_tsw_t b10]
    have h := h.1 b10
    refine mm_blk (M := mm_m_X10_digitsBehind) 1 (S' := (121, [.int x0], [.int (3 : Int32)], σ)) (P := []) rfl trivial ?_
    subst h
    exact mm_rt_ ⟨_, _, _, rfl, ⟨_, _, rfl, rfl, rfl, rfl⟩⟩
  rw [show mm_tsw x0 122 107 [120, 122, 122, 122, 120, 122, 122, 122, 122, 120, 122, 122, 118, 122, 122, 116] = mm_tsw x0 122 108 [122, 122, 122, 120, 122, 122, 122, 122, 120, 122, 122, 118, 122, 122, 116] from mm_tsw_f b10]
  have h := h.2 b10
  by_cases b11 : x0 = nI 108
  · rw [show mm_tsw x0 122 108 [122, 122, 122, 120, 122, 122, 122, 122, 120, 122, 122, 118, 122, 122, 116] = 122 from mm_tsw_t b11]
    have h := h.1 b11
    refine mm_blk (M := mm_m_X10_digitsBehind) 1 (S' := (123, [.int x0], [.int (0 : Int32)], σ)) (P := []) rfl trivial ?_
    subst h
    exact mm_rt_ ⟨_, _, _, rfl, ⟨_, _, rfl, rfl, rfl, rfl⟩⟩
  rw [show mm_tsw x0 122 108 [122, 122, 122, 120, 122, 122, 122, 122, 120, 122, 122, 118, 122, 122, 116] = mm_tsw x0 122 109 [122, 122, 120, 122, 122, 122, 122, 120, 122, 122, 118, 122, 122, 116] from mm_tsw_f b11]
  have h := h.2 b11
  by_cases b12 : x0 = nI 109
  · rw [show mm_tsw x0 122 109 [122, 122, 120, 122, 122, 122, 122, 120, 122, 122, 118, 122, 122, 116] = 122 from mm_tsw_t b12]
    have h := h.1 b12
    refine mm_blk (M := mm_m_X10_digitsBehind) 1 (S' := (123, [.int x0], [.int (0 : Int32)], σ)) (P := []) rfl trivial ?_
    subst h
    exact mm_rt_ ⟨_, _, _, rfl, ⟨_, _, rfl, rfl, rfl, rfl⟩⟩
  rw [show mm_tsw x0 122 109 [122, 122, 120, 122, 122, 122, 122, 120, 122, 122, 118, 122, 122, 116] = mm_tsw x0 122 110 [122, 120, 122, 122, 122, 122, 120, 122, 122, 118, 122, 122, 116] from mm_tsw_f b12]
  have h := h.2 b12
  by_cases b13 : x0 = nI 110
  · rw [show mm_tsw x0 122 110 [122, 120, 122, 122, 122, 122, 120, 122, 122, 118, 122, 122, 116] = 122 from mm_tsw_t b13]
    have h := h.1 b13
    refine mm_blk (M := mm_m_X10_digitsBehind) 1 (S' := (123, [.int x0], [.int (0 : Int32)], σ)) (P := []) rfl trivial ?_
    subst h
    exact mm_rt_ ⟨_, _, _, rfl, ⟨_, _, rfl, rfl, rfl, rfl⟩⟩
  rw [show mm_tsw x0 122 110 [122, 120, 122, 122, 122, 122, 120, 122, 122, 118, 122, 122, 116] = mm_tsw x0 122 111 [120, 122, 122, 122, 122, 120, 122, 122, 118, 122, 122, 116] from mm_tsw_f b13]
  have h := h.2 b13
  by_cases b14 : x0 = nI 111
  · rw [show mm_tsw x0 122 111 [120, 122, 122, 122, 122, 120, 122, 122, 118, 122, 122, 116] = 120 from mm_tsw_t b14]
    have h := h.1 b14
    refine mm_blk (M := mm_m_X10_digitsBehind) 1 (S' := (121, [.int x0], [.int (3 : Int32)], σ)) (P := []) rfl trivial ?_
    subst h
    exact mm_rt_ ⟨_, _, _, rfl, ⟨_, _, rfl, rfl, rfl, rfl⟩⟩
  rw [show mm_tsw x0 122 111 [120, 122, 122, 122, 122, 120, 122, 122, 118, 122, 122, 116] = mm_tsw x0 122 112 [122, 122, 122, 122, 120, 122, 122, 118, 122, 122, 116] from mm_tsw_f b14]
  have h := h.2 b14
  by_cases b15 : x0 = nI 112
  · rw [show mm_tsw x0 122 112 [122, 122, 122, 122, 120, 122, 122, 118, 122, 122, 116] = 122 from mm_tsw_t b15]
    have h := h.1 b15
    refine mm_blk (M := mm_m_X10_digitsBehind) 1 (S' := (123, [.int x0], [.int (0 : Int32)], σ)) (P := []) rfl trivial ?_
    subst h
    exact mm_rt_ ⟨_, _, _, rfl, ⟨_, _, rfl, rfl, rfl, rfl⟩⟩
  rw [show mm_tsw x0 122 112 [122, 122, 122, 122, 120, 122, 122, 118, 122, 122, 116] = mm_tsw x0 122 113 [122, 122, 122, 120, 122, 122, 118, 122, 122, 116] from mm_tsw_f b15]
  have h := h.2 b15
  by_cases b16 : x0 = nI 113
  · rw [show mm_tsw x0 122 113 [122, 122, 122, 120, 122, 122, 118, 122, 122, 116] = 122 from mm_tsw_t b16]
    have h := h.1 b16
    refine mm_blk (M := mm_m_X10_digitsBehind) 1 (S' := (123, [.int x0], [.int (0 : Int32)], σ)) (P := []) rfl trivial ?_
    subst h
    exact mm_rt_ ⟨_, _, _, rfl, ⟨_, _, rfl, rfl, rfl, rfl⟩⟩
  rw [show mm_tsw x0 122 113 [122, 122, 122, 120, 122, 122, 118, 122, 122, 116] = mm_tsw x0 122 114 [122, 122, 120, 122, 122, 118, 122, 122, 116] from mm_tsw_f b16]
  have h := h.2 b16
  by_cases b17 : x0 = nI 114
  · rw [show mm_tsw x0 122 114 [122, 122, 120, 122, 122, 118, 122, 122, 116] = 122 from mm_tsw_t b17]
    have h := h.1 b17
    refine mm_blk (M := mm_m_X10_digitsBehind) 1 (S' := (123, [.int x0], [.int (0 : Int32)], σ)) (P := []) rfl trivial ?_
    subst h
    exact mm_rt_ ⟨_, _, _, rfl, ⟨_, _, rfl, rfl, rfl, rfl⟩⟩
  rw [show mm_tsw x0 122 114 [122, 122, 120, 122, 122, 118, 122, 122, 116] = mm_tsw x0 122 115 [122, 120, 122, 122, 118, 122, 122, 116] from mm_tsw_f b17]
  have h := h.2 b17
  by_cases b18 : x0 = nI 115
  · rw [show mm_tsw x0 122 115 [122, 120, 122, 122, 118, 122, 122, 116] = 122 from mm_tsw_t b18]
    have h := h.1 b18
    refine mm_blk (M := mm_m_X10_digitsBehind) 1 (S' := (123, [.int x0], [.int (0 : Int32)], σ)) (P := []) rfl trivial ?_
    subst h
    exact mm_rt_ ⟨_, _, _, rfl, ⟨_, _, rfl, rfl, rfl, rfl⟩⟩
  rw [show mm_tsw x0 122 115 [122, 120, 122, 122, 118, 122, 122, 116] = mm_tsw x0 122 116 [120, 122, 122, 118, 122, 122, 116] from mm_tsw_f b18]
  have h := h.2 b18
  by_cases b19 : x0 = nI 116
  · rw [show mm_tsw x0 122 116 [120, 122, 122, 118, 122, 122, 116] = 120 from mm_tsw_t b19]
    have h := h.1 b19
    refine mm_blk (M := mm_m_X10_digitsBehind) 1 (S' := (121, [.int x0], [.int (3 : Int32)], σ)) (P := []) rfl trivial ?_
    subst h
    exact mm_rt_ ⟨_, _, _, rfl, ⟨_, _, rfl, rfl, rfl, rfl⟩⟩
  rw [show mm_tsw x0 122 116 [120, 122, 122, 118, 122, 122, 116] = mm_tsw x0 122 117 [122, 122, 118, 122, 122, 116] from mm_tsw_f b19]
  have h := h.2 b19
  by_cases b20 : x0 = nI 117
  · rw [show mm_tsw x0 122 117 [122, 122, 118, 122, 122, 116] = 122 from mm_tsw_t b20]
    have h := h.1 b20
    refine mm_blk (M := mm_m_X10_digitsBehind) 1 (S' := (123, [.int x0], [.int (0 : Int32)], σ)) (P := []) rfl trivial ?_
    subst h
    exact mm_rt_ ⟨_, _, _, rfl, ⟨_, _, rfl, rfl, rfl, rfl⟩⟩
  rw [show mm_tsw x0 122 117 [122, 122, 118, 122, 122, 116] = mm_tsw x0 122 118 [122, 118, 122, 122, 116] from mm_tsw_f b20]
  have h := h.2 b20
  by_cases b21 : x0 = nI 118
  · rw [show mm_tsw x0 122 118 [122, 118, 122, 122, 116] = 122 from mm_tsw_t b21]
    have h := h.1 b21
    refine mm_blk (M := mm_m_X10_digitsBehind) 1 (S' := (123, [.int x0], [.int (0 : Int32)], σ)) (P := []) rfl trivial ?_
    subst h
    exact mm_rt_ ⟨_, _, _, rfl, ⟨_, _, rfl, rfl, rfl, rfl⟩⟩
  rw [show mm_tsw x0 122 118 [122, 118, 122, 122, 116] = mm_tsw x0 122 119 [118, 122, 122, 116] from mm_tsw_f b21]
  have h := h.2 b21
  by_cases b22 : x0 = nI 119
  · rw [show mm_tsw x0 122 119 [118, 122, 122, 116] = 118 from mm_tsw_t b22]
    have h := h.1 b22
    refine mm_blk (M := mm_m_X10_digitsBehind) 1 (S' := (119, [.int x0], [.int (2 : Int32)], σ)) (P := []) rfl trivial ?_
    subst h
    exact mm_rt_ ⟨_, _, _, rfl, ⟨_, _, rfl, rfl, rfl, rfl⟩⟩
  rw [show mm_tsw x0 122 119 [118, 122, 122, 116] = mm_tsw x0 122 120 [122, 122, 116] from mm_tsw_f b22]
  have h := h.2 b22
  by_cases b23 : x0 = nI 120
  · rw [show mm_tsw x0 122 120 [122, 122, 116] = 122 from mm_tsw_t b23]
    have h := h.1 b23
    refine mm_blk (M := mm_m_X10_digitsBehind) 1 (S' := (123, [.int x0], [.int (0 : Int32)], σ)) (P := []) rfl trivial ?_
    subst h
    exact mm_rt_ ⟨_, _, _, rfl, ⟨_, _, rfl, rfl, rfl, rfl⟩⟩
  rw [show mm_tsw x0 122 120 [122, 122, 116] = mm_tsw x0 122 121 [122, 116] from mm_tsw_f b23]
  have h := h.2 b23
  by_cases b24 : x0 = nI 121
  · rw [show mm_tsw x0 122 121 [122, 116] = 122 from mm_tsw_t b24]
    have h := h.1 b24
    refine mm_blk (M := mm_m_X10_digitsBehind) 1 (S' := (123, [.int x0], [.int (0 : Int32)], σ)) (P := []) rfl trivial ?_
    subst h
    exact mm_rt_ ⟨_, _, _, rfl, ⟨_, _, rfl, rfl, rfl, rfl⟩⟩
  rw [show mm_tsw x0 122 121 [122, 116] = mm_tsw x0 122 122 [116] from mm_tsw_f b24]
  have h := h.2 b24
  by_cases b25 : x0 = nI 122
  · rw [show mm_tsw x0 122 122 [116] = 116 from mm_tsw_t b25]
    have h := h.1 b25
    refine mm_blk (M := mm_m_X10_digitsBehind) 1 (S' := (117, [.int x0], [.int (1 : Int32)], σ)) (P := []) rfl trivial ?_
    subst h
    exact mm_rt_ ⟨_, _, _, rfl, ⟨_, _, rfl, rfl, rfl, rfl⟩⟩
  rw [show mm_tsw x0 122 122 [116] = mm_tsw x0 122 123 [] from mm_tsw_f b25]
  have h := h.2 b25
  change mm_Go mm_m_X10_digitsBehind (122, [.int x0], [], σ) R
  refine mm_blk (M := mm_m_X10_digitsBehind) 1 (S' := (123, [.int x0], [.int (0 : Int32)], σ)) (P := []) rfl trivial ?_
  subst h
  exact mm_rt_ ⟨_, _, _, rfl, ⟨_, _, rfl, rfl, rfl, rfl⟩⟩
theorem sg_X11_day_0 (σ : mm_Sg) (q1 : Nat) (R : Option Value × mm_Sg) (h : ((vp_in (1 : Int32) (mm_len q1)) ∧ ∀ σ2 : mm_Sg, σ2 = mm_u σ q1 1 ((σ q1 1) + (1 : Int32)) → mm_Go mm_m_X11_day (9, [.ref 51, .ref q1, .int (0 : Int32)], [], σ2) R)) : mm_Go mm_m_X11_day (0, [.ref 51, .ref q1, .null], [], σ) R := by
  obtain ⟨c1, h⟩ := h
  refine mm_blk (M := mm_m_X11_day) 7 (S' := (7, [.ref 51, .ref q1, .null], [], mm_u σ q1 1 ((σ q1 1) + (1 : Int32)))) (P := [vp_in (1 : Int32) (mm_len q1), vp_in (1 : Int32) (mm_len q1)]) rfl ⟨c1, c1, trivial⟩ ?_
  obtain ⟨σ2, e3⟩ : ∃ z, z = mm_u σ q1 1 ((σ q1 1) + (1 : Int32)) := ⟨_, rfl⟩
  rw [← e3]
  have h := h σ2 e3
  refine mm_blk (M := mm_m_X11_day) 2 (S' := (9, [.ref 51, .ref q1, .int (0 : Int32)], [], σ2)) (P := []) rfl trivial ?_
  exact h
theorem sg_X11_day_9 (σ : mm_Sg) (q1 : Nat) (x2 : Int32) (R : Option Value × mm_Sg) (h : ((((5 : Int32) ≤ x2 → mm_Go mm_m_X11_day (27, [.ref 51, .ref q1, .int (0 : Int32)], [], σ) R) ∧ (¬ ((5 : Int32) ≤ x2) → (∃ (σ2 : mm_Sg), mm_Ev mm_m_X11_wakesUp [.ref q1, .int x2] σ none σ2 ∧ mm_Go mm_m_X11_day (9, [.ref 51, .ref q1, .int (x2 + (1 : Int32))], [], σ2) R))))) : mm_Go mm_m_X11_day (9, [.ref 51, .ref q1, .int x2], [], σ) R := by
  refine mm_blk (M := mm_m_X11_day) 3 (S' := ((if (5 : Int32) ≤ x2 then 25 else 14), [.ref 51, .ref q1, .int x2], [], σ)) (P := []) rfl trivial ?_
  by_cases b1 : (5 : Int32) ≤ x2
  · rw [if_pos b1]
    have h := h.1 b1
    refine mm_blk (M := mm_m_X11_day) 2 (S' := (27, [.ref 51, .ref q1, .int (0 : Int32)], [], σ)) (P := []) rfl trivial ?_
    exact h
  · rw [if_neg b1]
    have h := h.2 b1
    refine mm_blk (M := mm_m_X11_day) 2 (S' := (16, [.ref 51, .ref q1, .int x2], [.int x2, .ref q1], σ)) (P := []) rfl trivial ?_
    obtain ⟨σ2, e3, h⟩ := h
    refine mm_cl_ (rest := []) e3 ⟨_, _, _, rfl, rfl, mm_tb_X11_wakesUp, rfl, rfl, Nat.le_of_ble_eq_true rfl, Nat.le_of_ble_eq_true rfl, trivial⟩ ?_
    refine mm_blk (M := mm_m_X11_day) 2 (S' := (9, [.ref 51, .ref q1, .int (x2 + (1 : Int32))], [], σ2)) (P := []) rfl trivial ?_
    exact h
theorem sg_X11_day_27 (σ : mm_Sg) (q1 : Nat) (x2 : Int32) (R : Option Value × mm_Sg) (h : ((vp_in (0 : Int32) (mm_len q1)) ∧ (((σ q1 0) ≤ x2 → mm_Go mm_m_X11_day (48, [.ref 51, .ref q1, .int (0 : Int32)], [], σ) R) ∧ (¬ ((σ q1 0) ≤ x2) → (∃ (σ3 : mm_Sg), mm_Ev mm_m_X11_drinks [.ref 51, .ref q1, .int x2] σ none σ3 ∧ mm_Go mm_m_X11_day (27, [.ref 51, .ref q1, .int (x2 + (1 : Int32))], [], σ3) R))))) : mm_Go mm_m_X11_day (27, [.ref 51, .ref q1, .int x2], [], σ) R := by
  obtain ⟨c1, h⟩ := h
  refine mm_blk (M := mm_m_X11_day) 5 (S' := ((if (σ q1 0) ≤ x2 then 46 else 34), [.ref 51, .ref q1, .int x2], [], σ)) (P := [vp_in (0 : Int32) (mm_len q1)]) rfl ⟨c1, trivial⟩ ?_
  by_cases b2 : (σ q1 0) ≤ x2
  · rw [if_pos b2]
    have h := h.1 b2
    refine mm_blk (M := mm_m_X11_day) 2 (S' := (48, [.ref 51, .ref q1, .int (0 : Int32)], [], σ)) (P := []) rfl trivial ?_
    exact h
  · rw [if_neg b2]
    have h := h.2 b2
    refine mm_blk (M := mm_m_X11_day) 3 (S' := (37, [.ref 51, .ref q1, .int x2], [.int x2, .ref q1, .ref 51], σ)) (P := []) rfl trivial ?_
    obtain ⟨σ3, e4, h⟩ := h
    refine mm_cl_ (rest := []) e4 ⟨_, _, _, rfl, rfl, mm_tb_X11_drinks, rfl, rfl, Nat.le_of_ble_eq_true rfl, Nat.le_of_ble_eq_true rfl, ⟨_, rfl, rfl⟩⟩ ?_
    refine mm_blk (M := mm_m_X11_day) 2 (S' := (27, [.ref 51, .ref q1, .int (x2 + (1 : Int32))], [], σ3)) (P := []) rfl trivial ?_
    exact h
theorem sg_X11_day_48 (σ : mm_Sg) (q1 : Nat) (x2 : Int32) (R : Option Value × mm_Sg) (h : ((((5 : Int32) ≤ x2 → (R = (none, σ))) ∧ (¬ ((5 : Int32) ≤ x2) → (∃ (σ2 : mm_Sg), mm_Ev mm_m_X11_liesDown [.ref q1, .int x2] σ none σ2 ∧ mm_Go mm_m_X11_day (48, [.ref 51, .ref q1, .int (x2 + (1 : Int32))], [], σ2) R))))) : mm_Go mm_m_X11_day (48, [.ref 51, .ref q1, .int x2], [], σ) R := by
  refine mm_blk (M := mm_m_X11_day) 3 (S' := ((if (5 : Int32) ≤ x2 then 64 else 53), [.ref 51, .ref q1, .int x2], [], σ)) (P := []) rfl trivial ?_
  by_cases b1 : (5 : Int32) ≤ x2
  · rw [if_pos b1]
    have h := h.1 b1
    subst h
    exact mm_rt_ ⟨_, _, _, rfl, ⟨rfl, rfl, rfl⟩⟩
  · rw [if_neg b1]
    have h := h.2 b1
    refine mm_blk (M := mm_m_X11_day) 2 (S' := (55, [.ref 51, .ref q1, .int x2], [.int x2, .ref q1], σ)) (P := []) rfl trivial ?_
    obtain ⟨σ2, e3, h⟩ := h
    refine mm_cl_ (rest := []) e3 ⟨_, _, _, rfl, rfl, mm_tb_X11_liesDown, rfl, rfl, Nat.le_of_ble_eq_true rfl, Nat.le_of_ble_eq_true rfl, trivial⟩ ?_
    refine mm_blk (M := mm_m_X11_day) 2 (S' := (48, [.ref 51, .ref q1, .int (x2 + (1 : Int32))], [], σ2)) (P := []) rfl trivial ?_
    exact h
theorem sg_J7_fill_53178_0 (σ : mm_Sg) (q0 : Nat) (x1 : Int32) (R : Option Value × mm_Sg) (h : ((0 < mm_len q0) ∧ mm_Go mm_m_J7_fill_53178 (5, [.ref q0, .int x1, .int (0 : Int32), .int (nI (mm_len q0))], [], σ) R)) : mm_Go mm_m_J7_fill_53178 (0, [.ref q0, .int x1, .null, .null], [], σ) R := by
  obtain ⟨c1, h⟩ := h
  refine mm_blk (M := mm_m_J7_fill_53178) 5 (S' := (5, [.ref q0, .int x1, .int (0 : Int32), .int (nI (mm_len q0))], [], σ)) (P := [0 < mm_len q0]) rfl ⟨c1, trivial⟩ ?_
  exact h
theorem sg_J7_fill_53178_5 (σ : mm_Sg) (q0 : Nat) (x1 : Int32) (x2 : Int32) (x3 : Int32) (R : Option Value × mm_Sg) (h : (((x3 ≤ x2 → (R = (none, σ))) ∧ (¬ (x3 ≤ x2) → ((vp_in x2 (mm_len q0)) ∧ ∀ σ3 : mm_Sg, σ3 = mm_u σ q0 x2.toNatClampNeg x1 → mm_Go mm_m_J7_fill_53178 (5, [.ref q0, .int x1, .int (x2 + (1 : Int32)), .int x3], [], σ3) R))))) : mm_Go mm_m_J7_fill_53178 (5, [.ref q0, .int x1, .int x2, .int x3], [], σ) R := by
  refine mm_blk (M := mm_m_J7_fill_53178) 3 (S' := ((if x3 ≤ x2 then 20 else 10), [.ref q0, .int x1, .int x2, .int x3], [], σ)) (P := []) rfl trivial ?_
  by_cases b1 : x3 ≤ x2
  · rw [if_pos b1]
    have h := h.1 b1
    subst h
    exact mm_rt_ ⟨_, _, _, rfl, ⟨rfl, rfl, rfl⟩⟩
  · rw [if_neg b1]
    have h := h.2 b1
    obtain ⟨c2, h⟩ := h
    refine mm_blk (M := mm_m_J7_fill_53178) 4 (S' := (14, [.ref q0, .int x1, .int x2, .int x3], [], mm_u σ q0 x2.toNatClampNeg x1)) (P := [vp_in x2 (mm_len q0)]) rfl ⟨c2, trivial⟩ ?_
    obtain ⟨σ3, e4⟩ : ∃ z, z = mm_u σ q0 x2.toNatClampNeg x1 := ⟨_, rfl⟩
    rw [← e4]
    have h := h σ3 e4
    refine mm_blk (M := mm_m_J7_fill_53178) 2 (S' := (5, [.ref q0, .int x1, .int (x2 + (1 : Int32)), .int x3], [], σ3)) (P := []) rfl trivial ?_
    exact h
theorem sg_X11_falls_0 (σ : mm_Sg) (x1 : Int32) (x2 : Int32) (x3 : Int32) (x4 : Int32) (R : Option Value × mm_Sg) (h : (∃ (v3 : Int32) (σ1 : mm_Sg), mm_Ev mm_m_X11_isIn [.int x1, .int (0 : Int32), .int (7 : Int32)] σ (some (.int v3)) σ1 ∧ (((v3 = (0 : Int32) → (R = (some (.long (1000000001 : Int64)), σ1))) ∧ (¬ (v3 = (0 : Int32)) → (∃ (v7 : Int32) (σ5 : mm_Sg), mm_Ev mm_m_X11_isIn [.int x2, .int (2 : Int32), .int (20 : Int32)] σ1 (some (.int v7)) σ5 ∧ (((v7 = (0 : Int32) → (R = (some (.long (1000000001 : Int64)), σ5))) ∧ (¬ (v7 = (0 : Int32)) → (∃ (v11 : Int32) (σ9 : mm_Sg), mm_Ev mm_m_X11_isIn [.int x3, .int (0 : Int32), .int (999 : Int32)] σ5 (some (.int v11)) σ9 ∧ (((v11 = (0 : Int32) → (R = (some (.long (1000000001 : Int64)), σ9))) ∧ (¬ (v11 = (0 : Int32)) → (∃ (v15 : Int32) (σ13 : mm_Sg), mm_Ev mm_m_X11_isIn [.int x4, .int (0 : Int32), .int (1 : Int32)] σ9 (some (.int v15)) σ13 ∧ (((¬ v15 = (0 : Int32) → mm_Go mm_m_X11_falls (54, [.ref 51, .int x1, .int x2, .int x3, .int x4, .long (0 : Int64), .null, .long (1 : Int64), .null, .int (0 : Int32), .null, .null, .null], [], σ13) R) ∧ (¬ (¬ v15 = (0 : Int32)) → (R = (some (.long (1000000001 : Int64)), σ13))))))))))))))))))) : mm_Go mm_m_X11_falls (0, [.ref 51, .int x1, .int x2, .int x3, .int x4, .null, .null, .null, .null, .null, .null, .null, .null], [], σ) R := by
  refine mm_blk (M := mm_m_X11_falls) 3 (S' := (4, [.ref 51, .int x1, .int x2, .int x3, .int x4, .null, .null, .null, .null, .null, .null, .null, .null], [.int (7 : Int32), .int (0 : Int32), .int x1], σ)) (P := []) rfl trivial ?_
  obtain ⟨v3, σ1, e2, h⟩ := h
  refine mm_cl_ (rest := []) e2 ⟨_, _, _, rfl, rfl, mm_tb_X11_isIn, rfl, rfl, Nat.le_of_ble_eq_true rfl, Nat.le_of_ble_eq_true rfl, trivial⟩ ?_
  refine mm_blk (M := mm_m_X11_falls) 1 (S' := ((if v3 = (0 : Int32) then 41 else 10), [.ref 51, .int x1, .int x2, .int x3, .int x4, .null, .null, .null, .null, .null, .null, .null, .null], [], σ1)) (P := []) rfl trivial ?_
  by_cases b4 : v3 = (0 : Int32)
  · rw [if_pos b4]
    have h := h.1 b4
    refine mm_blk (M := mm_m_X11_falls) 1 (S' := (44, [.ref 51, .int x1, .int x2, .int x3, .int x4, .null, .null, .null, .null, .null, .null, .null, .null], [.long (1000000001 : Int64)], σ1)) (P := []) rfl trivial ?_
    subst h
    exact mm_rt_ ⟨_, _, _, rfl, ⟨_, rfl, rfl, rfl⟩⟩
  · rw [if_neg b4]
    have h := h.2 b4
    refine mm_blk (M := mm_m_X11_falls) 3 (S' := (14, [.ref 51, .int x1, .int x2, .int x3, .int x4, .null, .null, .null, .null, .null, .null, .null, .null], [.int (20 : Int32), .int (2 : Int32), .int x2], σ1)) (P := []) rfl trivial ?_
    obtain ⟨v7, σ5, e6, h⟩ := h
    refine mm_cl_ (rest := []) e6 ⟨_, _, _, rfl, rfl, mm_tb_X11_isIn, rfl, rfl, Nat.le_of_ble_eq_true rfl, Nat.le_of_ble_eq_true rfl, trivial⟩ ?_
    refine mm_blk (M := mm_m_X11_falls) 1 (S' := ((if v7 = (0 : Int32) then 41 else 20), [.ref 51, .int x1, .int x2, .int x3, .int x4, .null, .null, .null, .null, .null, .null, .null, .null], [], σ5)) (P := []) rfl trivial ?_
    by_cases b8 : v7 = (0 : Int32)
    · rw [if_pos b8]
      have h := h.1 b8
      refine mm_blk (M := mm_m_X11_falls) 1 (S' := (44, [.ref 51, .int x1, .int x2, .int x3, .int x4, .null, .null, .null, .null, .null, .null, .null, .null], [.long (1000000001 : Int64)], σ5)) (P := []) rfl trivial ?_
      subst h
      exact mm_rt_ ⟨_, _, _, rfl, ⟨_, rfl, rfl, rfl⟩⟩
    · rw [if_neg b8]
      have h := h.2 b8
      refine mm_blk (M := mm_m_X11_falls) 3 (S' := (25, [.ref 51, .int x1, .int x2, .int x3, .int x4, .null, .null, .null, .null, .null, .null, .null, .null], [.int (999 : Int32), .int (0 : Int32), .int x3], σ5)) (P := []) rfl trivial ?_
      obtain ⟨v11, σ9, e10, h⟩ := h
      refine mm_cl_ (rest := []) e10 ⟨_, _, _, rfl, rfl, mm_tb_X11_isIn, rfl, rfl, Nat.le_of_ble_eq_true rfl, Nat.le_of_ble_eq_true rfl, trivial⟩ ?_
      refine mm_blk (M := mm_m_X11_falls) 1 (S' := ((if v11 = (0 : Int32) then 41 else 31), [.ref 51, .int x1, .int x2, .int x3, .int x4, .null, .null, .null, .null, .null, .null, .null, .null], [], σ9)) (P := []) rfl trivial ?_
      by_cases b12 : v11 = (0 : Int32)
      · rw [if_pos b12]
        have h := h.1 b12
        refine mm_blk (M := mm_m_X11_falls) 1 (S' := (44, [.ref 51, .int x1, .int x2, .int x3, .int x4, .null, .null, .null, .null, .null, .null, .null, .null], [.long (1000000001 : Int64)], σ9)) (P := []) rfl trivial ?_
        subst h
        exact mm_rt_ ⟨_, _, _, rfl, ⟨_, rfl, rfl, rfl⟩⟩
      · rw [if_neg b12]
        have h := h.2 b12
        refine mm_blk (M := mm_m_X11_falls) 3 (S' := (35, [.ref 51, .int x1, .int x2, .int x3, .int x4, .null, .null, .null, .null, .null, .null, .null, .null], [.int (1 : Int32), .int (0 : Int32), .int x4], σ9)) (P := []) rfl trivial ?_
        obtain ⟨v15, σ13, e14, h⟩ := h
        refine mm_cl_ (rest := []) e14 ⟨_, _, _, rfl, rfl, mm_tb_X11_isIn, rfl, rfl, Nat.le_of_ble_eq_true rfl, Nat.le_of_ble_eq_true rfl, trivial⟩ ?_
        refine mm_blk (M := mm_m_X11_falls) 1 (S' := ((if ¬ v15 = (0 : Int32) then 45 else 41), [.ref 51, .int x1, .int x2, .int x3, .int x4, .null, .null, .null, .null, .null, .null, .null, .null], [], σ13)) (P := []) rfl trivial ?_
        by_cases b16 : ¬ v15 = (0 : Int32)
        · rw [if_pos b16]
          have h := h.1 b16
          refine mm_blk (M := mm_m_X11_falls) 6 (S' := (54, [.ref 51, .int x1, .int x2, .int x3, .int x4, .long (0 : Int64), .null, .long (1 : Int64), .null, .int (0 : Int32), .null, .null, .null], [], σ13)) (P := []) rfl trivial ?_
          exact h
        · rw [if_neg b16]
          have h := h.2 b16
          refine mm_blk (M := mm_m_X11_falls) 1 (S' := (44, [.ref 51, .int x1, .int x2, .int x3, .int x4, .null, .null, .null, .null, .null, .null, .null, .null], [.long (1000000001 : Int64)], σ13)) (P := []) rfl trivial ?_
          subst h
          exact mm_rt_ ⟨_, _, _, rfl, ⟨_, rfl, rfl, rfl⟩⟩
theorem sg_X11_falls_54 (σ : mm_Sg) (x1 : Int32) (x2 : Int32) (x3 : Int32) (x4 : Int32) (l5 : Int64) (l7 : Int64) (x9 : Int32) (R : Option Value × mm_Sg) (h : (((x1 ≤ x9 → mm_Go mm_m_X11_falls (76, [.ref 51, .int x1, .int x2, .int x3, .int x4, .long l5, .null, .long l7, .null, .int (0 : Int32), .null, .null, .null], [], σ) R) ∧ (¬ (x1 ≤ x9) → mm_Go mm_m_X11_falls (54, [.ref 51, .int x1, .int x2, .int x3, .int x4, .long l5, .null, .long (l7 * (x2.toInt64)), .null, .int (x9 + (1 : Int32)), .null, .null, .null], [], σ) R)))) : mm_Go mm_m_X11_falls (54, [.ref 51, .int x1, .int x2, .int x3, .int x4, .long l5, .null, .long l7, .null, .int x9, .null, .null, .null], [], σ) R := by
  refine mm_blk (M := mm_m_X11_falls) 3 (S' := ((if x1 ≤ x9 then 73 else 60), [.ref 51, .int x1, .int x2, .int x3, .int x4, .long l5, .null, .long l7, .null, .int x9, .null, .null, .null], [], σ)) (P := []) rfl trivial ?_
  by_cases b1 : x1 ≤ x9
  · rw [if_pos b1]
    have h := h.1 b1
    refine mm_blk (M := mm_m_X11_falls) 2 (S' := (76, [.ref 51, .int x1, .int x2, .int x3, .int x4, .long l5, .null, .long l7, .null, .int (0 : Int32), .null, .null, .null], [], σ)) (P := []) rfl trivial ?_
    exact h
  · rw [if_neg b1]
    have h := h.2 b1
    refine mm_blk (M := mm_m_X11_falls) 7 (S' := (54, [.ref 51, .int x1, .int x2, .int x3, .int x4, .long l5, .null, .long (l7 * (x2.toInt64)), .null, .int (x9 + (1 : Int32)), .null, .null, .null], [], σ)) (P := []) rfl trivial ?_
    exact h
theorem sg_X11_falls_76 (σ : mm_Sg) (x1 : Int32) (x2 : Int32) (x3 : Int32) (x4 : Int32) (l5 : Int64) (l7 : Int64) (x9 : Int32) (d10 : Value) (d12 : Value) (R : Option Value × mm_Sg) (h : (((((1 : Int32) <<< (x1 &&& 31)) ≤ x9 → (∃ (w4 : Int64) (σ2 : mm_Sg), mm_Ev mm_m_X11_partOf [.long l5, .long l7, .int x4] σ (some (.long w4)) σ2 ∧ (R = (some (.long w4), σ2)))) ∧ (¬ (((1 : Int32) <<< (x1 &&& 31)) ≤ x9) → (∃ (σ5 : mm_Sg), mm_Ev mm_m_X11_copies [.ref 52, .ref 53] σ none σ5 ∧ mm_Go mm_m_X11_falls (101, [.ref 51, .int x1, .int x2, .int x3, .int x4, .long l5, .null, .long l7, .null, .int x9, .long (1 : Int64), .null, .int (0 : Int32)], [], σ5) R))))) : mm_Go mm_m_X11_falls (76, [.ref 51, .int x1, .int x2, .int x3, .int x4, .long l5, .null, .long l7, .null, .int x9, d10, .null, d12], [], σ) R := by
  refine mm_blk (M := mm_m_X11_falls) 5 (S' := ((if ((1 : Int32) <<< (x1 &&& 31)) ≤ x9 then 190 else 84), [.ref 51, .int x1, .int x2, .int x3, .int x4, .long l5, .null, .long l7, .null, .int x9, d10, .null, d12], [], σ)) (P := []) rfl trivial ?_
  by_cases b1 : ((1 : Int32) <<< (x1 &&& 31)) ≤ x9
  · rw [if_pos b1]
    have h := h.1 b1
    refine mm_blk (M := mm_m_X11_falls) 3 (S' := (196, [.ref 51, .int x1, .int x2, .int x3, .int x4, .long l5, .null, .long l7, .null, .int x9, d10, .null, d12], [.int x4, .long l7, .long l5], σ)) (P := []) rfl trivial ?_
    obtain ⟨w4, σ2, e3, h⟩ := h
    refine mm_cl_ (rest := []) e3 ⟨_, _, _, rfl, rfl, mm_tb_X11_partOf, rfl, rfl, Nat.le_of_ble_eq_true rfl, Nat.le_of_ble_eq_true rfl, trivial⟩ ?_
    subst h
    exact mm_rt_ ⟨_, _, _, rfl, ⟨_, rfl, rfl, rfl⟩⟩
  · rw [if_neg b1]
    have h := h.2 b1
    refine mm_blk (M := mm_m_X11_falls) 6 (S' := (95, [.ref 51, .int x1, .int x2, .int x3, .int x4, .long l5, .null, .long l7, .null, .int x9, .long (1 : Int64), .null, d12], [.ref 53, .ref 52], σ)) (P := [mm_cl 51 = 11, mm_cl 51 = 11]) rfl ⟨rfl, rfl, trivial⟩ ?_
    obtain ⟨σ5, e6, h⟩ := h
    refine mm_cl_ (rest := []) e6 ⟨_, _, _, rfl, rfl, mm_tb_X11_copies, rfl, rfl, Nat.le_of_ble_eq_true rfl, Nat.le_of_ble_eq_true rfl, trivial⟩ ?_
    refine mm_blk (M := mm_m_X11_falls) 2 (S' := (101, [.ref 51, .int x1, .int x2, .int x3, .int x4, .long l5, .null, .long l7, .null, .int x9, .long (1 : Int64), .null, .int (0 : Int32)], [], σ5)) (P := []) rfl trivial ?_
    exact h
theorem sg_X11_falls_101 (σ : mm_Sg) (x1 : Int32) (x2 : Int32) (x3 : Int32) (x4 : Int32) (l5 : Int64) (l7 : Int64) (x9 : Int32) (l10 : Int64) (x12 : Int32) (R : Option Value × mm_Sg) (h : (((x1 ≤ x12 → (∃ (v4 : Int32) (σ2 : mm_Sg), mm_Ev mm_m_X11_allOwed [.ref 53] σ (some (.int v4)) σ2 ∧ (((v4 < x3 → mm_Go mm_m_X11_falls (76, [.ref 51, .int x1, .int x2, .int x3, .int x4, .long (l5 + (0 : Int64)), .null, .long l7, .null, .int (x9 + (1 : Int32)), .long l10, .null, .int x12], [], σ2) R) ∧ (¬ (v4 < x3) → mm_Go mm_m_X11_falls (76, [.ref 51, .int x1, .int x2, .int x3, .int x4, .long (l5 + l10), .null, .long l7, .null, .int (x9 + (1 : Int32)), .long l10, .null, .int x12], [], σ2) R))))) ∧ (¬ (x1 ≤ x12) → (∃ (v8 : Int32) (σ6 : mm_Sg), mm_Ev mm_m_X11_has [.int x9, .int x12] σ (some (.int v8)) σ6 ∧ (((v8 = (0 : Int32) → (∃ (v12 : Int32) (σ10 : mm_Sg), mm_Ev mm_m_X11_has [.int x9, .int x12] σ6 (some (.int v12)) σ10 ∧ (((v12 = (0 : Int32) → (∃ (σ14 : mm_Sg), mm_Ev mm_m_X11_day [.ref 51, .ref 53] σ10 none σ14 ∧ mm_Go mm_m_X11_falls (101, [.ref 51, .int x1, .int x2, .int x3, .int x4, .long l5, .null, .long l7, .null, .int x9, .long (l10 * ((x2 - (1 : Int32)).toInt64)), .null, .int (x12 + (1 : Int32))], [], σ14) R)) ∧ (¬ (v12 = (0 : Int32)) → (∀ σ16 : mm_Sg, σ16 = mm_u σ10 53 3 (31 : Int32) → (∃ (σ18 : mm_Sg), mm_Ev mm_m_X11_day [.ref 51, .ref 53] σ16 none σ18 ∧ mm_Go mm_m_X11_falls (101, [.ref 51, .int x1, .int x2, .int x3, .int x4, .long l5, .null, .long l7, .null, .int x9, .long (l10 * ((x2 - (1 : Int32)).toInt64)), .null, .int (x12 + (1 : Int32))], [], σ18) R))))))) ∧ (¬ (v8 = (0 : Int32)) → (∃ (v22 : Int32) (σ20 : mm_Sg), mm_Ev mm_m_X11_has [.int x9, .int x12] σ6 (some (.int v22)) σ20 ∧ (((v22 = (0 : Int32) → (∃ (σ24 : mm_Sg), mm_Ev mm_m_X11_day [.ref 51, .ref 53] σ20 none σ24 ∧ mm_Go mm_m_X11_falls (101, [.ref 51, .int x1, .int x2, .int x3, .int x4, .long l5, .null, .long l7, .null, .int x9, .long (l10 * (1 : Int64)), .null, .int (x12 + (1 : Int32))], [], σ24) R)) ∧ (¬ (v22 = (0 : Int32)) → (∀ σ26 : mm_Sg, σ26 = mm_u σ20 53 3 (31 : Int32) → (∃ (σ28 : mm_Sg), mm_Ev mm_m_X11_day [.ref 51, .ref 53] σ26 none σ28 ∧ mm_Go mm_m_X11_falls (101, [.ref 51, .int x1, .int x2, .int x3, .int x4, .long l5, .null, .long l7, .null, .int x9, .long (l10 * (1 : Int64)), .null, .int (x12 + (1 : Int32))], [], σ28) R)))))))))))))) : mm_Go mm_m_X11_falls (101, [.ref 51, .int x1, .int x2, .int x3, .int x4, .long l5, .null, .long l7, .null, .int x9, .long l10, .null, .int x12], [], σ) R := by
  refine mm_blk (M := mm_m_X11_falls) 3 (S' := ((if x1 ≤ x12 then 162 else 107), [.ref 51, .int x1, .int x2, .int x3, .int x4, .long l5, .null, .long l7, .null, .int x9, .long l10, .null, .int x12], [], σ)) (P := []) rfl trivial ?_
  by_cases b1 : x1 ≤ x12
  · rw [if_pos b1]
    have h := h.1 b1
    refine mm_blk (M := mm_m_X11_falls) 3 (S' := (168, [.ref 51, .int x1, .int x2, .int x3, .int x4, .long l5, .null, .long l7, .null, .int x9, .long l10, .null, .int x12], [.ref 53, .long l5], σ)) (P := [mm_cl 51 = 11]) rfl ⟨rfl, trivial⟩ ?_
    obtain ⟨v4, σ2, e3, h⟩ := h
    refine mm_cl_ (rest := [.long l5]) e3 ⟨_, _, _, rfl, rfl, mm_tb_X11_allOwed, rfl, rfl, Nat.le_of_ble_eq_true rfl, Nat.le_of_ble_eq_true rfl, trivial⟩ ?_
    refine mm_blk (M := mm_m_X11_falls) 2 (S' := ((if v4 < x3 then 180 else 175), [.ref 51, .int x1, .int x2, .int x3, .int x4, .long l5, .null, .long l7, .null, .int x9, .long l10, .null, .int x12], [.long l5], σ2)) (P := []) rfl trivial ?_
    by_cases b5 : v4 < x3
    · rw [if_pos b5]
      have h := h.1 b5
      refine mm_blk (M := mm_m_X11_falls) 5 (S' := (76, [.ref 51, .int x1, .int x2, .int x3, .int x4, .long (l5 + (0 : Int64)), .null, .long l7, .null, .int (x9 + (1 : Int32)), .long l10, .null, .int x12], [], σ2)) (P := []) rfl trivial ?_
      exact h
    · rw [if_neg b5]
      have h := h.2 b5
      refine mm_blk (M := mm_m_X11_falls) 6 (S' := (76, [.ref 51, .int x1, .int x2, .int x3, .int x4, .long (l5 + l10), .null, .long l7, .null, .int (x9 + (1 : Int32)), .long l10, .null, .int x12], [], σ2)) (P := []) rfl trivial ?_
      exact h
  · rw [if_neg b1]
    have h := h.2 b1
    refine mm_blk (M := mm_m_X11_falls) 3 (S' := (113, [.ref 51, .int x1, .int x2, .int x3, .int x4, .long l5, .null, .long l7, .null, .int x9, .long l10, .null, .int x12], [.int x12, .int x9, .long l10], σ)) (P := []) rfl trivial ?_
    obtain ⟨v8, σ6, e7, h⟩ := h
    refine mm_cl_ (rest := [.long l10]) e7 ⟨_, _, _, rfl, rfl, mm_tb_X11_has, rfl, rfl, Nat.le_of_ble_eq_true rfl, Nat.le_of_ble_eq_true rfl, trivial⟩ ?_
    refine mm_blk (M := mm_m_X11_falls) 1 (S' := ((if v8 = (0 : Int32) then 123 else 119), [.ref 51, .int x1, .int x2, .int x3, .int x4, .long l5, .null, .long l7, .null, .int x9, .long l10, .null, .int x12], [.long l10], σ6)) (P := []) rfl trivial ?_
    by_cases b9 : v8 = (0 : Int32)
    · rw [if_pos b9]
      have h := h.1 b9
      refine mm_blk (M := mm_m_X11_falls) 8 (S' := (134, [.ref 51, .int x1, .int x2, .int x3, .int x4, .long l5, .null, .long l7, .null, .int x9, .long (l10 * ((x2 - (1 : Int32)).toInt64)), .null, .int x12], [.int x12, .int x9], σ6)) (P := []) rfl trivial ?_
      obtain ⟨v12, σ10, e11, h⟩ := h
      refine mm_cl_ (rest := []) e11 ⟨_, _, _, rfl, rfl, mm_tb_X11_has, rfl, rfl, Nat.le_of_ble_eq_true rfl, Nat.le_of_ble_eq_true rfl, trivial⟩ ?_
      refine mm_blk (M := mm_m_X11_falls) 1 (S' := ((if v12 = (0 : Int32) then 148 else 140), [.ref 51, .int x1, .int x2, .int x3, .int x4, .long l5, .null, .long l7, .null, .int x9, .long (l10 * ((x2 - (1 : Int32)).toInt64)), .null, .int x12], [], σ10)) (P := []) rfl trivial ?_
      by_cases b13 : v12 = (0 : Int32)
      · rw [if_pos b13]
        have h := h.1 b13
        refine mm_blk (M := mm_m_X11_falls) 3 (S' := (153, [.ref 51, .int x1, .int x2, .int x3, .int x4, .long l5, .null, .long l7, .null, .int x9, .long (l10 * ((x2 - (1 : Int32)).toInt64)), .null, .int x12], [.ref 53, .ref 51], σ10)) (P := [mm_cl 51 = 11]) rfl ⟨rfl, trivial⟩ ?_
        obtain ⟨σ14, e15, h⟩ := h
        refine mm_cl_ (rest := []) e15 ⟨_, _, _, rfl, rfl, mm_tb_X11_day, rfl, rfl, Nat.le_of_ble_eq_true rfl, Nat.le_of_ble_eq_true rfl, ⟨_, rfl, rfl⟩⟩ ?_
        refine mm_blk (M := mm_m_X11_falls) 2 (S' := (101, [.ref 51, .int x1, .int x2, .int x3, .int x4, .long l5, .null, .long l7, .null, .int x9, .long (l10 * ((x2 - (1 : Int32)).toInt64)), .null, .int (x12 + (1 : Int32))], [], σ14)) (P := []) rfl trivial ?_
        exact h
      · rw [if_neg b13]
        have h := h.2 b13
        refine mm_blk (M := mm_m_X11_falls) 5 (S' := (148, [.ref 51, .int x1, .int x2, .int x3, .int x4, .long l5, .null, .long l7, .null, .int x9, .long (l10 * ((x2 - (1 : Int32)).toInt64)), .null, .int x12], [], mm_u σ10 53 3 (31 : Int32))) (P := [mm_cl 51 = 11, vp_in (3 : Int32) (mm_len 53)]) rfl ⟨rfl, (by unfold vp_in; decide), trivial⟩ ?_
        obtain ⟨σ16, e17⟩ : ∃ z, z = mm_u σ10 53 3 (31 : Int32) := ⟨_, rfl⟩
        rw [← e17]
        have h := h σ16 e17
        refine mm_blk (M := mm_m_X11_falls) 3 (S' := (153, [.ref 51, .int x1, .int x2, .int x3, .int x4, .long l5, .null, .long l7, .null, .int x9, .long (l10 * ((x2 - (1 : Int32)).toInt64)), .null, .int x12], [.ref 53, .ref 51], σ16)) (P := [mm_cl 51 = 11]) rfl ⟨rfl, trivial⟩ ?_
        obtain ⟨σ18, e19, h⟩ := h
        refine mm_cl_ (rest := []) e19 ⟨_, _, _, rfl, rfl, mm_tb_X11_day, rfl, rfl, Nat.le_of_ble_eq_true rfl, Nat.le_of_ble_eq_true rfl, ⟨_, rfl, rfl⟩⟩ ?_
        refine mm_blk (M := mm_m_X11_falls) 2 (S' := (101, [.ref 51, .int x1, .int x2, .int x3, .int x4, .long l5, .null, .long l7, .null, .int x9, .long (l10 * ((x2 - (1 : Int32)).toInt64)), .null, .int (x12 + (1 : Int32))], [], σ18)) (P := []) rfl trivial ?_
        exact h
    · rw [if_neg b9]
      have h := h.2 b9
      refine mm_blk (M := mm_m_X11_falls) 6 (S' := (134, [.ref 51, .int x1, .int x2, .int x3, .int x4, .long l5, .null, .long l7, .null, .int x9, .long (l10 * (1 : Int64)), .null, .int x12], [.int x12, .int x9], σ6)) (P := []) rfl trivial ?_
      obtain ⟨v22, σ20, e21, h⟩ := h
      refine mm_cl_ (rest := []) e21 ⟨_, _, _, rfl, rfl, mm_tb_X11_has, rfl, rfl, Nat.le_of_ble_eq_true rfl, Nat.le_of_ble_eq_true rfl, trivial⟩ ?_
      refine mm_blk (M := mm_m_X11_falls) 1 (S' := ((if v22 = (0 : Int32) then 148 else 140), [.ref 51, .int x1, .int x2, .int x3, .int x4, .long l5, .null, .long l7, .null, .int x9, .long (l10 * (1 : Int64)), .null, .int x12], [], σ20)) (P := []) rfl trivial ?_
      by_cases b23 : v22 = (0 : Int32)
      · rw [if_pos b23]
        have h := h.1 b23
        refine mm_blk (M := mm_m_X11_falls) 3 (S' := (153, [.ref 51, .int x1, .int x2, .int x3, .int x4, .long l5, .null, .long l7, .null, .int x9, .long (l10 * (1 : Int64)), .null, .int x12], [.ref 53, .ref 51], σ20)) (P := [mm_cl 51 = 11]) rfl ⟨rfl, trivial⟩ ?_
        obtain ⟨σ24, e25, h⟩ := h
        refine mm_cl_ (rest := []) e25 ⟨_, _, _, rfl, rfl, mm_tb_X11_day, rfl, rfl, Nat.le_of_ble_eq_true rfl, Nat.le_of_ble_eq_true rfl, ⟨_, rfl, rfl⟩⟩ ?_
        refine mm_blk (M := mm_m_X11_falls) 2 (S' := (101, [.ref 51, .int x1, .int x2, .int x3, .int x4, .long l5, .null, .long l7, .null, .int x9, .long (l10 * (1 : Int64)), .null, .int (x12 + (1 : Int32))], [], σ24)) (P := []) rfl trivial ?_
        exact h
      · rw [if_neg b23]
        have h := h.2 b23
        refine mm_blk (M := mm_m_X11_falls) 5 (S' := (148, [.ref 51, .int x1, .int x2, .int x3, .int x4, .long l5, .null, .long l7, .null, .int x9, .long (l10 * (1 : Int64)), .null, .int x12], [], mm_u σ20 53 3 (31 : Int32))) (P := [mm_cl 51 = 11, vp_in (3 : Int32) (mm_len 53)]) rfl ⟨rfl, (by unfold vp_in; decide), trivial⟩ ?_
        obtain ⟨σ26, e27⟩ : ∃ z, z = mm_u σ20 53 3 (31 : Int32) := ⟨_, rfl⟩
        rw [← e27]
        have h := h σ26 e27
        refine mm_blk (M := mm_m_X11_falls) 3 (S' := (153, [.ref 51, .int x1, .int x2, .int x3, .int x4, .long l5, .null, .long l7, .null, .int x9, .long (l10 * (1 : Int64)), .null, .int x12], [.ref 53, .ref 51], σ26)) (P := [mm_cl 51 = 11]) rfl ⟨rfl, trivial⟩ ?_
        obtain ⟨σ28, e29, h⟩ := h
        refine mm_cl_ (rest := []) e29 ⟨_, _, _, rfl, rfl, mm_tb_X11_day, rfl, rfl, Nat.le_of_ble_eq_true rfl, Nat.le_of_ble_eq_true rfl, ⟨_, rfl, rfl⟩⟩ ?_
        refine mm_blk (M := mm_m_X11_falls) 2 (S' := (101, [.ref 51, .int x1, .int x2, .int x3, .int x4, .long l5, .null, .long l7, .null, .int x9, .long (l10 * (1 : Int64)), .null, .int (x12 + (1 : Int32))], [], σ28)) (P := []) rfl trivial ?_
        exact h
theorem sg_X1_becomeLike_0 (σ : mm_Sg) (q0 : Nat) (q1 : Nat) (R : Option Value × mm_Sg) (h : ((mm_cl q1 = 1) ∧ (mm_cl q0 = 1) ∧ (0 + 7 ≤ mm_len (q1 + 1)) ∧ (0 + 7 ≤ mm_len (q0 + 1)) ∧ (0 < mm_len (q1 + 1)) ∧ (0 < mm_len (q0 + 1)) ∧ ∀ σ7 : mm_Sg, σ7 = mm_cp σ (q1 + 1) 0 (q0 + 1) 0 7 → ((0 + 7 ≤ mm_len (q1 + 2)) ∧ (0 + 7 ≤ mm_len (q0 + 2)) ∧ (0 < mm_len (q1 + 2)) ∧ (0 < mm_len (q0 + 2)) ∧ ∀ σ13 : mm_Sg, σ13 = mm_cp σ7 (q1 + 2) 0 (q0 + 2) 0 7 → ((0 + 7 ≤ mm_len (q1 + 3)) ∧ (0 + 7 ≤ mm_len (q0 + 3)) ∧ (0 < mm_len (q1 + 3)) ∧ (0 < mm_len (q0 + 3)) ∧ ∀ σ19 : mm_Sg, σ19 = mm_cp σ13 (q1 + 3) 0 (q0 + 3) 0 7 → ((0 + 7 ≤ mm_len (q1 + 4)) ∧ (0 + 7 ≤ mm_len (q0 + 4)) ∧ (0 < mm_len (q1 + 4)) ∧ (0 < mm_len (q0 + 4)) ∧ ∀ σ25 : mm_Sg, σ25 = mm_cp σ19 (q1 + 4) 0 (q0 + 4) 0 7 → ((0 + 5 ≤ mm_len (q1 + 5)) ∧ (0 + 5 ≤ mm_len (q0 + 5)) ∧ (0 < mm_len (q1 + 5)) ∧ (0 < mm_len (q0 + 5)) ∧ ∀ σ31 : mm_Sg, σ31 = mm_cp σ25 (q1 + 5) 0 (q0 + 5) 0 5 → (∀ σ33 : mm_Sg, σ33 = mm_u σ31 q0 6 (σ31 q1 6) → (∀ σ35 : mm_Sg, σ35 = mm_u σ33 q0 7 (σ33 q1 7) → (∀ σ37 : mm_Sg, σ37 = mm_u σ35 q0 8 (σ35 q1 8) → (∀ σ39 : mm_Sg, σ39 = mm_u σ37 q0 9 (σ37 q1 9) → (∃ (σ41 : mm_Sg), mm_Ev mm_m_J7_fill_53178 [.ref (q0 + 6), .int (0 : Int32)] σ39 none σ41 ∧ (∀ σ43 : mm_Sg, σ43 = mm_u σ41 q0 11 (-1 : Int32) → (∀ σ45 : mm_Sg, σ45 = mm_u σ43 q0 12 (0 : Int32) → (∀ σ47 : mm_Sg, σ47 = mm_u σ45 q0 13 (0 : Int32) → (R = (none, σ47)))))))))))))))) : mm_Go mm_m_X1_becomeLike (0, [.ref q0, .ref q1], [], σ) R := by
  obtain ⟨c1, h⟩ := h
  obtain ⟨c2, h⟩ := h
  obtain ⟨c3, h⟩ := h
  obtain ⟨c4, h⟩ := h
  obtain ⟨c5, h⟩ := h
  obtain ⟨c6, h⟩ := h
  refine mm_blk (M := mm_m_X1_becomeLike) 8 (S' := (15, [.ref q0, .ref q1], [], mm_cp σ (q1 + 1) 0 (q0 + 1) 0 7)) (P := [mm_cl q1 = 1, mm_cl q0 = 1, ¬ (0 : Int32) < 0, ¬ (0 : Int32) < 0, ¬ (7 : Int32) < 0, 0 + 7 ≤ mm_len (q1 + 1), 0 + 7 ≤ mm_len (q0 + 1), 0 < mm_len (q1 + 1), 0 < mm_len (q0 + 1)]) rfl ⟨c1, c2, (by decide), (by decide), (by decide), c3, c4, c5, c6, trivial⟩ ?_
  obtain ⟨σ7, e8⟩ : ∃ z, z = mm_cp σ (q1 + 1) 0 (q0 + 1) 0 7 := ⟨_, rfl⟩
  rw [← e8]
  have h := h σ7 e8
  obtain ⟨c9, h⟩ := h
  obtain ⟨c10, h⟩ := h
  obtain ⟨c11, h⟩ := h
  obtain ⟨c12, h⟩ := h
  refine mm_blk (M := mm_m_X1_becomeLike) 8 (S' := (30, [.ref q0, .ref q1], [], mm_cp σ7 (q1 + 2) 0 (q0 + 2) 0 7)) (P := [mm_cl q1 = 1, mm_cl q0 = 1, ¬ (0 : Int32) < 0, ¬ (0 : Int32) < 0, ¬ (7 : Int32) < 0, 0 + 7 ≤ mm_len (q1 + 2), 0 + 7 ≤ mm_len (q0 + 2), 0 < mm_len (q1 + 2), 0 < mm_len (q0 + 2)]) rfl ⟨c1, c2, (by decide), (by decide), (by decide), c9, c10, c11, c12, trivial⟩ ?_
  obtain ⟨σ13, e14⟩ : ∃ z, z = mm_cp σ7 (q1 + 2) 0 (q0 + 2) 0 7 := ⟨_, rfl⟩
  rw [← e14]
  have h := h σ13 e14
  obtain ⟨c15, h⟩ := h
  obtain ⟨c16, h⟩ := h
  obtain ⟨c17, h⟩ := h
  obtain ⟨c18, h⟩ := h
  refine mm_blk (M := mm_m_X1_becomeLike) 8 (S' := (45, [.ref q0, .ref q1], [], mm_cp σ13 (q1 + 3) 0 (q0 + 3) 0 7)) (P := [mm_cl q1 = 1, mm_cl q0 = 1, ¬ (0 : Int32) < 0, ¬ (0 : Int32) < 0, ¬ (7 : Int32) < 0, 0 + 7 ≤ mm_len (q1 + 3), 0 + 7 ≤ mm_len (q0 + 3), 0 < mm_len (q1 + 3), 0 < mm_len (q0 + 3)]) rfl ⟨c1, c2, (by decide), (by decide), (by decide), c15, c16, c17, c18, trivial⟩ ?_
  obtain ⟨σ19, e20⟩ : ∃ z, z = mm_cp σ13 (q1 + 3) 0 (q0 + 3) 0 7 := ⟨_, rfl⟩
  rw [← e20]
  have h := h σ19 e20
  obtain ⟨c21, h⟩ := h
  obtain ⟨c22, h⟩ := h
  obtain ⟨c23, h⟩ := h
  obtain ⟨c24, h⟩ := h
  refine mm_blk (M := mm_m_X1_becomeLike) 8 (S' := (60, [.ref q0, .ref q1], [], mm_cp σ19 (q1 + 4) 0 (q0 + 4) 0 7)) (P := [mm_cl q1 = 1, mm_cl q0 = 1, ¬ (0 : Int32) < 0, ¬ (0 : Int32) < 0, ¬ (7 : Int32) < 0, 0 + 7 ≤ mm_len (q1 + 4), 0 + 7 ≤ mm_len (q0 + 4), 0 < mm_len (q1 + 4), 0 < mm_len (q0 + 4)]) rfl ⟨c1, c2, (by decide), (by decide), (by decide), c21, c22, c23, c24, trivial⟩ ?_
  obtain ⟨σ25, e26⟩ : ∃ z, z = mm_cp σ19 (q1 + 4) 0 (q0 + 4) 0 7 := ⟨_, rfl⟩
  rw [← e26]
  have h := h σ25 e26
  obtain ⟨c27, h⟩ := h
  obtain ⟨c28, h⟩ := h
  obtain ⟨c29, h⟩ := h
  obtain ⟨c30, h⟩ := h
  refine mm_blk (M := mm_m_X1_becomeLike) 8 (S' := (74, [.ref q0, .ref q1], [], mm_cp σ25 (q1 + 5) 0 (q0 + 5) 0 5)) (P := [mm_cl q1 = 1, mm_cl q0 = 1, ¬ (0 : Int32) < 0, ¬ (0 : Int32) < 0, ¬ (5 : Int32) < 0, 0 + 5 ≤ mm_len (q1 + 5), 0 + 5 ≤ mm_len (q0 + 5), 0 < mm_len (q1 + 5), 0 < mm_len (q0 + 5)]) rfl ⟨c1, c2, (by decide), (by decide), (by decide), c27, c28, c29, c30, trivial⟩ ?_
  obtain ⟨σ31, e32⟩ : ∃ z, z = mm_cp σ25 (q1 + 5) 0 (q0 + 5) 0 5 := ⟨_, rfl⟩
  rw [← e32]
  have h := h σ31 e32
  refine mm_blk (M := mm_m_X1_becomeLike) 4 (S' := (82, [.ref q0, .ref q1], [], mm_u σ31 q0 6 (σ31 q1 6))) (P := [mm_cl q1 = 1, mm_cl q0 = 1]) rfl ⟨c1, c2, trivial⟩ ?_
  obtain ⟨σ33, e34⟩ : ∃ z, z = mm_u σ31 q0 6 (σ31 q1 6) := ⟨_, rfl⟩
  rw [← e34]
  have h := h σ33 e34
  refine mm_blk (M := mm_m_X1_becomeLike) 4 (S' := (90, [.ref q0, .ref q1], [], mm_u σ33 q0 7 (σ33 q1 7))) (P := [mm_cl q1 = 1, mm_cl q0 = 1]) rfl ⟨c1, c2, trivial⟩ ?_
  obtain ⟨σ35, e36⟩ : ∃ z, z = mm_u σ33 q0 7 (σ33 q1 7) := ⟨_, rfl⟩
  rw [← e36]
  have h := h σ35 e36
  refine mm_blk (M := mm_m_X1_becomeLike) 4 (S' := (98, [.ref q0, .ref q1], [], mm_u σ35 q0 8 (σ35 q1 8))) (P := [mm_cl q1 = 1, mm_cl q0 = 1]) rfl ⟨c1, c2, trivial⟩ ?_
  obtain ⟨σ37, e38⟩ : ∃ z, z = mm_u σ35 q0 8 (σ35 q1 8) := ⟨_, rfl⟩
  rw [← e38]
  have h := h σ37 e38
  refine mm_blk (M := mm_m_X1_becomeLike) 4 (S' := (106, [.ref q0, .ref q1], [], mm_u σ37 q0 9 (σ37 q1 9))) (P := [mm_cl q1 = 1, mm_cl q0 = 1]) rfl ⟨c1, c2, trivial⟩ ?_
  obtain ⟨σ39, e40⟩ : ∃ z, z = mm_u σ37 q0 9 (σ37 q1 9) := ⟨_, rfl⟩
  rw [← e40]
  have h := h σ39 e40
  refine mm_blk (M := mm_m_X1_becomeLike) 3 (S' := (111, [.ref q0, .ref q1], [.int (0 : Int32), .ref (q0 + 6)], σ39)) (P := [mm_cl q0 = 1]) rfl ⟨c2, trivial⟩ ?_
  obtain ⟨σ41, e42, h⟩ := h
  refine mm_cl_ (rest := []) e42 ⟨_, _, _, rfl, rfl, mm_tb_J7_fill_53178, rfl, rfl, Nat.le_of_ble_eq_true rfl, Nat.le_of_ble_eq_true rfl, trivial⟩ ?_
  refine mm_blk (M := mm_m_X1_becomeLike) 3 (S' := (119, [.ref q0, .ref q1], [], mm_u σ41 q0 11 (-1 : Int32))) (P := [mm_cl q0 = 1]) rfl ⟨c2, trivial⟩ ?_
  obtain ⟨σ43, e44⟩ : ∃ z, z = mm_u σ41 q0 11 (-1 : Int32) := ⟨_, rfl⟩
  rw [← e44]
  have h := h σ43 e44
  refine mm_blk (M := mm_m_X1_becomeLike) 3 (S' := (124, [.ref q0, .ref q1], [], mm_u σ43 q0 12 (0 : Int32))) (P := [mm_cl q0 = 1]) rfl ⟨c2, trivial⟩ ?_
  obtain ⟨σ45, e46⟩ : ∃ z, z = mm_u σ43 q0 12 (0 : Int32) := ⟨_, rfl⟩
  rw [← e46]
  have h := h σ45 e46
  refine mm_blk (M := mm_m_X1_becomeLike) 3 (S' := (129, [.ref q0, .ref q1], [], mm_u σ45 q0 13 (0 : Int32))) (P := [mm_cl q0 = 1]) rfl ⟨c2, trivial⟩ ?_
  obtain ⟨σ47, e48⟩ : ∃ z, z = mm_u σ45 q0 13 (0 : Int32) := ⟨_, rfl⟩
  rw [← e48]
  have h := h σ47 e48
  subst h
  exact mm_rt_ ⟨_, _, _, rfl, ⟨rfl, rfl, rfl⟩⟩
end
