-- ===== PART A: goes FIRST, ahead of the names: the tables' words, and 'selects' of the private methods out of them =====
/-- a private method of a class that the tables say can be made, by its rows of tables_1 -/
def lw_okq (q : MethodName × Nat) : Prop := (q.1.cls ≠ "java/lang/invoke/MethodHandle" ∧ q.1.cls ≠ "java/lang/invoke/VarHandle") ∧ Cond.instantiable q.1.cls q.2 ∈ tables_1 ∧ Cond.privateMethod q.1 ∈ tables_1 ∧ Cond.instanceMethod q.1 ∈ tables_1
theorem lw_p0 : lw_okq (⟨"BeansOnTheOtherSide", "refusalUnless", "(II)I"⟩, 8) := ⟨⟨by decide +kernel, by decide +kernel⟩, List.mem_of_getElem? (i := 23) (by decide +kernel), List.mem_of_getElem? (i := 212) (by decide +kernel), List.mem_of_getElem? (i := 213) (by decide +kernel)⟩
theorem lw_p1 : lw_okq (⟨"BeansOnTheOtherSide$Camp", "turnsOver", "(I)Z"⟩, 14) := ⟨⟨by decide +kernel, by decide +kernel⟩, List.mem_of_getElem? (i := 31) (by decide +kernel), List.mem_of_getElem? (i := 276) (by decide +kernel), List.mem_of_getElem? (i := 277) (by decide +kernel)⟩
theorem lw_p2 : lw_okq (⟨"BeansOnTheOtherSide$Camp", "restSleepers", "()V"⟩, 14) := ⟨⟨by decide +kernel, by decide +kernel⟩, List.mem_of_getElem? (i := 31) (by decide +kernel), List.mem_of_getElem? (i := 286) (by decide +kernel), List.mem_of_getElem? (i := 287) (by decide +kernel)⟩
theorem lw_p3 : lw_okq (⟨"BeansOnTheOtherSide$Camp", "pour", "(I)V"⟩, 14) := ⟨⟨by decide +kernel, by decide +kernel⟩, List.mem_of_getElem? (i := 31) (by decide +kernel), List.mem_of_getElem? (i := 297) (by decide +kernel), List.mem_of_getElem? (i := 298) (by decide +kernel)⟩
theorem lw_p4 : lw_okq (⟨"BeansOnTheOtherSide$Camp", "endDay", "()V"⟩, 14) := ⟨⟨by decide +kernel, by decide +kernel⟩, List.mem_of_getElem? (i := 31) (by decide +kernel), List.mem_of_getElem? (i := 388) (by decide +kernel), List.mem_of_getElem? (i := 389) (by decide +kernel)⟩
theorem lw_p5 : lw_okq (⟨"BeansOnTheOtherSide", "thinkDaysOn", "(I)V"⟩, 8) := ⟨⟨by decide +kernel, by decide +kernel⟩, List.mem_of_getElem? (i := 23) (by decide +kernel), List.mem_of_getElem? (i := 446) (by decide +kernel), List.mem_of_getElem? (i := 447) (by decide +kernel)⟩
theorem lw_p6 : lw_okq (⟨"BeansOnTheOtherSide", "owedBehindWithWaker", "(III)I"⟩, 8) := ⟨⟨by decide +kernel, by decide +kernel⟩, List.mem_of_getElem? (i := 23) (by decide +kernel), List.mem_of_getElem? (i := 470) (by decide +kernel), List.mem_of_getElem? (i := 471) (by decide +kernel)⟩
theorem lw_p7 : lw_okq (⟨"BeansOnTheOtherSide", "fillMostWoken", "()V"⟩, 8) := ⟨⟨by decide +kernel, by decide +kernel⟩, List.mem_of_getElem? (i := 23) (by decide +kernel), List.mem_of_getElem? (i := 478) (by decide +kernel), List.mem_of_getElem? (i := 479) (by decide +kernel)⟩
theorem lw_p8 : lw_okq (⟨"BeansOnTheOtherSide", "mostWokenFrom", "(II)I"⟩, 8) := ⟨⟨by decide +kernel, by decide +kernel⟩, List.mem_of_getElem? (i := 23) (by decide +kernel), List.mem_of_getElem? (i := 483) (by decide +kernel), List.mem_of_getElem? (i := 484) (by decide +kernel)⟩
theorem lw_p9 : lw_okq (⟨"BeansOnTheOtherSide", "firstMatchOf", "(II)I"⟩, 8) := ⟨⟨by decide +kernel, by decide +kernel⟩, List.mem_of_getElem? (i := 23) (by decide +kernel), List.mem_of_getElem? (i := 491) (by decide +kernel), List.mem_of_getElem? (i := 492) (by decide +kernel)⟩
theorem lw_p10 : lw_okq (⟨"BeansOnTheOtherSide", "owedBehindWithMilk", "(II)I"⟩, 8) := ⟨⟨by decide +kernel, by decide +kernel⟩, List.mem_of_getElem? (i := 23) (by decide +kernel), List.mem_of_getElem? (i := 499) (by decide +kernel), List.mem_of_getElem? (i := 500) (by decide +kernel)⟩
theorem lw_p11 : lw_okq (⟨"BeansOnTheOtherSide", "owedBehindKeeping", "(II)I"⟩, 8) := ⟨⟨by decide +kernel, by decide +kernel⟩, List.mem_of_getElem? (i := 23) (by decide +kernel), List.mem_of_getElem? (i := 513) (by decide +kernel), List.mem_of_getElem? (i := 514) (by decide +kernel)⟩
theorem lw_p12 : lw_okq (⟨"BeansOnTheOtherSide", "owedBehindWithout", "(II)I"⟩, 8) := ⟨⟨by decide +kernel, by decide +kernel⟩, List.mem_of_getElem? (i := 23) (by decide +kernel), List.mem_of_getElem? (i := 547) (by decide +kernel), List.mem_of_getElem? (i := 548) (by decide +kernel)⟩
theorem lw_p13 : lw_okq (⟨"BeansOnTheOtherSide", "mindOwesAsTold", "(ILBeansOnTheOtherSide$Shelf;)Z"⟩, 8) := ⟨⟨by decide +kernel, by decide +kernel⟩, List.mem_of_getElem? (i := 23) (by decide +kernel), List.mem_of_getElem? (i := 555) (by decide +kernel), List.mem_of_getElem? (i := 556) (by decide +kernel)⟩
theorem lw_p14 : lw_okq (⟨"BeansOnTheOtherSide$Shelf", "leastOfSort", "()I"⟩, 6) := ⟨⟨by decide +kernel, by decide +kernel⟩, List.mem_of_getElem? (i := 152) (by decide +kernel), List.mem_of_getElem? (i := 563) (by decide +kernel), List.mem_of_getElem? (i := 564) (by decide +kernel)⟩
theorem lw_p15 : lw_okq (⟨"BeansOnTheOtherSide", "fillDrunkBehind", "()V"⟩, 8) := ⟨⟨by decide +kernel, by decide +kernel⟩, List.mem_of_getElem? (i := 23) (by decide +kernel), List.mem_of_getElem? (i := 572) (by decide +kernel), List.mem_of_getElem? (i := 573) (by decide +kernel)⟩
def lw_privs_1 : List (MethodName × Nat) := [(⟨"BeansOnTheOtherSide", "refusalUnless", "(II)I"⟩, 8), (⟨"BeansOnTheOtherSide$Camp", "turnsOver", "(I)Z"⟩, 14), (⟨"BeansOnTheOtherSide$Camp", "restSleepers", "()V"⟩, 14), (⟨"BeansOnTheOtherSide$Camp", "pour", "(I)V"⟩, 14), (⟨"BeansOnTheOtherSide$Camp", "endDay", "()V"⟩, 14), (⟨"BeansOnTheOtherSide", "thinkDaysOn", "(I)V"⟩, 8), (⟨"BeansOnTheOtherSide", "owedBehindWithWaker", "(III)I"⟩, 8), (⟨"BeansOnTheOtherSide", "fillMostWoken", "()V"⟩, 8), (⟨"BeansOnTheOtherSide", "mostWokenFrom", "(II)I"⟩, 8), (⟨"BeansOnTheOtherSide", "firstMatchOf", "(II)I"⟩, 8), (⟨"BeansOnTheOtherSide", "owedBehindWithMilk", "(II)I"⟩, 8), (⟨"BeansOnTheOtherSide", "owedBehindKeeping", "(II)I"⟩, 8), (⟨"BeansOnTheOtherSide", "owedBehindWithout", "(II)I"⟩, 8), (⟨"BeansOnTheOtherSide", "mindOwesAsTold", "(ILBeansOnTheOtherSide$Shelf;)Z"⟩, 8), (⟨"BeansOnTheOtherSide$Shelf", "leastOfSort", "()I"⟩, 6), (⟨"BeansOnTheOtherSide", "fillDrunkBehind", "()V"⟩, 8)]
theorem lw_r1 : ∀ q ∈ lw_privs_1, lw_okq q := List.forall_mem_cons.mpr ⟨lw_p0, List.forall_mem_cons.mpr ⟨lw_p1, List.forall_mem_cons.mpr ⟨lw_p2, List.forall_mem_cons.mpr ⟨lw_p3, List.forall_mem_cons.mpr ⟨lw_p4, List.forall_mem_cons.mpr ⟨lw_p5, List.forall_mem_cons.mpr ⟨lw_p6, List.forall_mem_cons.mpr ⟨lw_p7, List.forall_mem_cons.mpr ⟨lw_p8, List.forall_mem_cons.mpr ⟨lw_p9, List.forall_mem_cons.mpr ⟨lw_p10, List.forall_mem_cons.mpr ⟨lw_p11, List.forall_mem_cons.mpr ⟨lw_p12, List.forall_mem_cons.mpr ⟨lw_p13, List.forall_mem_cons.mpr ⟨lw_p14, List.forall_mem_cons.mpr ⟨lw_p15, fun _ h => absurd h List.not_mem_nil⟩⟩⟩⟩⟩⟩⟩⟩⟩⟩⟩⟩⟩⟩⟩⟩
theorem lw_p16 : lw_okq (⟨"BeansOnTheOtherSide", "bagsGoAsTold", "(ILBeansOnTheOtherSide$Shelf;)Z"⟩, 8) := ⟨⟨by decide +kernel, by decide +kernel⟩, List.mem_of_getElem? (i := 23) (by decide +kernel), List.mem_of_getElem? (i := 576) (by decide +kernel), List.mem_of_getElem? (i := 577) (by decide +kernel)⟩
theorem lw_p17 : lw_okq (⟨"BeansOnTheOtherSide", "gainInMind", "(I)I"⟩, 8) := ⟨⟨by decide +kernel, by decide +kernel⟩, List.mem_of_getElem? (i := 23) (by decide +kernel), List.mem_of_getElem? (i := 584) (by decide +kernel), List.mem_of_getElem? (i := 585) (by decide +kernel)⟩
theorem lw_p18 : lw_okq (⟨"BeansOnTheOtherSide", "owedBehindFalls", "(II)I"⟩, 8) := ⟨⟨by decide +kernel, by decide +kernel⟩, List.mem_of_getElem? (i := 23) (by decide +kernel), List.mem_of_getElem? (i := 596) (by decide +kernel), List.mem_of_getElem? (i := 597) (by decide +kernel)⟩
theorem lw_p19 : lw_okq (⟨"java/lang/Throwable", "fillInStackTrace", "(I)Ljava/lang/Throwable;"⟩, 6) := ⟨⟨by decide +kernel, by decide +kernel⟩, List.mem_of_getElem? (i := 771) (by decide +kernel), List.mem_of_getElem? (i := 769) (by decide +kernel), List.mem_of_getElem? (i := 770) (by decide +kernel)⟩
theorem lw_p20 : lw_okq (⟨"BeansOnTheOtherSideModel", "wrongRow", "(II)I"⟩, 19) := ⟨⟨by decide +kernel, by decide +kernel⟩, List.mem_of_getElem? (i := 846) (by decide +kernel), List.mem_of_getElem? (i := 914) (by decide +kernel), List.mem_of_getElem? (i := 915) (by decide +kernel)⟩
theorem lw_p21 : lw_okq (⟨"BeansOnTheOtherSideModel", "readsStatement", "()Z"⟩, 19) := ⟨⟨by decide +kernel, by decide +kernel⟩, List.mem_of_getElem? (i := 846) (by decide +kernel), List.mem_of_getElem? (i := 924) (by decide +kernel), List.mem_of_getElem? (i := 925) (by decide +kernel)⟩
theorem lw_p22 : lw_okq (⟨"BeansOnTheOtherSideModel", "here", "()I"⟩, 19) := ⟨⟨by decide +kernel, by decide +kernel⟩, List.mem_of_getElem? (i := 846) (by decide +kernel), List.mem_of_getElem? (i := 928) (by decide +kernel), List.mem_of_getElem? (i := 929) (by decide +kernel)⟩
theorem lw_p23 : lw_okq (⟨"BeansOnTheOtherSideModel", "readsNumber", "(II)Z"⟩, 19) := ⟨⟨by decide +kernel, by decide +kernel⟩, List.mem_of_getElem? (i := 846) (by decide +kernel), List.mem_of_getElem? (i := 932) (by decide +kernel), List.mem_of_getElem? (i := 933) (by decide +kernel)⟩
theorem lw_p24 : lw_okq (⟨"BeansOnTheOtherSideModel", "isDone", "(I)Z"⟩, 19) := ⟨⟨by decide +kernel, by decide +kernel⟩, List.mem_of_getElem? (i := 846) (by decide +kernel), List.mem_of_getElem? (i := 939) (by decide +kernel), List.mem_of_getElem? (i := 940) (by decide +kernel)⟩
theorem lw_p25 : lw_okq (⟨"BeansOnTheOtherSideModel", "adds", "(III)V"⟩, 19) := ⟨⟨by decide +kernel, by decide +kernel⟩, List.mem_of_getElem? (i := 846) (by decide +kernel), List.mem_of_getElem? (i := 949) (by decide +kernel), List.mem_of_getElem? (i := 950) (by decide +kernel)⟩
theorem lw_p26 : lw_okq (⟨"BeansOnTheOtherSideModel", "isDrinker", "(I)Z"⟩, 19) := ⟨⟨by decide +kernel, by decide +kernel⟩, List.mem_of_getElem? (i := 846) (by decide +kernel), List.mem_of_getElem? (i := 956) (by decide +kernel), List.mem_of_getElem? (i := 957) (by decide +kernel)⟩
theorem lw_p27 : lw_okq (⟨"BeansOnTheOtherSideModel", "daysOn", "([II)V"⟩, 19) := ⟨⟨by decide +kernel, by decide +kernel⟩, List.mem_of_getElem? (i := 846) (by decide +kernel), List.mem_of_getElem? (i := 960) (by decide +kernel), List.mem_of_getElem? (i := 961) (by decide +kernel)⟩
theorem lw_p28 : lw_okq (⟨"BeansOnTheOtherSideModel", "day", "([I)V"⟩, 19) := ⟨⟨by decide +kernel, by decide +kernel⟩, List.mem_of_getElem? (i := 846) (by decide +kernel), List.mem_of_getElem? (i := 964) (by decide +kernel), List.mem_of_getElem? (i := 965) (by decide +kernel)⟩
theorem lw_p29 : lw_okq (⟨"BeansOnTheOtherSideModel", "drinks", "([II)V"⟩, 19) := ⟨⟨by decide +kernel, by decide +kernel⟩, List.mem_of_getElem? (i := 846) (by decide +kernel), List.mem_of_getElem? (i := 980) (by decide +kernel), List.mem_of_getElem? (i := 981) (by decide +kernel)⟩
theorem lw_p30 : lw_okq (⟨"BeansOnTheOtherSideModel", "nextOf", "(I)I"⟩, 19) := ⟨⟨by decide +kernel, by decide +kernel⟩, List.mem_of_getElem? (i := 846) (by decide +kernel), List.mem_of_getElem? (i := 1003) (by decide +kernel), List.mem_of_getElem? (i := 1004) (by decide +kernel)⟩
theorem lw_p31 : lw_okq (⟨"BeansOnTheOtherSideModel", "manyOf", "(I)I"⟩, 19) := ⟨⟨by decide +kernel, by decide +kernel⟩, List.mem_of_getElem? (i := 846) (by decide +kernel), List.mem_of_getElem? (i := 1011) (by decide +kernel), List.mem_of_getElem? (i := 1012) (by decide +kernel)⟩
def lw_privs_2 : List (MethodName × Nat) := [(⟨"BeansOnTheOtherSide", "bagsGoAsTold", "(ILBeansOnTheOtherSide$Shelf;)Z"⟩, 8), (⟨"BeansOnTheOtherSide", "gainInMind", "(I)I"⟩, 8), (⟨"BeansOnTheOtherSide", "owedBehindFalls", "(II)I"⟩, 8), (⟨"java/lang/Throwable", "fillInStackTrace", "(I)Ljava/lang/Throwable;"⟩, 6), (⟨"BeansOnTheOtherSideModel", "wrongRow", "(II)I"⟩, 19), (⟨"BeansOnTheOtherSideModel", "readsStatement", "()Z"⟩, 19), (⟨"BeansOnTheOtherSideModel", "here", "()I"⟩, 19), (⟨"BeansOnTheOtherSideModel", "readsNumber", "(II)Z"⟩, 19), (⟨"BeansOnTheOtherSideModel", "isDone", "(I)Z"⟩, 19), (⟨"BeansOnTheOtherSideModel", "adds", "(III)V"⟩, 19), (⟨"BeansOnTheOtherSideModel", "isDrinker", "(I)Z"⟩, 19), (⟨"BeansOnTheOtherSideModel", "daysOn", "([II)V"⟩, 19), (⟨"BeansOnTheOtherSideModel", "day", "([I)V"⟩, 19), (⟨"BeansOnTheOtherSideModel", "drinks", "([II)V"⟩, 19), (⟨"BeansOnTheOtherSideModel", "nextOf", "(I)I"⟩, 19), (⟨"BeansOnTheOtherSideModel", "manyOf", "(I)I"⟩, 19)]
theorem lw_r2 : ∀ q ∈ lw_privs_2, lw_okq q := List.forall_mem_cons.mpr ⟨lw_p16, List.forall_mem_cons.mpr ⟨lw_p17, List.forall_mem_cons.mpr ⟨lw_p18, List.forall_mem_cons.mpr ⟨lw_p19, List.forall_mem_cons.mpr ⟨lw_p20, List.forall_mem_cons.mpr ⟨lw_p21, List.forall_mem_cons.mpr ⟨lw_p22, List.forall_mem_cons.mpr ⟨lw_p23, List.forall_mem_cons.mpr ⟨lw_p24, List.forall_mem_cons.mpr ⟨lw_p25, List.forall_mem_cons.mpr ⟨lw_p26, List.forall_mem_cons.mpr ⟨lw_p27, List.forall_mem_cons.mpr ⟨lw_p28, List.forall_mem_cons.mpr ⟨lw_p29, List.forall_mem_cons.mpr ⟨lw_p30, List.forall_mem_cons.mpr ⟨lw_p31, fun _ h => absurd h List.not_mem_nil⟩⟩⟩⟩⟩⟩⟩⟩⟩⟩⟩⟩⟩⟩⟩⟩
theorem lw_p32 : lw_okq (⟨"BeansOnTheOtherSideModel", "wrongKept", "(I)I"⟩, 19) := ⟨⟨by decide +kernel, by decide +kernel⟩, List.mem_of_getElem? (i := 846) (by decide +kernel), List.mem_of_getElem? (i := 1019) (by decide +kernel), List.mem_of_getElem? (i := 1020) (by decide +kernel)⟩
theorem lw_p33 : lw_okq (⟨"BeansOnTheOtherSideModel", "sets", "(II)I"⟩, 19) := ⟨⟨by decide +kernel, by decide +kernel⟩, List.mem_of_getElem? (i := 846) (by decide +kernel), List.mem_of_getElem? (i := 1027) (by decide +kernel), List.mem_of_getElem? (i := 1028) (by decide +kernel)⟩
theorem lw_p34 : lw_okq (⟨"BeansOnTheOtherSideModel", "takes", "(I)V"⟩, 19) := ⟨⟨by decide +kernel, by decide +kernel⟩, List.mem_of_getElem? (i := 846) (by decide +kernel), List.mem_of_getElem? (i := 1057) (by decide +kernel), List.mem_of_getElem? (i := 1058) (by decide +kernel)⟩
theorem lw_p35 : lw_okq (⟨"BeansOnTheOtherSideModel", "matches", "()V"⟩, 19) := ⟨⟨by decide +kernel, by decide +kernel⟩, List.mem_of_getElem? (i := 846) (by decide +kernel), List.mem_of_getElem? (i := 1086) (by decide +kernel), List.mem_of_getElem? (i := 1087) (by decide +kernel)⟩
theorem lw_p36 : lw_okq (⟨"BeansOnTheOtherSideModel", "canWake", "(II)Z"⟩, 19) := ⟨⟨by decide +kernel, by decide +kernel⟩, List.mem_of_getElem? (i := 846) (by decide +kernel), List.mem_of_getElem? (i := 1090) (by decide +kernel), List.mem_of_getElem? (i := 1091) (by decide +kernel)⟩
theorem lw_p37 : lw_okq (⟨"BeansOnTheOtherSideModel", "wakerOf", "(II)I"⟩, 19) := ⟨⟨by decide +kernel, by decide +kernel⟩, List.mem_of_getElem? (i := 846) (by decide +kernel), List.mem_of_getElem? (i := 1094) (by decide +kernel), List.mem_of_getElem? (i := 1095) (by decide +kernel)⟩
theorem lw_p38 : lw_okq (⟨"BeansOnTheOtherSideModel", "owedNow", "(I)I"⟩, 19) := ⟨⟨by decide +kernel, by decide +kernel⟩, List.mem_of_getElem? (i := 846) (by decide +kernel), List.mem_of_getElem? (i := 1102) (by decide +kernel), List.mem_of_getElem? (i := 1103) (by decide +kernel)⟩
theorem lw_p39 : lw_okq (⟨"BeansOnTheOtherSideModel", "isTold", "(III)Z"⟩, 19) := ⟨⟨by decide +kernel, by decide +kernel⟩, List.mem_of_getElem? (i := 846) (by decide +kernel), List.mem_of_getElem? (i := 1129) (by decide +kernel), List.mem_of_getElem? (i := 1130) (by decide +kernel)⟩
theorem lw_p40 : lw_okq (⟨"BeansOnTheOtherSideModel", "isShedSo", "(II)Z"⟩, 19) := ⟨⟨by decide +kernel, by decide +kernel⟩, List.mem_of_getElem? (i := 846) (by decide +kernel), List.mem_of_getElem? (i := 1141) (by decide +kernel), List.mem_of_getElem? (i := 1142) (by decide +kernel)⟩
theorem lw_p41 : lw_okq (⟨"BeansOnTheOtherSideModel", "hasBy", "(IIIIII)I"⟩, 19) := ⟨⟨by decide +kernel, by decide +kernel⟩, List.mem_of_getElem? (i := 846) (by decide +kernel), List.mem_of_getElem? (i := 1149) (by decide +kernel), List.mem_of_getElem? (i := 1150) (by decide +kernel)⟩
theorem lw_p42 : lw_okq (⟨"BeansOnTheOtherSideModel", "drawn", "(I)I"⟩, 19) := ⟨⟨by decide +kernel, by decide +kernel⟩, List.mem_of_getElem? (i := 846) (by decide +kernel), List.mem_of_getElem? (i := 1184) (by decide +kernel), List.mem_of_getElem? (i := 1185) (by decide +kernel)⟩
def lw_privs_3 : List (MethodName × Nat) := [(⟨"BeansOnTheOtherSideModel", "wrongKept", "(I)I"⟩, 19), (⟨"BeansOnTheOtherSideModel", "sets", "(II)I"⟩, 19), (⟨"BeansOnTheOtherSideModel", "takes", "(I)V"⟩, 19), (⟨"BeansOnTheOtherSideModel", "matches", "()V"⟩, 19), (⟨"BeansOnTheOtherSideModel", "canWake", "(II)Z"⟩, 19), (⟨"BeansOnTheOtherSideModel", "wakerOf", "(II)I"⟩, 19), (⟨"BeansOnTheOtherSideModel", "owedNow", "(I)I"⟩, 19), (⟨"BeansOnTheOtherSideModel", "isTold", "(III)Z"⟩, 19), (⟨"BeansOnTheOtherSideModel", "isShedSo", "(II)Z"⟩, 19), (⟨"BeansOnTheOtherSideModel", "hasBy", "(IIIIII)I"⟩, 19), (⟨"BeansOnTheOtherSideModel", "drawn", "(I)I"⟩, 19)]
theorem lw_r3 : ∀ q ∈ lw_privs_3, lw_okq q := List.forall_mem_cons.mpr ⟨lw_p32, List.forall_mem_cons.mpr ⟨lw_p33, List.forall_mem_cons.mpr ⟨lw_p34, List.forall_mem_cons.mpr ⟨lw_p35, List.forall_mem_cons.mpr ⟨lw_p36, List.forall_mem_cons.mpr ⟨lw_p37, List.forall_mem_cons.mpr ⟨lw_p38, List.forall_mem_cons.mpr ⟨lw_p39, List.forall_mem_cons.mpr ⟨lw_p40, List.forall_mem_cons.mpr ⟨lw_p41, List.forall_mem_cons.mpr ⟨lw_p42, fun _ h => absurd h List.not_mem_nil⟩⟩⟩⟩⟩⟩⟩⟩⟩⟩⟩
def lw_privs : List (MethodName × Nat) := lw_privs_1 ++ (lw_privs_2 ++ (lw_privs_3))
def lw_tbl : List Cond := k2_sels lw_privs ++ tables_1
theorem lw_privs_ok : ∀ q ∈ lw_privs, lw_okq q := by
  show ∀ q ∈ lw_privs_1 ++ (lw_privs_2 ++ (lw_privs_3)), lw_okq q
  exact List.forall_mem_append.mpr ⟨lw_r1, List.forall_mem_append.mpr ⟨lw_r2, lw_r3⟩⟩
def RX0 : String := "BeansOnTheOtherSide$Banker"
def TX0 : u_T := fun k => match k with
  | _ => ("", "", "", false)
def tyX0 : Nat → FieldType := fun k => match k with
  | _ => .int
abbrev wsX00 : List Cond := u_ws RX0 TX0 0
theorem nmX0 : ∀ a, a < 0 → ∀ b, b < 0 → a ≠ b → (TX0 a).2.1 ≠ (TX0 b).2.1 := by decide +kernel
theorem tyX0_ok : ∀ k, k < 0 → parseFieldDescriptor (TX0 k).2.2.1 = some (tyX0 k) := by decide +kernel
def RX1 : String := "BeansOnTheOtherSide$Camp"
def TX1 : u_T := fun k => match k with
  | 0 => ("BeansOnTheOtherSide$Camp", "kinds", "[LBeansOnTheOtherSide$Drinker;", true)
  | 1 => ("BeansOnTheOtherSide$Camp", "kind", "[I", true)
  | 2 => ("BeansOnTheOtherSide$Camp", "figure", "[I", true)
  | 3 => ("BeansOnTheOtherSide$Camp", "waker", "[I", true)
  | 4 => ("BeansOnTheOtherSide$Camp", "owes", "[I", true)
  | 5 => ("BeansOnTheOtherSide$Camp", "tired", "[I", true)
  | 6 => ("BeansOnTheOtherSide$Camp", "people", "I", false)
  | 7 => ("BeansOnTheOtherSide$Camp", "asleep", "I", false)
  | 8 => ("BeansOnTheOtherSide$Camp", "bagsLeft", "I", false)
  | 9 => ("BeansOnTheOtherSide$Camp", "day", "I", false)
  | 10 => ("BeansOnTheOtherSide$Camp", "drunk", "[I", true)
  | 11 => ("BeansOnTheOtherSide$Camp", "halved", "I", false)
  | 12 => ("BeansOnTheOtherSide$Camp", "dry", "I", false)
  | _ => ("BeansOnTheOtherSide$Camp", "asleepForEver", "I", false)
def tyX1 : Nat → FieldType := fun k => match k with
  | 0 => .array (.object "BeansOnTheOtherSide$Drinker")
  | 1 => .array .int
  | 2 => .array .int
  | 3 => .array .int
  | 4 => .array .int
  | 5 => .array .int
  | 6 => .int
  | 7 => .int
  | 8 => .int
  | 9 => .int
  | 10 => .array .int
  | 11 => .int
  | 12 => .int
  | _ => .int
abbrev wsX10 : List Cond := u_ws RX1 TX1 14
theorem nmX1 : ∀ a, a < 14 → ∀ b, b < 14 → a ≠ b → (TX1 a).2.1 ≠ (TX1 b).2.1 := by decide +kernel
theorem tyX1_ok : ∀ k, k < 14 → parseFieldDescriptor (TX1 k).2.2.1 = some (tyX1 k) := by decide +kernel
def RX2 : String := "BeansOnTheOtherSide$Captain"
def TX2 : u_T := fun k => match k with
  | _ => ("", "", "", false)
def tyX2 : Nat → FieldType := fun k => match k with
  | _ => .int
abbrev wsX20 : List Cond := u_ws RX2 TX2 0
theorem nmX2 : ∀ a, a < 0 → ∀ b, b < 0 → a ≠ b → (TX2 a).2.1 ≠ (TX2 b).2.1 := by decide +kernel
theorem tyX2_ok : ∀ k, k < 0 → parseFieldDescriptor (TX2 k).2.2.1 = some (tyX2 k) := by decide +kernel
def RX3 : String := "BeansOnTheOtherSide$Clerk"
def TX3 : u_T := fun k => match k with
  | _ => ("", "", "", false)
def tyX3 : Nat → FieldType := fun k => match k with
  | _ => .int
abbrev wsX30 : List Cond := u_ws RX3 TX3 0
theorem nmX3 : ∀ a, a < 0 → ∀ b, b < 0 → a ≠ b → (TX3 a).2.1 ≠ (TX3 b).2.1 := by decide +kernel
theorem tyX3_ok : ∀ k, k < 0 → parseFieldDescriptor (TX3 k).2.2.1 = some (tyX3 k) := by decide +kernel
def RX4 : String := "BeansOnTheOtherSide$Drinker"
def TX4 : u_T := fun k => match k with
  | _ => ("", "", "", false)
def tyX4 : Nat → FieldType := fun k => match k with
  | _ => .int
abbrev wsX40 : List Cond := u_ws RX4 TX4 0
theorem nmX4 : ∀ a, a < 0 → ∀ b, b < 0 → a ≠ b → (TX4 a).2.1 ≠ (TX4 b).2.1 := by decide +kernel
theorem tyX4_ok : ∀ k, k < 0 → parseFieldDescriptor (TX4 k).2.2.1 = some (tyX4 k) := by decide +kernel
def RX5 : String := "BeansOnTheOtherSide$Lover"
def TX5 : u_T := fun k => match k with
  | _ => ("", "", "", false)
def tyX5 : Nat → FieldType := fun k => match k with
  | _ => .int
abbrev wsX50 : List Cond := u_ws RX5 TX5 0
theorem nmX5 : ∀ a, a < 0 → ∀ b, b < 0 → a ≠ b → (TX5 a).2.1 ≠ (TX5 b).2.1 := by decide +kernel
theorem tyX5_ok : ∀ k, k < 0 → parseFieldDescriptor (TX5 k).2.2.1 = some (tyX5 k) := by decide +kernel
def RX6 : String := "BeansOnTheOtherSide$Nurse"
def TX6 : u_T := fun k => match k with
  | _ => ("", "", "", false)
def tyX6 : Nat → FieldType := fun k => match k with
  | _ => .int
abbrev wsX60 : List Cond := u_ws RX6 TX6 0
theorem nmX6 : ∀ a, a < 0 → ∀ b, b < 0 → a ≠ b → (TX6 a).2.1 ≠ (TX6 b).2.1 := by decide +kernel
theorem tyX6_ok : ∀ k, k < 0 → parseFieldDescriptor (TX6 k).2.2.1 = some (tyX6 k) := by decide +kernel
def RX7 : String := "BeansOnTheOtherSide$Saint"
def TX7 : u_T := fun k => match k with
  | _ => ("", "", "", false)
def tyX7 : Nat → FieldType := fun k => match k with
  | _ => .int
abbrev wsX70 : List Cond := u_ws RX7 TX7 0
theorem nmX7 : ∀ a, a < 0 → ∀ b, b < 0 → a ≠ b → (TX7 a).2.1 ≠ (TX7 b).2.1 := by decide +kernel
theorem tyX7_ok : ∀ k, k < 0 → parseFieldDescriptor (TX7 k).2.2.1 = some (tyX7 k) := by decide +kernel
def RX8 : String := "BeansOnTheOtherSide$Shelf"
def TX8 : u_T := fun k => match k with
  | 0 => ("BeansOnTheOtherSide$Shelf", "holds", "I", false)
  | 1 => ("BeansOnTheOtherSide$Shelf", "kind", "I", false)
  | 2 => ("BeansOnTheOtherSide$Shelf", "figure", "I", false)
  | 3 => ("BeansOnTheOtherSide$Shelf", "sort", "I", false)
  | 4 => ("BeansOnTheOtherSide$Shelf", "size", "I", false)
  | _ => ("BeansOnTheOtherSide$Shelf", "elements", "[I", true)
def tyX8 : Nat → FieldType := fun k => match k with
  | 0 => .int
  | 1 => .int
  | 2 => .int
  | 3 => .int
  | 4 => .int
  | _ => .array .int
abbrev wsX80 : List Cond := u_ws RX8 TX8 6
theorem nmX8 : ∀ a, a < 6 → ∀ b, b < 6 → a ≠ b → (TX8 a).2.1 ≠ (TX8 b).2.1 := by decide +kernel
theorem tyX8_ok : ∀ k, k < 6 → parseFieldDescriptor (TX8 k).2.2.1 = some (tyX8 k) := by decide +kernel
def RX9 : String := "BeansOnTheOtherSide$Smuggler"
def TX9 : u_T := fun k => match k with
  | _ => ("", "", "", false)
def tyX9 : Nat → FieldType := fun k => match k with
  | _ => .int
abbrev wsX90 : List Cond := u_ws RX9 TX9 0
theorem nmX9 : ∀ a, a < 0 → ∀ b, b < 0 → a ≠ b → (TX9 a).2.1 ≠ (TX9 b).2.1 := by decide +kernel
theorem tyX9_ok : ∀ k, k < 0 → parseFieldDescriptor (TX9 k).2.2.1 = some (tyX9 k) := by decide +kernel
def RX10 : String := "BeansOnTheOtherSide"
def TX10 : u_T := fun k => match k with
  | 0 => ("BeansOnTheOtherSide", "now", "LBeansOnTheOtherSide$Camp;", true)
  | 1 => ("BeansOnTheOtherSide", "image", "LBeansOnTheOtherSide$Camp;", true)
  | 2 => ("BeansOnTheOtherSide", "mind", "LBeansOnTheOtherSide$Camp;", true)
  | 3 => ("BeansOnTheOtherSide", "shelves", "[LBeansOnTheOtherSide$Shelf;", true)
  | 4 => ("BeansOnTheOtherSide", "mostWoken", "[I", true)
  | 5 => ("BeansOnTheOtherSide", "drunkBehind", "[I", true)
  | 6 => ("BeansOnTheOtherSide", "gains", "[I", true)
  | _ => ("BeansOnTheOtherSide", "imageTaken", "Z", false)
def tyX10 : Nat → FieldType := fun k => match k with
  | 0 => .object "BeansOnTheOtherSide$Camp"
  | 1 => .object "BeansOnTheOtherSide$Camp"
  | 2 => .object "BeansOnTheOtherSide$Camp"
  | 3 => .array (.object "BeansOnTheOtherSide$Shelf")
  | 4 => .array .int
  | 5 => .array .int
  | 6 => .array .int
  | _ => .boolean
abbrev wsX100 : List Cond := u_ws RX10 TX10 8
theorem nmX10 : ∀ a, a < 8 → ∀ b, b < 8 → a ≠ b → (TX10 a).2.1 ≠ (TX10 b).2.1 := by decide +kernel
theorem tyX10_ok : ∀ k, k < 8 → parseFieldDescriptor (TX10 k).2.2.1 = some (tyX10 k) := by decide +kernel
def RX11 : String := "BeansOnTheOtherSideModel"
def TX11 : u_T := fun k => match k with
  | 0 => ("BeansOnTheOtherSideModel", "s", "[I", true)
  | 1 => ("BeansOnTheOtherSideModel", "m", "[I", true)
  | 2 => ("BeansOnTheOtherSideModel", "image", "[I", true)
  | 3 => ("BeansOnTheOtherSideModel", "was", "[I", true)
  | 4 => ("BeansOnTheOtherSideModel", "drunk", "[I", true)
  | 5 => ("BeansOnTheOtherSideModel", "hasImage", "Z", false)
  | 6 => ("BeansOnTheOtherSideModel", "place", "I", false)
  | 7 => ("BeansOnTheOtherSideModel", "rowAt", "I", false)
  | 8 => ("BeansOnTheOtherSideModel", "rowEnd", "I", false)
  | 9 => ("BeansOnTheOtherSideModel", "numbers", "[I", true)
  | 10 => ("BeansOnTheOtherSideModel", "most", "[I", true)
  | 11 => ("BeansOnTheOtherSideModel", "seed", "I", false)
  | 12 => ("BeansOnTheOtherSideModel", "kept", "[I", true)
  | 13 => ("BeansOnTheOtherSideModel", "keptKind", "[I", true)
  | 14 => ("BeansOnTheOtherSideModel", "keptFigure", "[I", true)
  | 15 => ("BeansOnTheOtherSideModel", "sort", "[I", true)
  | 16 => ("BeansOnTheOtherSideModel", "size", "[I", true)
  | 17 => ("BeansOnTheOtherSideModel", "element", "[I", true)
  | _ => ("BeansOnTheOtherSideModel", "thrown", "I", false)
def tyX11 : Nat → FieldType := fun k => match k with
  | 0 => .array .int
  | 1 => .array .int
  | 2 => .array .int
  | 3 => .array .int
  | 4 => .array .int
  | 5 => .boolean
  | 6 => .int
  | 7 => .int
  | 8 => .int
  | 9 => .array .int
  | 10 => .array .int
  | 11 => .int
  | 12 => .array .int
  | 13 => .array .int
  | 14 => .array .int
  | 15 => .array .int
  | 16 => .array .int
  | 17 => .array .int
  | _ => .int
abbrev wsX110 : List Cond := u_ws RX11 TX11 19
theorem nmX11 : ∀ a, a < 19 → ∀ b, b < 19 → a ≠ b → (TX11 a).2.1 ≠ (TX11 b).2.1 := by decide +kernel
theorem tyX11_ok : ∀ k, k < 19 → parseFieldDescriptor (TX11 k).2.2.1 = some (tyX11 k) := by decide +kernel
abbrev mm_cls : List vw_C := [(RX0, TX0, 0), (RX1, TX1, 14), (RX2, TX2, 0), (RX3, TX3, 0), (RX4, TX4, 0), (RX5, TX5, 0), (RX6, TX6, 0), (RX7, TX7, 0), (RX8, TX8, 6), (RX9, TX9, 0), (RX10, TX10, 8), (RX11, TX11, 19)]
def yX0_cupsOn : MethodName := ⟨RX0, "cupsOn", "(II)I"⟩
def yX0_tiringFor : MethodName := ⟨RX0, "tiringFor", "(II)I"⟩
def yX0_debtFor : MethodName := ⟨RX0, "debtFor", "(II)I"⟩
def yX0_priceOf : MethodName := ⟨RX0, "priceOf", "(I)I"⟩
def yX0_failureOf : MethodName := ⟨RX0, "failureOf", "(I)I"⟩
def yX1_becomeLike : MethodName := ⟨RX1, "becomeLike", "(LBeansOnTheOtherSide$Camp;)V"⟩
def yX1_has : MethodName := ⟨RX1, "has", "(I)Z"⟩
def yX1_kindNumbered : MethodName := ⟨RX1, "kindNumbered", "(I)LBeansOnTheOtherSide$Drinker;"⟩
def yX1_isAwake : MethodName := ⟨RX1, "isAwake", "(I)Z"⟩
def yX1_joins : MethodName := ⟨RX1, "joins", "(III)Z"⟩
def yX1_thirstOf : MethodName := ⟨RX1, "thirstOf", "(II)I"⟩
def yX1_thirstOfAll : MethodName := ⟨RX1, "thirstOfAll", "(I)I"⟩
def yX1_goDays : MethodName := ⟨RX1, "goDays", "(I)V"⟩
def yX1_restSleepers : MethodName := ⟨RX1, "restSleepers", "()V"⟩
def yX1_pour : MethodName := ⟨RX1, "pour", "(I)V"⟩
def yX1_endDay : MethodName := ⟨RX1, "endDay", "()V"⟩
def yX1_obeys : MethodName := ⟨RX1, "obeys", "(LBeansOnTheOtherSide$Shelf;I)Z"⟩
def yX1_turnsOver : MethodName := ⟨RX1, "turnsOver", "(I)Z"⟩
def yX1_setIn : MethodName := ⟨RX1, "setIn", "([III)Z"⟩
def yX1_owedInAll : MethodName := ⟨RX1, "owedInAll", "()I"⟩
def yX1_tiredInAll : MethodName := ⟨RX1, "tiredInAll", "()I"⟩
def yX1_drinkersOf : MethodName := ⟨RX1, "drinkersOf", "(I)I"⟩
def yX1_heaviestWaker : MethodName := ⟨RX1, "heaviestWaker", "()I"⟩
def yX1_deepestDrinker : MethodName := ⟨RX1, "deepestDrinker", "()I"⟩
def yX1_aloneBits : MethodName := ⟨RX1, "aloneBits", "()I"⟩
def yX2_cupsOn : MethodName := ⟨RX2, "cupsOn", "(II)I"⟩
def yX2_priceOf : MethodName := ⟨RX2, "priceOf", "(I)I"⟩
def yX3_cupsOn : MethodName := ⟨RX3, "cupsOn", "(II)I"⟩
def yX3_tiringFor : MethodName := ⟨RX3, "tiringFor", "(II)I"⟩
def yX3_priceOf : MethodName := ⟨RX3, "priceOf", "(I)I"⟩
def yX4_cupsOn : MethodName := ⟨RX4, "cupsOn", "(II)I"⟩
def yX4_tiringFor : MethodName := ⟨RX4, "tiringFor", "(II)I"⟩
def yX4_debtFor : MethodName := ⟨RX4, "debtFor", "(II)I"⟩
def yX4_priceOf : MethodName := ⟨RX4, "priceOf", "(I)I"⟩
def yX4_failureOf : MethodName := ⟨RX4, "failureOf", "(I)I"⟩
def yX5_cupsOn : MethodName := ⟨RX5, "cupsOn", "(II)I"⟩
def yX5_tiringFor : MethodName := ⟨RX5, "tiringFor", "(II)I"⟩
def yX6_cupsOn : MethodName := ⟨RX6, "cupsOn", "(II)I"⟩
def yX6_tiringFor : MethodName := ⟨RX6, "tiringFor", "(II)I"⟩
def yX6_priceOf : MethodName := ⟨RX6, "priceOf", "(I)I"⟩
def yX7_cupsOn : MethodName := ⟨RX7, "cupsOn", "(II)I"⟩
def yX7_tiringFor : MethodName := ⟨RX7, "tiringFor", "(II)I"⟩
def yX7_debtFor : MethodName := ⟨RX7, "debtFor", "(II)I"⟩
def yX7_priceOf : MethodName := ⟨RX7, "priceOf", "(I)I"⟩
def yX8_becomeRow : MethodName := ⟨RX8, "becomeRow", "(II)V"⟩
def yX8_hasPlace : MethodName := ⟨RX8, "hasPlace", "(I)Z"⟩
def yX8_hasPlaces : MethodName := ⟨RX8, "hasPlaces", "(II)Z"⟩
def yX8_at : MethodName := ⟨RX8, "at", "(I)I"⟩
def yX8_setAt : MethodName := ⟨RX8, "setAt", "(II)V"⟩
def yX8_numberAt : MethodName := ⟨RX8, "numberAt", "(II)I"⟩
def yX8_leastOfSort : MethodName := ⟨RX8, "leastOfSort", "()I"⟩
def yX8_allows : MethodName := ⟨RX8, "allows", "(II)Z"⟩
def yX9_cupsOn : MethodName := ⟨RX9, "cupsOn", "(II)I"⟩
def yX9_tiringFor : MethodName := ⟨RX9, "tiringFor", "(II)I"⟩
def yX9_debtFor : MethodName := ⟨RX9, "debtFor", "(II)I"⟩
def yX9_priceOf : MethodName := ⟨RX9, "priceOf", "(I)I"⟩
def yX9_failureOf : MethodName := ⟨RX9, "failureOf", "(I)I"⟩
def yX10_treaty : MethodName := ⟨RX10, "treaty", "(I)I"⟩
def yX10_drinker : MethodName := ⟨RX10, "drinker", "(II)I"⟩
def yX10_waker : MethodName := ⟨RX10, "waker", "(II)I"⟩
def yX10_comes : MethodName := ⟨RX10, "comes", "(II)I"⟩
def yX10_wakes : MethodName := ⟨RX10, "wakes", "(II)I"⟩
def yX10_tires : MethodName := ⟨RX10, "tires", "(II)I"⟩
def yX10_sleeps : MethodName := ⟨RX10, "sleeps", "(I)I"⟩
def yX10_bags : MethodName := ⟨RX10, "bags", "(I)I"⟩
def yX10_days : MethodName := ⟨RX10, "days", "(I)I"⟩
def yX10_owesThen : MethodName := ⟨RX10, "owesThen", "(II)I"⟩
def yX10_tiredThen : MethodName := ⟨RX10, "tiredThen", "(II)I"⟩
def yX10_then : MethodName := ⟨RX10, "then", "(II)I"⟩
def yX10_firstAsleep : MethodName := ⟨RX10, "firstAsleep", "(I)I"⟩
def yX10_out : MethodName := ⟨RX10, "out", "()I"⟩
def yX10_bestWaker : MethodName := ⟨RX10, "bestWaker", "(III)I"⟩
def yX10_match : MethodName := ⟨RX10, "match", "(I)I"⟩
def yX10_milk : MethodName := ⟨RX10, "milk", "(I)I"⟩
def yX10_fewest : MethodName := ⟨RX10, "fewest", "(I)I"⟩
def yX10_store : MethodName := ⟨RX10, "store", "(I)I"⟩
def yX10_heaviest : MethodName := ⟨RX10, "heaviest", "(I)I"⟩
def yX10_rest : MethodName := ⟨RX10, "rest", "(II)I"⟩
def yX10_whatIs : MethodName := ⟨RX10, "whatIs", "(III)I"⟩
def yX10_shed : MethodName := ⟨RX10, "shed", "(II)I"⟩
def yX10_two : MethodName := ⟨RX10, "two", "(III)I"⟩
def yX10_falls : MethodName := ⟨RX10, "falls", "(IIII)J"⟩
def yX10_mean : MethodName := ⟨RX10, "mean", "(I)J"⟩
def yX10_forged : MethodName := ⟨RX10, "forged", "(I)I"⟩
def yX10_judge : MethodName := ⟨RX10, "judge", "(I)I"⟩
def yX10_years : MethodName := ⟨RX10, "years", "(III)I"⟩
def yX10_image : MethodName := ⟨RX10, "image", "()I"⟩
def yX10_restore : MethodName := ⟨RX10, "restore", "()I"⟩
def yX10_count : MethodName := ⟨RX10, "count", "(I)I"⟩
def yX10_keep : MethodName := ⟨RX10, "keep", "(IIII)I"⟩
def yX10_row : MethodName := ⟨RX10, "row", "(III)I"⟩
def yX10_put : MethodName := ⟨RX10, "put", "(III)I"⟩
def yX10_copy : MethodName := ⟨RX10, "copy", "(IIIII)I"⟩
def yX10_cost : MethodName := ⟨RX10, "cost", "(I)I"⟩
def yX10_isBetween : MethodName := ⟨RX10, "isBetween", "(III)Z"⟩
def yX10_isWaker : MethodName := ⟨RX10, "isWaker", "(I)Z"⟩
def yX10_isWakerOrNobody : MethodName := ⟨RX10, "isWakerOrNobody", "(I)Z"⟩
def yX10_isShelf : MethodName := ⟨RX10, "isShelf", "(I)Z"⟩
def yX10_refusalUnless : MethodName := ⟨RX10, "refusalUnless", "(II)I"⟩
def yX10_refusedLong : MethodName := ⟨RX10, "refusedLong", "(I)J"⟩
def yX10_digitsBehind : MethodName := ⟨RX10, "digitsBehind", "(I)I"⟩
def yX10_isLetter : MethodName := ⟨RX10, "isLetter", "(I)Z"⟩
def yX10_firstBadByte : MethodName := ⟨RX10, "firstBadByte", "(LBeansOnTheOtherSide$Shelf;)I"⟩
def yX10_thinkDaysOn : MethodName := ⟨RX10, "thinkDaysOn", "(I)V"⟩
def yX10_owedBehindWithWaker : MethodName := ⟨RX10, "owedBehindWithWaker", "(III)I"⟩
def yX10_owedBehindWithMilk : MethodName := ⟨RX10, "owedBehindWithMilk", "(II)I"⟩
def yX10_owedBehindWithout : MethodName := ⟨RX10, "owedBehindWithout", "(II)I"⟩
def yX10_owedBehindKeeping : MethodName := ⟨RX10, "owedBehindKeeping", "(II)I"⟩
def yX10_owedBehindFalls : MethodName := ⟨RX10, "owedBehindFalls", "(II)I"⟩
def yX10_mindOwesAsTold : MethodName := ⟨RX10, "mindOwesAsTold", "(ILBeansOnTheOtherSide$Shelf;)Z"⟩
def yX10_gainInMind : MethodName := ⟨RX10, "gainInMind", "(I)I"⟩
def yX10_fillDrunkBehind : MethodName := ⟨RX10, "fillDrunkBehind", "()V"⟩
def yX10_bagsGoAsTold : MethodName := ⟨RX10, "bagsGoAsTold", "(ILBeansOnTheOtherSide$Shelf;)Z"⟩
def yX10_matchCell : MethodName := ⟨RX10, "matchCell", "(II)I"⟩
def yX10_mostWokenFrom : MethodName := ⟨RX10, "mostWokenFrom", "(II)I"⟩
def yX10_fillMostWoken : MethodName := ⟨RX10, "fillMostWoken", "()V"⟩
def yX10_firstMatchOf : MethodName := ⟨RX10, "firstMatchOf", "(II)I"⟩
def yX10_power : MethodName := ⟨RX10, "power", "(JI)J"⟩
def yX10_partOfFraction : MethodName := ⟨RX10, "partOfFraction", "(JJI)J"⟩
def yX10_nextSeed : MethodName := ⟨RX10, "nextSeed", "(I)I"⟩
def yX10_drawOf : MethodName := ⟨RX10, "drawOf", "(II)I"⟩
def yX11_isIn : MethodName := ⟨RX11, "isIn", "(III)Z"⟩
def yX11_least : MethodName := ⟨RX11, "least", "(II)I"⟩
def yX11_lessBy : MethodName := ⟨RX11, "lessBy", "(II)I"⟩
def yX11_copies : MethodName := ⟨RX11, "copies", "([I[I)V"⟩
def yX11_of : MethodName := ⟨RX11, "of", "(II)I"⟩
def yX11_isDrinker : MethodName := ⟨RX11, "isDrinker", "(I)Z"⟩
def yX11_isWaker : MethodName := ⟨RX11, "isWaker", "(I)Z"⟩
def yX11_isWakerOrNone : MethodName := ⟨RX11, "isWakerOrNone", "(I)Z"⟩
def yX11_has : MethodName := ⟨RX11, "has", "(II)Z"⟩
def yX11_bits : MethodName := ⟨RX11, "bits", "(I)I"⟩
def yX11_drinksBy : MethodName := ⟨RX11, "drinksBy", "(III)I"⟩
def yX11_tiresBy : MethodName := ⟨RX11, "tiresBy", "(III)I"⟩
def yX11_owesBy : MethodName := ⟨RX11, "owesBy", "(III)I"⟩
def yX11_isAwake : MethodName := ⟨RX11, "isAwake", "([II)Z"⟩
def yX11_wakesUp : MethodName := ⟨RX11, "wakesUp", "([II)V"⟩
def yX11_drinks : MethodName := ⟨RX11, "drinks", "([II)V"⟩
def yX11_liesDown : MethodName := ⟨RX11, "liesDown", "([II)V"⟩
def yX11_day : MethodName := ⟨RX11, "day", "([I)V"⟩
def yX11_daysOn : MethodName := ⟨RX11, "daysOn", "([II)V"⟩
def yX11_allOwed : MethodName := ⟨RX11, "allOwed", "([I)I"⟩
def yX11_allTired : MethodName := ⟨RX11, "allTired", "([I)I"⟩
def yX11_here : MethodName := ⟨RX11, "here", "()I"⟩
def yX11_readsNumber : MethodName := ⟨RX11, "readsNumber", "(II)Z"⟩
def yX11_readsStatement : MethodName := ⟨RX11, "readsStatement", "()Z"⟩
def yX11_adds : MethodName := ⟨RX11, "adds", "(III)V"⟩
def yX11_isDone : MethodName := ⟨RX11, "isDone", "(I)Z"⟩
def yX11_treaty : MethodName := ⟨RX11, "treaty", "(I)I"⟩
def yX11_nextOf : MethodName := ⟨RX11, "nextOf", "(I)I"⟩
def yX11_drinker : MethodName := ⟨RX11, "drinker", "(II)I"⟩
def yX11_manyOf : MethodName := ⟨RX11, "manyOf", "(I)I"⟩
def yX11_waker : MethodName := ⟨RX11, "waker", "(II)I"⟩
def yX11_comes : MethodName := ⟨RX11, "comes", "(II)I"⟩
def yX11_sets : MethodName := ⟨RX11, "sets", "(II)I"⟩
def yX11_wakes : MethodName := ⟨RX11, "wakes", "(II)I"⟩
def yX11_tires : MethodName := ⟨RX11, "tires", "(II)I"⟩
def yX11_sleeps : MethodName := ⟨RX11, "sleeps", "(I)I"⟩
def yX11_bags : MethodName := ⟨RX11, "bags", "(I)I"⟩
def yX11_days : MethodName := ⟨RX11, "days", "(I)I"⟩
def yX11_isLate : MethodName := ⟨RX11, "isLate", "(I)Z"⟩
def yX11_takes : MethodName := ⟨RX11, "takes", "(I)V"⟩
def yX11_owesThen : MethodName := ⟨RX11, "owesThen", "(II)I"⟩
def yX11_tiredThen : MethodName := ⟨RX11, "tiredThen", "(II)I"⟩
def yX11_then : MethodName := ⟨RX11, "then", "(II)I"⟩
def yX11_firstAsleep : MethodName := ⟨RX11, "firstAsleep", "(I)I"⟩
def yX11_out : MethodName := ⟨RX11, "out", "()I"⟩
def yX11_owedNow : MethodName := ⟨RX11, "owedNow", "(I)I"⟩
def yX11_bestWaker : MethodName := ⟨RX11, "bestWaker", "(III)I"⟩
def yX11_canWake : MethodName := ⟨RX11, "canWake", "(II)Z"⟩
def yX11_matches : MethodName := ⟨RX11, "matches", "()V"⟩
def yX11_wakerOf : MethodName := ⟨RX11, "wakerOf", "(II)I"⟩
def yX11_match : MethodName := ⟨RX11, "match", "(I)I"⟩
def yX11_milk : MethodName := ⟨RX11, "milk", "(I)I"⟩
def yX11_fewest : MethodName := ⟨RX11, "fewest", "(I)I"⟩
def yX11_store : MethodName := ⟨RX11, "store", "(I)I"⟩
def yX11_heaviest : MethodName := ⟨RX11, "heaviest", "(I)I"⟩
def yX11_rest : MethodName := ⟨RX11, "rest", "(II)I"⟩
def yX11_leastOf : MethodName := ⟨RX11, "leastOf", "(I)I"⟩
def yX11_isTold : MethodName := ⟨RX11, "isTold", "(III)Z"⟩
def yX11_whatIs : MethodName := ⟨RX11, "whatIs", "(III)I"⟩
def yX11_isShedSo : MethodName := ⟨RX11, "isShedSo", "(II)Z"⟩
def yX11_shed : MethodName := ⟨RX11, "shed", "(II)I"⟩
def yX11_hasBy : MethodName := ⟨RX11, "hasBy", "(IIIIII)I"⟩
def yX11_two : MethodName := ⟨RX11, "two", "(III)I"⟩
def yX11_gcd : MethodName := ⟨RX11, "gcd", "(JJ)J"⟩
def yX11_partOf : MethodName := ⟨RX11, "partOf", "(JJI)J"⟩
def yX11_falls : MethodName := ⟨RX11, "falls", "(IIII)J"⟩
def yX11_mean : MethodName := ⟨RX11, "mean", "(I)J"⟩
def yX11_forged : MethodName := ⟨RX11, "forged", "(I)I"⟩
def yX11_judge : MethodName := ⟨RX11, "judge", "(I)I"⟩
def yX11_drawn : MethodName := ⟨RX11, "drawn", "(I)I"⟩
def yX11_years : MethodName := ⟨RX11, "years", "(III)I"⟩
def yX11_image : MethodName := ⟨RX11, "image", "()I"⟩
def yX11_restore : MethodName := ⟨RX11, "restore", "()I"⟩
def yX11_count : MethodName := ⟨RX11, "count", "(I)I"⟩
def yX11_thrown : MethodName := ⟨RX11, "thrown", "()I"⟩
def yX11_isShelf : MethodName := ⟨RX11, "isShelf", "(I)Z"⟩
def yX11_wrongRow : MethodName := ⟨RX11, "wrongRow", "(II)I"⟩
def yX11_wrongKept : MethodName := ⟨RX11, "wrongKept", "(I)I"⟩
def yX11_keep : MethodName := ⟨RX11, "keep", "(IIII)I"⟩
def yX11_row : MethodName := ⟨RX11, "row", "(III)I"⟩
def yX11_put : MethodName := ⟨RX11, "put", "(III)I"⟩
def yX11_element : MethodName := ⟨RX11, "element", "(II)J"⟩
def yX11_copy : MethodName := ⟨RX11, "copy", "(IIIII)I"⟩
def yX11_costBy : MethodName := ⟨RX11, "costBy", "(II)I"⟩
def yX11_cost : MethodName := ⟨RX11, "cost", "(I)I"⟩
def yX11_toss : MethodName := ⟨RX11, "toss", "(I)I"⟩
def yJ6_bitCount_0f7a4 : MethodName := ⟨"java/lang/Integer", "bitCount", "(I)I"⟩
def yJ7_fill_53178 : MethodName := ⟨"java/util/Arrays", "fill", "([II)V"⟩
