-- ===== PART A: goes FIRST, ahead of the names: the tables' words, and 'selects' of the private methods out of them =====
/-- a private method of a class that the tables say can be made, by its rows of tables_1 -/
def lw_okq (q : MethodName × Nat) : Prop := (q.1.cls ≠ "java/lang/invoke/MethodHandle" ∧ q.1.cls ≠ "java/lang/invoke/VarHandle") ∧ Cond.instantiable q.1.cls q.2 ∈ tables_1 ∧ Cond.privateMethod q.1 ∈ tables_1 ∧ Cond.instanceMethod q.1 ∈ tables_1
theorem lw_p0 : lw_okq (⟨"KinBench", "closeRecord", "()I"⟩, 8) := ⟨⟨by decide +kernel, by decide +kernel⟩, List.mem_of_getElem? (i := 17) (by decide +kernel), List.mem_of_getElem? (i := 410) (by decide +kernel), List.mem_of_getElem? (i := 411) (by decide +kernel)⟩
theorem lw_p1 : lw_okq (⟨"KinBench", "single", "(IIIJI)I"⟩, 8) := ⟨⟨by decide +kernel, by decide +kernel⟩, List.mem_of_getElem? (i := 17) (by decide +kernel), List.mem_of_getElem? (i := 418) (by decide +kernel), List.mem_of_getElem? (i := 419) (by decide +kernel)⟩
theorem lw_p2 : lw_okq (⟨"KinBench$Ear", "soundAlike", "(II)Z"⟩, 2) := ⟨⟨by decide +kernel, by decide +kernel⟩, List.mem_of_getElem? (i := 128) (by decide +kernel), List.mem_of_getElem? (i := 519) (by decide +kernel), List.mem_of_getElem? (i := 520) (by decide +kernel)⟩
theorem lw_p3 : lw_okq (⟨"KinBench", "seekWays", "()V"⟩, 8) := ⟨⟨by decide +kernel, by decide +kernel⟩, List.mem_of_getElem? (i := 17) (by decide +kernel), List.mem_of_getElem? (i := 532) (by decide +kernel), List.mem_of_getElem? (i := 533) (by decide +kernel)⟩
theorem lw_p4 : lw_okq (⟨"KinBench$Table", "prepareYears", "(I)V"⟩, 12) := ⟨⟨by decide +kernel, by decide +kernel⟩, List.mem_of_getElem? (i := 142) (by decide +kernel), List.mem_of_getElem? (i := 540) (by decide +kernel), List.mem_of_getElem? (i := 541) (by decide +kernel)⟩
theorem lw_p5 : lw_okq (⟨"KinBench$Table", "prepareMarks", "(I)V"⟩, 12) := ⟨⟨by decide +kernel, by decide +kernel⟩, List.mem_of_getElem? (i := 142) (by decide +kernel), List.mem_of_getElem? (i := 553) (by decide +kernel), List.mem_of_getElem? (i := 554) (by decide +kernel)⟩
theorem lw_p6 : lw_okq (⟨"KinBench$Table", "prepareDistances", "(I)V"⟩, 12) := ⟨⟨by decide +kernel, by decide +kernel⟩, List.mem_of_getElem? (i := 142) (by decide +kernel), List.mem_of_getElem? (i := 561) (by decide +kernel), List.mem_of_getElem? (i := 562) (by decide +kernel)⟩
theorem lw_p7 : lw_okq (⟨"KinBench$Seeker", "keep", "()V"⟩, 14) := ⟨⟨by decide +kernel, by decide +kernel⟩, List.mem_of_getElem? (i := 194) (by decide +kernel), List.mem_of_getElem? (i := 597) (by decide +kernel), List.mem_of_getElem? (i := 598) (by decide +kernel)⟩
theorem lw_p8 : lw_okq (⟨"KinBench$Seeker", "packed", "()J"⟩, 14) := ⟨⟨by decide +kernel, by decide +kernel⟩, List.mem_of_getElem? (i := 194) (by decide +kernel), List.mem_of_getElem? (i := 601) (by decide +kernel), List.mem_of_getElem? (i := 602) (by decide +kernel)⟩
theorem lw_p9 : lw_okq (⟨"KinBench$Seeker", "narrowJoined", "()V"⟩, 14) := ⟨⟨by decide +kernel, by decide +kernel⟩, List.mem_of_getElem? (i := 194) (by decide +kernel), List.mem_of_getElem? (i := 608) (by decide +kernel), List.mem_of_getElem? (i := 609) (by decide +kernel)⟩
theorem lw_p10 : lw_okq (⟨"KinBench$Seeker", "mayTry", "()Z"⟩, 14) := ⟨⟨by decide +kernel, by decide +kernel⟩, List.mem_of_getElem? (i := 194) (by decide +kernel), List.mem_of_getElem? (i := 612) (by decide +kernel), List.mem_of_getElem? (i := 613) (by decide +kernel)⟩
theorem lw_p11 : lw_okq (⟨"KinBench$People", "start", "(II)V"⟩, 14) := ⟨⟨by decide +kernel, by decide +kernel⟩, List.mem_of_getElem? (i := 206) (by decide +kernel), List.mem_of_getElem? (i := 632) (by decide +kernel), List.mem_of_getElem? (i := 633) (by decide +kernel)⟩
theorem lw_p12 : lw_okq (⟨"KinBench$People", "keepOld", "(II)V"⟩, 14) := ⟨⟨by decide +kernel, by decide +kernel⟩, List.mem_of_getElem? (i := 206) (by decide +kernel), List.mem_of_getElem? (i := 636) (by decide +kernel), List.mem_of_getElem? (i := 637) (by decide +kernel)⟩
theorem lw_p13 : lw_okq (⟨"KinBench", "isWay", "(I)Z"⟩, 8) := ⟨⟨by decide +kernel, by decide +kernel⟩, List.mem_of_getElem? (i := 17) (by decide +kernel), List.mem_of_getElem? (i := 648) (by decide +kernel), List.mem_of_getElem? (i := 649) (by decide +kernel)⟩
theorem lw_p14 : lw_okq (⟨"KinBench", "areRoles", "(II)Z"⟩, 8) := ⟨⟨by decide +kernel, by decide +kernel⟩, List.mem_of_getElem? (i := 17) (by decide +kernel), List.mem_of_getElem? (i := 671) (by decide +kernel), List.mem_of_getElem? (i := 672) (by decide +kernel)⟩
theorem lw_p15 : lw_okq (⟨"KinBench", "haveWays", "()Z"⟩, 8) := ⟨⟨by decide +kernel, by decide +kernel⟩, List.mem_of_getElem? (i := 17) (by decide +kernel), List.mem_of_getElem? (i := 675) (by decide +kernel), List.mem_of_getElem? (i := 676) (by decide +kernel)⟩
def lw_privs_1 : List (MethodName × Nat) := [(⟨"KinBench", "closeRecord", "()I"⟩, 8), (⟨"KinBench", "single", "(IIIJI)I"⟩, 8), (⟨"KinBench$Ear", "soundAlike", "(II)Z"⟩, 2), (⟨"KinBench", "seekWays", "()V"⟩, 8), (⟨"KinBench$Table", "prepareYears", "(I)V"⟩, 12), (⟨"KinBench$Table", "prepareMarks", "(I)V"⟩, 12), (⟨"KinBench$Table", "prepareDistances", "(I)V"⟩, 12), (⟨"KinBench$Seeker", "keep", "()V"⟩, 14), (⟨"KinBench$Seeker", "packed", "()J"⟩, 14), (⟨"KinBench$Seeker", "narrowJoined", "()V"⟩, 14), (⟨"KinBench$Seeker", "mayTry", "()Z"⟩, 14), (⟨"KinBench$People", "start", "(II)V"⟩, 14), (⟨"KinBench$People", "keepOld", "(II)V"⟩, 14), (⟨"KinBench", "isWay", "(I)Z"⟩, 8), (⟨"KinBench", "areRoles", "(II)Z"⟩, 8), (⟨"KinBench", "haveWays", "()Z"⟩, 8)]
theorem lw_r1 : ∀ q ∈ lw_privs_1, lw_okq q := List.forall_mem_cons.mpr ⟨lw_p0, List.forall_mem_cons.mpr ⟨lw_p1, List.forall_mem_cons.mpr ⟨lw_p2, List.forall_mem_cons.mpr ⟨lw_p3, List.forall_mem_cons.mpr ⟨lw_p4, List.forall_mem_cons.mpr ⟨lw_p5, List.forall_mem_cons.mpr ⟨lw_p6, List.forall_mem_cons.mpr ⟨lw_p7, List.forall_mem_cons.mpr ⟨lw_p8, List.forall_mem_cons.mpr ⟨lw_p9, List.forall_mem_cons.mpr ⟨lw_p10, List.forall_mem_cons.mpr ⟨lw_p11, List.forall_mem_cons.mpr ⟨lw_p12, List.forall_mem_cons.mpr ⟨lw_p13, List.forall_mem_cons.mpr ⟨lw_p14, List.forall_mem_cons.mpr ⟨lw_p15, fun _ h => absurd h List.not_mem_nil⟩⟩⟩⟩⟩⟩⟩⟩⟩⟩⟩⟩⟩⟩⟩⟩
theorem lw_p16 : lw_okq (⟨"KinBench$Sets", "isLookedAt", "(III)Z"⟩, 4) := ⟨⟨by decide +kernel, by decide +kernel⟩, List.mem_of_getElem? (i := 305) (by decide +kernel), List.mem_of_getElem? (i := 703) (by decide +kernel), List.mem_of_getElem? (i := 704) (by decide +kernel)⟩
theorem lw_p17 : lw_okq (⟨"KinBench$Sets", "lookAt", "(I)I"⟩, 4) := ⟨⟨by decide +kernel, by decide +kernel⟩, List.mem_of_getElem? (i := 305) (by decide +kernel), List.mem_of_getElem? (i := 717) (by decide +kernel), List.mem_of_getElem? (i := 718) (by decide +kernel)⟩
theorem lw_p18 : lw_okq (⟨"KinBench$Sets", "joins", "(III)Z"⟩, 4) := ⟨⟨by decide +kernel, by decide +kernel⟩, List.mem_of_getElem? (i := 305) (by decide +kernel), List.mem_of_getElem? (i := 725) (by decide +kernel), List.mem_of_getElem? (i := 726) (by decide +kernel)⟩
theorem lw_p19 : lw_okq (⟨"KinBench$Kinship", "climb", "(JI[I)V"⟩, 5) := ⟨⟨by decide +kernel, by decide +kernel⟩, List.mem_of_getElem? (i := 324) (by decide +kernel), List.mem_of_getElem? (i := 747) (by decide +kernel), List.mem_of_getElem? (i := 748) (by decide +kernel)⟩
theorem lw_p20 : lw_okq (⟨"KinBench$Kinship", "parentsOf", "(JI)I"⟩, 5) := ⟨⟨by decide +kernel, by decide +kernel⟩, List.mem_of_getElem? (i := 324) (by decide +kernel), List.mem_of_getElem? (i := 751) (by decide +kernel), List.mem_of_getElem? (i := 752) (by decide +kernel)⟩
theorem lw_p21 : lw_okq (⟨"KinBenchModel", "apart", "(JJ)I"⟩, 42) := ⟨⟨by decide +kernel, by decide +kernel⟩, List.mem_of_getElem? (i := 764) (by decide +kernel), List.mem_of_getElem? (i := 907) (by decide +kernel), List.mem_of_getElem? (i := 908) (by decide +kernel)⟩
theorem lw_p22 : lw_okq (⟨"KinBenchModel", "fits", "(II)Z"⟩, 42) := ⟨⟨by decide +kernel, by decide +kernel⟩, List.mem_of_getElem? (i := 764) (by decide +kernel), List.mem_of_getElem? (i := 921) (by decide +kernel), List.mem_of_getElem? (i := 922) (by decide +kernel)⟩
theorem lw_p23 : lw_okq (⟨"KinBenchModel", "open", "(II)I"⟩, 42) := ⟨⟨by decide +kernel, by decide +kernel⟩, List.mem_of_getElem? (i := 764) (by decide +kernel), List.mem_of_getElem? (i := 928) (by decide +kernel), List.mem_of_getElem? (i := 929) (by decide +kernel)⟩
theorem lw_p24 : lw_okq (⟨"KinBenchModel", "add", "(IIIJI)V"⟩, 42) := ⟨⟨by decide +kernel, by decide +kernel⟩, List.mem_of_getElem? (i := 764) (by decide +kernel), List.mem_of_getElem? (i := 932) (by decide +kernel), List.mem_of_getElem? (i := 933) (by decide +kernel)⟩
theorem lw_p25 : lw_okq (⟨"KinBenchModel", "one", "(IIJII)I"⟩, 42) := ⟨⟨by decide +kernel, by decide +kernel⟩, List.mem_of_getElem? (i := 764) (by decide +kernel), List.mem_of_getElem? (i := 948) (by decide +kernel), List.mem_of_getElem? (i := 949) (by decide +kernel)⟩
theorem lw_p26 : lw_okq (⟨"KinBenchModel", "isRole", "(I)Z"⟩, 42) := ⟨⟨by decide +kernel, by decide +kernel⟩, List.mem_of_getElem? (i := 764) (by decide +kernel), List.mem_of_getElem? (i := 987) (by decide +kernel), List.mem_of_getElem? (i := 988) (by decide +kernel)⟩
theorem lw_p27 : lw_okq (⟨"KinBenchModel", "soughtAll", "()V"⟩, 42) := ⟨⟨by decide +kernel, by decide +kernel⟩, List.mem_of_getElem? (i := 764) (by decide +kernel), List.mem_of_getElem? (i := 995) (by decide +kernel), List.mem_of_getElem? (i := 996) (by decide +kernel)⟩
theorem lw_p28 : lw_okq (⟨"KinBenchModel", "seek", "(I)V"⟩, 42) := ⟨⟨by decide +kernel, by decide +kernel⟩, List.mem_of_getElem? (i := 764) (by decide +kernel), List.mem_of_getElem? (i := 999) (by decide +kernel), List.mem_of_getElem? (i := 1000) (by decide +kernel)⟩
theorem lw_p29 : lw_okq (⟨"KinBenchModel", "comes", "(I)V"⟩, 42) := ⟨⟨by decide +kernel, by decide +kernel⟩, List.mem_of_getElem? (i := 764) (by decide +kernel), List.mem_of_getElem? (i := 1003) (by decide +kernel), List.mem_of_getElem? (i := 1004) (by decide +kernel)⟩
theorem lw_p30 : lw_okq (⟨"KinBenchModel", "hasMore", "(I)Z"⟩, 42) := ⟨⟨by decide +kernel, by decide +kernel⟩, List.mem_of_getElem? (i := 764) (by decide +kernel), List.mem_of_getElem? (i := 1007) (by decide +kernel), List.mem_of_getElem? (i := 1008) (by decide +kernel)⟩
theorem lw_p31 : lw_okq (⟨"KinBenchModel", "personOf", "(II)I"⟩, 42) := ⟨⟨by decide +kernel, by decide +kernel⟩, List.mem_of_getElem? (i := 764) (by decide +kernel), List.mem_of_getElem? (i := 1012) (by decide +kernel), List.mem_of_getElem? (i := 1013) (by decide +kernel)⟩
def lw_privs_2 : List (MethodName × Nat) := [(⟨"KinBench$Sets", "isLookedAt", "(III)Z"⟩, 4), (⟨"KinBench$Sets", "lookAt", "(I)I"⟩, 4), (⟨"KinBench$Sets", "joins", "(III)Z"⟩, 4), (⟨"KinBench$Kinship", "climb", "(JI[I)V"⟩, 5), (⟨"KinBench$Kinship", "parentsOf", "(JI)I"⟩, 5), (⟨"KinBenchModel", "apart", "(JJ)I"⟩, 42), (⟨"KinBenchModel", "fits", "(II)Z"⟩, 42), (⟨"KinBenchModel", "open", "(II)I"⟩, 42), (⟨"KinBenchModel", "add", "(IIIJI)V"⟩, 42), (⟨"KinBenchModel", "one", "(IIJII)I"⟩, 42), (⟨"KinBenchModel", "isRole", "(I)Z"⟩, 42), (⟨"KinBenchModel", "soughtAll", "()V"⟩, 42), (⟨"KinBenchModel", "seek", "(I)V"⟩, 42), (⟨"KinBenchModel", "comes", "(I)V"⟩, 42), (⟨"KinBenchModel", "hasMore", "(I)Z"⟩, 42), (⟨"KinBenchModel", "personOf", "(II)I"⟩, 42)]
theorem lw_r2 : ∀ q ∈ lw_privs_2, lw_okq q := List.forall_mem_cons.mpr ⟨lw_p16, List.forall_mem_cons.mpr ⟨lw_p17, List.forall_mem_cons.mpr ⟨lw_p18, List.forall_mem_cons.mpr ⟨lw_p19, List.forall_mem_cons.mpr ⟨lw_p20, List.forall_mem_cons.mpr ⟨lw_p21, List.forall_mem_cons.mpr ⟨lw_p22, List.forall_mem_cons.mpr ⟨lw_p23, List.forall_mem_cons.mpr ⟨lw_p24, List.forall_mem_cons.mpr ⟨lw_p25, List.forall_mem_cons.mpr ⟨lw_p26, List.forall_mem_cons.mpr ⟨lw_p27, List.forall_mem_cons.mpr ⟨lw_p28, List.forall_mem_cons.mpr ⟨lw_p29, List.forall_mem_cons.mpr ⟨lw_p30, List.forall_mem_cons.mpr ⟨lw_p31, fun _ h => absurd h List.not_mem_nil⟩⟩⟩⟩⟩⟩⟩⟩⟩⟩⟩⟩⟩⟩⟩⟩
theorem lw_p32 : lw_okq (⟨"KinBenchModel", "can", "(II)Z"⟩, 42) := ⟨⟨by decide +kernel, by decide +kernel⟩, List.mem_of_getElem? (i := 764) (by decide +kernel), List.mem_of_getElem? (i := 1016) (by decide +kernel), List.mem_of_getElem? (i := 1017) (by decide +kernel)⟩
theorem lw_p33 : lw_okq (⟨"KinBenchModel", "earliest", "(I)I"⟩, 42) := ⟨⟨by decide +kernel, by decide +kernel⟩, List.mem_of_getElem? (i := 764) (by decide +kernel), List.mem_of_getElem? (i := 1020) (by decide +kernel), List.mem_of_getElem? (i := 1021) (by decide +kernel)⟩
theorem lw_p34 : lw_okq (⟨"KinBenchModel", "latest", "(I)I"⟩, 42) := ⟨⟨by decide +kernel, by decide +kernel⟩, List.mem_of_getElem? (i := 764) (by decide +kernel), List.mem_of_getElem? (i := 1024) (by decide +kernel), List.mem_of_getElem? (i := 1025) (by decide +kernel)⟩
theorem lw_p35 : lw_okq (⟨"KinBenchModel", "canBeOne", "(II)Z"⟩, 42) := ⟨⟨by decide +kernel, by decide +kernel⟩, List.mem_of_getElem? (i := 764) (by decide +kernel), List.mem_of_getElem? (i := 1028) (by decide +kernel), List.mem_of_getElem? (i := 1029) (by decide +kernel)⟩
theorem lw_p36 : lw_okq (⟨"KinBenchModel", "areTwo", "(III)Z"⟩, 42) := ⟨⟨by decide +kernel, by decide +kernel⟩, List.mem_of_getElem? (i := 764) (by decide +kernel), List.mem_of_getElem? (i := 1032) (by decide +kernel), List.mem_of_getElem? (i := 1033) (by decide +kernel)⟩
theorem lw_p37 : lw_okq (⟨"KinBenchModel", "outlives", "(II)Z"⟩, 42) := ⟨⟨by decide +kernel, by decide +kernel⟩, List.mem_of_getElem? (i := 764) (by decide +kernel), List.mem_of_getElem? (i := 1036) (by decide +kernel), List.mem_of_getElem? (i := 1037) (by decide +kernel)⟩
theorem lw_p38 : lw_okq (⟨"KinBenchModel", "isWay", "(I)Z"⟩, 42) := ⟨⟨by decide +kernel, by decide +kernel⟩, List.mem_of_getElem? (i := 764) (by decide +kernel), List.mem_of_getElem? (i := 1044) (by decide +kernel), List.mem_of_getElem? (i := 1045) (by decide +kernel)⟩
theorem lw_p39 : lw_okq (⟨"KinBenchModel", "at", "(II)I"⟩, 42) := ⟨⟨by decide +kernel, by decide +kernel⟩, List.mem_of_getElem? (i := 764) (by decide +kernel), List.mem_of_getElem? (i := 1048) (by decide +kernel), List.mem_of_getElem? (i := 1049) (by decide +kernel)⟩
theorem lw_p40 : lw_okq (⟨"KinBenchModel", "isLink", "(II)Z"⟩, 42) := ⟨⟨by decide +kernel, by decide +kernel⟩, List.mem_of_getElem? (i := 764) (by decide +kernel), List.mem_of_getElem? (i := 1060) (by decide +kernel), List.mem_of_getElem? (i := 1061) (by decide +kernel)⟩
theorem lw_p41 : lw_okq (⟨"KinBenchModel", "least", "(Z)I"⟩, 42) := ⟨⟨by decide +kernel, by decide +kernel⟩, List.mem_of_getElem? (i := 764) (by decide +kernel), List.mem_of_getElem? (i := 1073) (by decide +kernel), List.mem_of_getElem? (i := 1074) (by decide +kernel)⟩
theorem lw_p42 : lw_okq (⟨"KinBenchModel", "isSet", "(I)Z"⟩, 42) := ⟨⟨by decide +kernel, by decide +kernel⟩, List.mem_of_getElem? (i := 764) (by decide +kernel), List.mem_of_getElem? (i := 1080) (by decide +kernel), List.mem_of_getElem? (i := 1081) (by decide +kernel)⟩
theorem lw_p43 : lw_okq (⟨"KinBenchModel", "kinOf", "(III)I"⟩, 42) := ⟨⟨by decide +kernel, by decide +kernel⟩, List.mem_of_getElem? (i := 764) (by decide +kernel), List.mem_of_getElem? (i := 1093) (by decide +kernel), List.mem_of_getElem? (i := 1094) (by decide +kernel)⟩
theorem lw_p44 : lw_okq (⟨"KinBenchModel", "parents", "(I)V"⟩, 42) := ⟨⟨by decide +kernel, by decide +kernel⟩, List.mem_of_getElem? (i := 764) (by decide +kernel), List.mem_of_getElem? (i := 1097) (by decide +kernel), List.mem_of_getElem? (i := 1098) (by decide +kernel)⟩
theorem lw_p45 : lw_okq (⟨"KinBenchModel", "down", "(I)I"⟩, 42) := ⟨⟨by decide +kernel, by decide +kernel⟩, List.mem_of_getElem? (i := 764) (by decide +kernel), List.mem_of_getElem? (i := 1101) (by decide +kernel), List.mem_of_getElem? (i := 1102) (by decide +kernel)⟩
theorem lw_p46 : lw_okq (⟨"KinBenchModel", "up", "(I)I"⟩, 42) := ⟨⟨by decide +kernel, by decide +kernel⟩, List.mem_of_getElem? (i := 764) (by decide +kernel), List.mem_of_getElem? (i := 1105) (by decide +kernel), List.mem_of_getElem? (i := 1106) (by decide +kernel)⟩
def lw_privs_3 : List (MethodName × Nat) := [(⟨"KinBenchModel", "can", "(II)Z"⟩, 42), (⟨"KinBenchModel", "earliest", "(I)I"⟩, 42), (⟨"KinBenchModel", "latest", "(I)I"⟩, 42), (⟨"KinBenchModel", "canBeOne", "(II)Z"⟩, 42), (⟨"KinBenchModel", "areTwo", "(III)Z"⟩, 42), (⟨"KinBenchModel", "outlives", "(II)Z"⟩, 42), (⟨"KinBenchModel", "isWay", "(I)Z"⟩, 42), (⟨"KinBenchModel", "at", "(II)I"⟩, 42), (⟨"KinBenchModel", "isLink", "(II)Z"⟩, 42), (⟨"KinBenchModel", "least", "(Z)I"⟩, 42), (⟨"KinBenchModel", "isSet", "(I)Z"⟩, 42), (⟨"KinBenchModel", "kinOf", "(III)I"⟩, 42), (⟨"KinBenchModel", "parents", "(I)V"⟩, 42), (⟨"KinBenchModel", "down", "(I)I"⟩, 42), (⟨"KinBenchModel", "up", "(I)I"⟩, 42)]
theorem lw_r3 : ∀ q ∈ lw_privs_3, lw_okq q := List.forall_mem_cons.mpr ⟨lw_p32, List.forall_mem_cons.mpr ⟨lw_p33, List.forall_mem_cons.mpr ⟨lw_p34, List.forall_mem_cons.mpr ⟨lw_p35, List.forall_mem_cons.mpr ⟨lw_p36, List.forall_mem_cons.mpr ⟨lw_p37, List.forall_mem_cons.mpr ⟨lw_p38, List.forall_mem_cons.mpr ⟨lw_p39, List.forall_mem_cons.mpr ⟨lw_p40, List.forall_mem_cons.mpr ⟨lw_p41, List.forall_mem_cons.mpr ⟨lw_p42, List.forall_mem_cons.mpr ⟨lw_p43, List.forall_mem_cons.mpr ⟨lw_p44, List.forall_mem_cons.mpr ⟨lw_p45, List.forall_mem_cons.mpr ⟨lw_p46, fun _ h => absurd h List.not_mem_nil⟩⟩⟩⟩⟩⟩⟩⟩⟩⟩⟩⟩⟩⟩⟩
def lw_privs : List (MethodName × Nat) := lw_privs_1 ++ (lw_privs_2 ++ (lw_privs_3))
def lw_tbl : List Cond := k2_sels lw_privs ++ tables_1
theorem lw_privs_ok : ∀ q ∈ lw_privs, lw_okq q := by
  show ∀ q ∈ lw_privs_1 ++ (lw_privs_2 ++ (lw_privs_3)), lw_okq q
  exact List.forall_mem_append.mpr ⟨lw_r1, List.forall_mem_append.mpr ⟨lw_r2, lw_r3⟩⟩
-- ===== end of PART A; then your names; then what follows =====
def RX0 : String := "KinBench$Archive"
def TX0 : u_T := fun k => match k with
  | 0 => ("KinBench$Archive", "first", "[I", true)
  | 1 => ("KinBench$Archive", "size", "[I", true)
  | 2 => ("KinBench$Archive", "original", "[I", true)
  | 3 => ("KinBench$Archive", "recordOf", "[I", true)
  | 4 => ("KinBench$Archive", "kind", "[I", true)
  | 5 => ("KinBench$Archive", "year", "[I", true)
  | 6 => ("KinBench$Archive", "sex", "[I", true)
  | 7 => ("KinBench$Archive", "age", "[I", true)
  | 8 => ("KinBench$Archive", "copyOf", "[I", true)
  | 9 => ("KinBench$Archive", "name", "[J", true)
  | 10 => ("KinBench$Archive", "records", "I", false)
  | 11 => ("KinBench$Archive", "roles", "I", false)
  | _ => ("KinBench$Archive", "openYear", "I", false)
def tyX0 : Nat → FieldType := fun k => match k with
  | 0 => .array .int
  | 1 => .array .int
  | 2 => .array .int
  | 3 => .array .int
  | 4 => .array .int
  | 5 => .array .int
  | 6 => .array .int
  | 7 => .array .int
  | 8 => .array .int
  | 9 => .array .long
  | 10 => .int
  | 11 => .int
  | _ => .int
theorem nmX0 : ∀ a, a < 13 → ∀ b, b < 13 → a ≠ b → (TX0 a).2.1 ≠ (TX0 b).2.1 := by decide +kernel
theorem tyX0_ok : ∀ k, k < 13 → parseFieldDescriptor (TX0 k).2.2.1 = some (tyX0 k) := by decide +kernel
abbrev cX0_init : ByteArray := prog_2_method_1_code
def yX0_init : MethodName := ⟨RX0, "<init>", "()V"⟩
abbrev cX0_hasRole : ByteArray := prog_2_method_2_code
def yX0_hasRole : MethodName := ⟨RX0, "hasRole", "(I)Z"⟩
abbrev cX0_hasRecord : ByteArray := prog_2_method_3_code
def yX0_hasRecord : MethodName := ⟨RX0, "hasRecord", "(I)Z"⟩
abbrev cX0_isOriginal : ByteArray := prog_2_method_4_code
def yX0_isOriginal : MethodName := ⟨RX0, "isOriginal", "(I)Z"⟩
abbrev cX0_sizeOf : ByteArray := prog_2_method_5_code
def yX0_sizeOf : MethodName := ⟨RX0, "sizeOf", "(I)I"⟩
abbrev cX0_firstOf : ByteArray := prog_2_method_6_code
def yX0_firstOf : MethodName := ⟨RX0, "firstOf", "(I)I"⟩
abbrev cX0_hasSpace : ByteArray := prog_2_method_7_code
def yX0_hasSpace : MethodName := ⟨RX0, "hasSpace", "(I)Z"⟩
abbrev cX0_open : ByteArray := prog_2_method_8_code
def yX0_open : MethodName := ⟨RX0, "open", "(II)V"⟩
abbrev cX0_openCopy : ByteArray := prog_2_method_9_code
def yX0_openCopy : MethodName := ⟨RX0, "openCopy", "(I)V"⟩
abbrev cX0_add : ByteArray := prog_2_method_10_code
def yX0_add : MethodName := ⟨RX0, "add", "(IIJI)V"⟩
abbrev cX0_addAgain : ByteArray := prog_2_method_11_code
def yX0_addAgain : MethodName := ⟨RX0, "addAgain", "(IJ)V"⟩
abbrev cX0_removeLatest : ByteArray := prog_2_method_12_code
def yX0_removeLatest : MethodName := ⟨RX0, "removeLatest", "()V"⟩
abbrev cX0_allRecords : ByteArray := prog_2_method_13_code
def yX0_allRecords : MethodName := ⟨RX0, "allRecords", "()I"⟩
abbrev cX0_bitOf : ByteArray := prog_2_method_14_code
def yX0_bitOf : MethodName := ⟨RX0, "bitOf", "(I)I"⟩
abbrev cX0_holdsOriginals : ByteArray := prog_2_method_15_code
def yX0_holdsOriginals : MethodName := ⟨RX0, "holdsOriginals", "(I)Z"⟩
abbrev cX0_isBirth : ByteArray := prog_2_method_16_code
def yX0_isBirth : MethodName := ⟨RX0, "isBirth", "(I)Z"⟩
def RX1 : String := "KinBench$Ear"
def TX1 : u_T := fun k => match k with
  | 0 => ("KinBench$Ear", "alike", "[Z", true)
  | _ => ("KinBench$Ear", "row", "[I", true)
def tyX1 : Nat → FieldType := fun k => match k with
  | 0 => .array .boolean
  | _ => .array .int
theorem nmX1 : ∀ a, a < 2 → ∀ b, b < 2 → a ≠ b → (TX1 a).2.1 ≠ (TX1 b).2.1 := by decide +kernel
theorem tyX1_ok : ∀ k, k < 2 → parseFieldDescriptor (TX1 k).2.2.1 = some (tyX1 k) := by decide +kernel
abbrev cX1_init : ByteArray := prog_3_method_1_code
def yX1_init : MethodName := ⟨RX1, "<init>", "()V"⟩
abbrev cX1_canBe : ByteArray := prog_3_method_2_code
def yX1_canBe : MethodName := ⟨RX1, "canBe", "(IIZ)Z"⟩
abbrev cX1_setAlike : ByteArray := prog_3_method_3_code
def yX1_setAlike : MethodName := ⟨RX1, "setAlike", "(IIZ)V"⟩
abbrev cX1_soundAlike : ByteArray := prog_3_method_4_code
def yX1_soundAlike : MethodName := ⟨RX1, "soundAlike", "(II)Z"⟩
abbrev cX1_distance : ByteArray := prog_3_method_5_code
def yX1_distance : MethodName := ⟨RX1, "distance", "(JJ)I"⟩
def RX2 : String := "KinBench$Kinship"
def TX2 : u_T := fun k => match k with
  | 0 => ("KinBench$Kinship", "archive", "LKinBench$Archive;", true)
  | 1 => ("KinBench$Kinship", "child", "[I", true)
  | 2 => ("KinBench$Kinship", "up", "[I", true)
  | 3 => ("KinBench$Kinship", "back", "[I", true)
  | _ => ("KinBench$Kinship", "births", "I", false)
def tyX2 : Nat → FieldType := fun k => match k with
  | 0 => .object "KinBench$Archive"
  | 1 => .array .int
  | 2 => .array .int
  | 3 => .array .int
  | _ => .int
theorem nmX2 : ∀ a, a < 5 → ∀ b, b < 5 → a ≠ b → (TX2 a).2.1 ≠ (TX2 b).2.1 := by decide +kernel
theorem tyX2_ok : ∀ k, k < 5 → parseFieldDescriptor (TX2 k).2.2.1 = some (tyX2 k) := by decide +kernel
abbrev cX2_init : ByteArray := prog_4_method_1_code
def yX2_init : MethodName := ⟨RX2, "<init>", "(LKinBench$Archive;)V"⟩
abbrev cX2_prepare : ByteArray := prog_4_method_2_code
def yX2_prepare : MethodName := ⟨RX2, "prepare", "()V"⟩
abbrev cX2_tell : ByteArray := prog_4_method_3_code
def yX2_tell : MethodName := ⟨RX2, "tell", "(JII)I"⟩
abbrev cX2_climb : ByteArray := prog_4_method_4_code
def yX2_climb : MethodName := ⟨RX2, "climb", "(JI[I)V"⟩
abbrev cX2_parentsOf : ByteArray := prog_4_method_5_code
def yX2_parentsOf : MethodName := ⟨RX2, "parentsOf", "(JI)I"⟩
def RX3 : String := "KinBench$Names"
def TX3 : u_T := fun k => match k with
  | _ => ("", "", "", false)
def tyX3 : Nat → FieldType := fun k => match k with
  | _ => .int
theorem nmX3 : ∀ a, a < 0 → ∀ b, b < 0 → a ≠ b → (TX3 a).2.1 ≠ (TX3 b).2.1 := by decide +kernel
theorem tyX3_ok : ∀ k, k < 0 → parseFieldDescriptor (TX3 k).2.2.1 = some (tyX3 k) := by decide +kernel
abbrev cX3_isLetter : ByteArray := prog_5_method_2_code
def yX3_isLetter : MethodName := ⟨RX3, "isLetter", "(I)Z"⟩
abbrev cX3_isName : ByteArray := prog_5_method_3_code
def yX3_isName : MethodName := ⟨RX3, "isName", "(J)Z"⟩
abbrev cX3_lengthOf : ByteArray := prog_5_method_4_code
def yX3_lengthOf : MethodName := ⟨RX3, "lengthOf", "(J)I"⟩
abbrev cX3_letterOf : ByteArray := prog_5_method_5_code
def yX3_letterOf : MethodName := ⟨RX3, "letterOf", "(JI)I"⟩
def RX4 : String := "KinBench$People"
def TX4 : u_T := fun k => match k with
  | 0 => ("KinBench$People", "table", "LKinBench$Table;", true)
  | 1 => ("KinBench$People", "earliest", "[I", true)
  | 2 => ("KinBench$People", "latest", "[I", true)
  | 3 => ("KinBench$People", "marks", "[I", true)
  | 4 => ("KinBench$People", "alive", "[I", true)
  | 5 => ("KinBench$People", "dead", "[I", true)
  | 6 => ("KinBench$People", "size", "[I", true)
  | 7 => ("KinBench$People", "member", "[I", true)
  | 8 => ("KinBench$People", "oldEarliest", "[I", true)
  | 9 => ("KinBench$People", "oldLatest", "[I", true)
  | 10 => ("KinBench$People", "oldMarks", "[I", true)
  | 11 => ("KinBench$People", "oldAlive", "[I", true)
  | 12 => ("KinBench$People", "oldDead", "[I", true)
  | _ => ("KinBench$People", "count", "I", false)
def tyX4 : Nat → FieldType := fun k => match k with
  | 0 => .object "KinBench$Table"
  | 1 => .array .int
  | 2 => .array .int
  | 3 => .array .int
  | 4 => .array .int
  | 5 => .array .int
  | 6 => .array .int
  | 7 => .array .int
  | 8 => .array .int
  | 9 => .array .int
  | 10 => .array .int
  | 11 => .array .int
  | 12 => .array .int
  | _ => .int
theorem nmX4 : ∀ a, a < 14 → ∀ b, b < 14 → a ≠ b → (TX4 a).2.1 ≠ (TX4 b).2.1 := by decide +kernel
theorem tyX4_ok : ∀ k, k < 14 → parseFieldDescriptor (TX4 k).2.2.1 = some (tyX4 k) := by decide +kernel
abbrev cX4_init : ByteArray := prog_6_method_1_code
def yX4_init : MethodName := ⟨RX4, "<init>", "(LKinBench$Table;)V"⟩
abbrev cX4_admits : ByteArray := prog_6_method_2_code
def yX4_admits : MethodName := ⟨RX4, "admits", "(II)Z"⟩
abbrev cX4_added : ByteArray := prog_6_method_3_code
def yX4_added : MethodName := ⟨RX4, "added", "(II)I"⟩
abbrev cX4_join : ByteArray := prog_6_method_4_code
def yX4_join : MethodName := ⟨RX4, "join", "(II)V"⟩
abbrev cX4_start : ByteArray := prog_6_method_5_code
def yX4_start : MethodName := ⟨RX4, "start", "(II)V"⟩
abbrev cX4_keepOld : ByteArray := prog_6_method_6_code
def yX4_keepOld : MethodName := ⟨RX4, "keepOld", "(II)V"⟩
abbrev cX4_leave : ByteArray := prog_6_method_7_code
def yX4_leave : MethodName := ⟨RX4, "leave", "(II)V"⟩
def RX5 : String := "KinBench$Rules"
def TX5 : u_T := fun k => match k with
  | 0 => ("KinBench$Rules", "grown", "I", false)
  | 1 => ("KinBench$Rules", "mother", "I", false)
  | 2 => ("KinBench$Rules", "father", "I", false)
  | 3 => ("KinBench$Rules", "life", "I", false)
  | 4 => ("KinBench$Rules", "round", "I", false)
  | 5 => ("KinBench$Rules", "budget", "I", false)
  | _ => ("KinBench$Rules", "price", "I", false)
def tyX5 : Nat → FieldType := fun k => match k with
  | 0 => .int
  | 1 => .int
  | 2 => .int
  | 3 => .int
  | 4 => .int
  | 5 => .int
  | _ => .int
theorem nmX5 : ∀ a, a < 7 → ∀ b, b < 7 → a ≠ b → (TX5 a).2.1 ≠ (TX5 b).2.1 := by decide +kernel
theorem tyX5_ok : ∀ k, k < 7 → parseFieldDescriptor (TX5 k).2.2.1 = some (tyX5 k) := by decide +kernel
abbrev cX5_init : ByteArray := prog_7_method_1_code
def yX5_init : MethodName := ⟨RX5, "<init>", "()V"⟩
abbrev cX5_setLaws : ByteArray := prog_7_method_2_code
def yX5_setLaws : MethodName := ⟨RX5, "setLaws", "(IIIII)Z"⟩
abbrev cX5_setBudget : ByteArray := prog_7_method_3_code
def yX5_setBudget : MethodName := ⟨RX5, "setBudget", "(II)Z"⟩
abbrev cX5_earliestBirth : ByteArray := prog_7_method_4_code
def yX5_earliestBirth : MethodName := ⟨RX5, "earliestBirth", "(III)I"⟩
abbrev cX5_latestBirth : ByteArray := prog_7_method_5_code
def yX5_latestBirth : MethodName := ⟨RX5, "latestBirth", "(III)I"⟩
def RX6 : String := "KinBench$Seeker"
def TX6 : u_T := fun k => match k with
  | 0 => ("KinBench$Seeker", "archive", "LKinBench$Archive;", true)
  | 1 => ("KinBench$Seeker", "table", "LKinBench$Table;", true)
  | 2 => ("KinBench$Seeker", "people", "LKinBench$People;", true)
  | 3 => ("KinBench$Seeker", "order", "[I", true)
  | 4 => ("KinBench$Seeker", "personOf", "[I", true)
  | 5 => ("KinBench$Seeker", "joined", "[I", true)
  | 6 => ("KinBench$Seeker", "rolesOf", "[I", true)
  | 7 => ("KinBench$Seeker", "ways", "[J", true)
  | 8 => ("KinBench$Seeker", "costs", "[I", true)
  | 9 => ("KinBench$Seeker", "count", "I", false)
  | 10 => ("KinBench$Seeker", "cost", "I", false)
  | 11 => ("KinBench$Seeker", "tries", "I", false)
  | 12 => ("KinBench$Seeker", "found", "I", false)
  | _ => ("KinBench$Seeker", "spent", "Z", false)
def tyX6 : Nat → FieldType := fun k => match k with
  | 0 => .object "KinBench$Archive"
  | 1 => .object "KinBench$Table"
  | 2 => .object "KinBench$People"
  | 3 => .array .int
  | 4 => .array .int
  | 5 => .array .int
  | 6 => .array .int
  | 7 => .array .long
  | 8 => .array .int
  | 9 => .int
  | 10 => .int
  | 11 => .int
  | 12 => .int
  | _ => .boolean
theorem nmX6 : ∀ a, a < 14 → ∀ b, b < 14 → a ≠ b → (TX6 a).2.1 ≠ (TX6 b).2.1 := by decide +kernel
theorem tyX6_ok : ∀ k, k < 14 → parseFieldDescriptor (TX6 k).2.2.1 = some (tyX6 k) := by decide +kernel
abbrev cX6_init : ByteArray := prog_8_method_1_code
def yX6_init : MethodName := ⟨RX6, "<init>", "(LKinBench$Archive;LKinBench$Table;I)V"⟩
abbrev cX6_seek : ByteArray := prog_8_method_2_code
def yX6_seek : MethodName := ⟨RX6, "seek", "(I)V"⟩
abbrev cX6_place : ByteArray := prog_8_method_3_code
def yX6_place : MethodName := ⟨RX6, "place", "(LKinBench$Seeker;I)V"⟩
abbrev cX6_mayTry : ByteArray := prog_8_method_4_code
def yX6_mayTry : MethodName := ⟨RX6, "mayTry", "()Z"⟩
abbrev cX6_keep : ByteArray := prog_8_method_5_code
def yX6_keep : MethodName := ⟨RX6, "keep", "()V"⟩
abbrev cX6_packed : ByteArray := prog_8_method_6_code
def yX6_packed : MethodName := ⟨RX6, "packed", "()J"⟩
abbrev cX6_narrowJoined : ByteArray := prog_8_method_7_code
def yX6_narrowJoined : MethodName := ⟨RX6, "narrowJoined", "()V"⟩
abbrev cX6_way : ByteArray := prog_8_method_8_code
def yX6_way : MethodName := ⟨RX6, "way", "(I)J"⟩
abbrev cX6_costOf : ByteArray := prog_8_method_9_code
def yX6_costOf : MethodName := ⟨RX6, "costOf", "(I)I"⟩
abbrev cX6_joinsAlways : ByteArray := prog_8_method_10_code
def yX6_joinsAlways : MethodName := ⟨RX6, "joinsAlways", "(II)Z"⟩
abbrev cX6_firstWay : ByteArray := prog_8_method_11_code
def yX6_firstWay : MethodName := ⟨RX6, "firstWay", "(IIZ)I"⟩
def RX7 : String := "KinBench$Sets"
def TX7 : u_T := fun k => match k with
  | 0 => ("KinBench$Sets", "archive", "LKinBench$Archive;", true)
  | 1 => ("KinBench$Sets", "seeker", "LKinBench$Seeker;", true)
  | 2 => ("KinBench$Sets", "state", "[I", true)
  | _ => ("KinBench$Sets", "joined", "[I", true)
def tyX7 : Nat → FieldType := fun k => match k with
  | 0 => .object "KinBench$Archive"
  | 1 => .object "KinBench$Seeker"
  | 2 => .array .int
  | _ => .array .int
theorem nmX7 : ∀ a, a < 4 → ∀ b, b < 4 → a ≠ b → (TX7 a).2.1 ≠ (TX7 b).2.1 := by decide +kernel
theorem tyX7_ok : ∀ k, k < 4 → parseFieldDescriptor (TX7 k).2.2.1 = some (tyX7 k) := by decide +kernel
abbrev cX7_init : ByteArray := prog_9_method_1_code
def yX7_init : MethodName := ⟨RX7, "<init>", "(LKinBench$Archive;LKinBench$Seeker;)V"⟩
abbrev cX7_forget : ByteArray := prog_9_method_2_code
def yX7_forget : MethodName := ⟨RX7, "forget", "()V"⟩
abbrev cX7_leastQuarrel : ByteArray := prog_9_method_3_code
def yX7_leastQuarrel : MethodName := ⟨RX7, "leastQuarrel", "()I"⟩
abbrev cX7_leastProof : ByteArray := prog_9_method_4_code
def yX7_leastProof : MethodName := ⟨RX7, "leastProof", "(II)I"⟩
abbrev cX7_isLookedAt : ByteArray := prog_9_method_5_code
def yX7_isLookedAt : MethodName := ⟨RX7, "isLookedAt", "(III)Z"⟩
abbrev cX7_joins : ByteArray := prog_9_method_6_code
def yX7_joins : MethodName := ⟨RX7, "joins", "(III)Z"⟩
abbrev cX7_lookAt : ByteArray := prog_9_method_7_code
def yX7_lookAt : MethodName := ⟨RX7, "lookAt", "(I)I"⟩
def RX8 : String := "KinBench$Table"
def TX8 : u_T := fun k => match k with
  | 0 => ("KinBench$Table", "archive", "LKinBench$Archive;", true)
  | 1 => ("KinBench$Table", "rules", "LKinBench$Rules;", true)
  | 2 => ("KinBench$Table", "ear", "LKinBench$Ear;", true)
  | 3 => ("KinBench$Table", "earliest", "[I", true)
  | 4 => ("KinBench$Table", "latest", "[I", true)
  | 5 => ("KinBench$Table", "marks", "[I", true)
  | 6 => ("KinBench$Table", "clashes", "[I", true)
  | 7 => ("KinBench$Table", "alive", "[I", true)
  | 8 => ("KinBench$Table", "dead", "[I", true)
  | 9 => ("KinBench$Table", "apart", "[I", true)
  | 10 => ("KinBench$Table", "budget", "I", false)
  | _ => ("KinBench$Table", "price", "I", false)
def tyX8 : Nat → FieldType := fun k => match k with
  | 0 => .object "KinBench$Archive"
  | 1 => .object "KinBench$Rules"
  | 2 => .object "KinBench$Ear"
  | 3 => .array .int
  | 4 => .array .int
  | 5 => .array .int
  | 6 => .array .int
  | 7 => .array .int
  | 8 => .array .int
  | 9 => .array .int
  | 10 => .int
  | _ => .int
theorem nmX8 : ∀ a, a < 12 → ∀ b, b < 12 → a ≠ b → (TX8 a).2.1 ≠ (TX8 b).2.1 := by decide +kernel
theorem tyX8_ok : ∀ k, k < 12 → parseFieldDescriptor (TX8 k).2.2.1 = some (tyX8 k) := by decide +kernel
abbrev cX8_init : ByteArray := prog_10_method_1_code
def yX8_init : MethodName := ⟨RX8, "<init>", "(LKinBench$Archive;LKinBench$Rules;LKinBench$Ear;)V"⟩
abbrev cX8_prepare : ByteArray := prog_10_method_2_code
def yX8_prepare : MethodName := ⟨RX8, "prepare", "()V"⟩
abbrev cX8_prepareYears : ByteArray := prog_10_method_3_code
def yX8_prepareYears : MethodName := ⟨RX8, "prepareYears", "(I)V"⟩
abbrev cX8_prepareMarks : ByteArray := prog_10_method_4_code
def yX8_prepareMarks : MethodName := ⟨RX8, "prepareMarks", "(I)V"⟩
abbrev cX8_prepareDistances : ByteArray := prog_10_method_5_code
def yX8_prepareDistances : MethodName := ⟨RX8, "prepareDistances", "(I)V"⟩
def RX9 : String := "KinBench"
def TX9 : u_T := fun k => match k with
  | 0 => ("KinBench", "archive", "LKinBench$Archive;", true)
  | 1 => ("KinBench", "rules", "LKinBench$Rules;", true)
  | 2 => ("KinBench", "ear", "LKinBench$Ear;", true)
  | 3 => ("KinBench", "table", "LKinBench$Table;", true)
  | 4 => ("KinBench", "whole", "LKinBench$Seeker;", true)
  | 5 => ("KinBench", "sets", "LKinBench$Sets;", true)
  | 6 => ("KinBench", "kinship", "LKinBench$Kinship;", true)
  | _ => ("KinBench", "sought", "Z", false)
def tyX9 : Nat → FieldType := fun k => match k with
  | 0 => .object "KinBench$Archive"
  | 1 => .object "KinBench$Rules"
  | 2 => .object "KinBench$Ear"
  | 3 => .object "KinBench$Table"
  | 4 => .object "KinBench$Seeker"
  | 5 => .object "KinBench$Sets"
  | 6 => .object "KinBench$Kinship"
  | _ => .boolean
theorem nmX9 : ∀ a, a < 8 → ∀ b, b < 8 → a ≠ b → (TX9 a).2.1 ≠ (TX9 b).2.1 := by decide +kernel
theorem tyX9_ok : ∀ k, k < 8 → parseFieldDescriptor (TX9 k).2.2.1 = some (tyX9 k) := by decide +kernel
abbrev cX9_init : ByteArray := prog_1_method_1_code
def yX9_init : MethodName := ⟨RX9, "<init>", "()V"⟩
abbrev cX9_birth : ByteArray := prog_1_method_2_code
def yX9_birth : MethodName := ⟨RX9, "birth", "(IIJJJ)I"⟩
abbrev cX9_found : ByteArray := prog_1_method_3_code
def yX9_found : MethodName := ⟨RX9, "found", "(IIJ)I"⟩
abbrev cX9_wedding : ByteArray := prog_1_method_4_code
def yX9_wedding : MethodName := ⟨RX9, "wedding", "(IJJ)I"⟩
abbrev cX9_death : ByteArray := prog_1_method_5_code
def yX9_death : MethodName := ⟨RX9, "death", "(IIJI)I"⟩
abbrev cX9_list : ByteArray := prog_1_method_6_code
def yX9_list : MethodName := ⟨RX9, "list", "(IIJI)I"⟩
abbrev cX9_witness : ByteArray := prog_1_method_7_code
def yX9_witness : MethodName := ⟨RX9, "witness", "(IIJIJ)I"⟩
abbrev cX9_copy : ByteArray := prog_1_method_8_code
def yX9_copy : MethodName := ⟨RX9, "copy", "(IJJJ)I"⟩
abbrev cX9_drop : ByteArray := prog_1_method_9_code
def yX9_drop : MethodName := ⟨RX9, "drop", "()Z"⟩
abbrev cX9_laws : ByteArray := prog_1_method_10_code
def yX9_laws : MethodName := ⟨RX9, "laws", "(IIIII)Z"⟩
abbrev cX9_sound : ByteArray := prog_1_method_11_code
def yX9_sound : MethodName := ⟨RX9, "sound", "(IIZ)Z"⟩
abbrev cX9_budget : ByteArray := prog_1_method_12_code
def yX9_budget : MethodName := ⟨RX9, "budget", "(II)Z"⟩
abbrev cX9_far : ByteArray := prog_1_method_13_code
def yX9_far : MethodName := ⟨RX9, "far", "(JJ)I"⟩
abbrev cX9_role : ByteArray := prog_1_method_14_code
def yX9_role : MethodName := ⟨RX9, "role", "(II)I"⟩
abbrev cX9_ways : ByteArray := prog_1_method_15_code
def yX9_ways : MethodName := ⟨RX9, "ways", "()I"⟩
abbrev cX9_person : ByteArray := prog_1_method_16_code
def yX9_person : MethodName := ⟨RX9, "person", "(II)I"⟩
abbrev cX9_cost : ByteArray := prog_1_method_17_code
def yX9_cost : MethodName := ⟨RX9, "cost", "(I)I"⟩
abbrev cX9_link : ByteArray := prog_1_method_18_code
def yX9_link : MethodName := ⟨RX9, "link", "(II)I"⟩
abbrev cX9_first : ByteArray := prog_1_method_19_code
def yX9_first : MethodName := ⟨RX9, "first", "(IIZ)I"⟩
abbrev cX9_why : ByteArray := prog_1_method_20_code
def yX9_why : MethodName := ⟨RX9, "why", "(II)I"⟩
abbrev cX9_quarrel : ByteArray := prog_1_method_21_code
def yX9_quarrel : MethodName := ⟨RX9, "quarrel", "()I"⟩
abbrev cX9_kin : ByteArray := prog_1_method_22_code
def yX9_kin : MethodName := ⟨RX9, "kin", "(III)I"⟩
abbrev cX9_always : ByteArray := prog_1_method_23_code
def yX9_always : MethodName := ⟨RX9, "always", "(II)I"⟩
abbrev cX9_about : ByteArray := prog_1_method_24_code
def yX9_about : MethodName := ⟨RX9, "about", "(I)I"⟩
abbrev cX9_single : ByteArray := prog_1_method_25_code
def yX9_single : MethodName := ⟨RX9, "single", "(IIIJI)I"⟩
abbrev cX9_closeRecord : ByteArray := prog_1_method_26_code
def yX9_closeRecord : MethodName := ⟨RX9, "closeRecord", "()I"⟩
abbrev cX9_seekWays : ByteArray := prog_1_method_27_code
def yX9_seekWays : MethodName := ⟨RX9, "seekWays", "()V"⟩
abbrev cX9_haveWays : ByteArray := prog_1_method_28_code
def yX9_haveWays : MethodName := ⟨RX9, "haveWays", "()Z"⟩
abbrev cX9_isWay : ByteArray := prog_1_method_29_code
def yX9_isWay : MethodName := ⟨RX9, "isWay", "(I)Z"⟩
abbrev cX9_areRoles : ByteArray := prog_1_method_30_code
def yX9_areRoles : MethodName := ⟨RX9, "areRoles", "(II)Z"⟩
abbrev cX9_isYear : ByteArray := prog_1_method_31_code
def yX9_isYear : MethodName := ⟨RX9, "isYear", "(I)Z"⟩
abbrev cX9_isSex : ByteArray := prog_1_method_32_code
def yX9_isSex : MethodName := ⟨RX9, "isSex", "(I)Z"⟩
abbrev cX9_isAge : ByteArray := prog_1_method_33_code
def yX9_isAge : MethodName := ⟨RX9, "isAge", "(I)Z"⟩
abbrev cX9_isPlace : ByteArray := prog_1_method_34_code
def yX9_isPlace : MethodName := ⟨RX9, "isPlace", "(I)Z"⟩
abbrev cX9_personIn : ByteArray := prog_1_method_35_code
def yX9_personIn : MethodName := ⟨RX9, "personIn", "(JI)I"⟩
def RX10 : String := "KinBenchModel"
def TX10 : u_T := fun k => match k with
  | 0 => ("KinBenchModel", "rYear", "[I", true)
  | 1 => ("KinBenchModel", "rFirst", "[I", true)
  | 2 => ("KinBenchModel", "rOf", "[I", true)
  | 3 => ("KinBenchModel", "rKind", "[I", true)
  | 4 => ("KinBenchModel", "oRecord", "[I", true)
  | 5 => ("KinBenchModel", "oSex", "[I", true)
  | 6 => ("KinBenchModel", "oAge", "[I", true)
  | 7 => ("KinBenchModel", "oSort", "[I", true)
  | 8 => ("KinBenchModel", "oOf", "[I", true)
  | 9 => ("KinBenchModel", "far", "[I", true)
  | 10 => ("KinBenchModel", "oName", "[J", true)
  | 11 => ("KinBenchModel", "areAlike", "[Z", true)
  | 12 => ("KinBenchModel", "records", "I", false)
  | 13 => ("KinBenchModel", "roles", "I", false)
  | 14 => ("KinBenchModel", "budget", "I", false)
  | 15 => ("KinBenchModel", "price", "I", false)
  | 16 => ("KinBenchModel", "grown", "I", false)
  | 17 => ("KinBenchModel", "mother", "I", false)
  | 18 => ("KinBenchModel", "father", "I", false)
  | 19 => ("KinBenchModel", "life", "I", false)
  | 20 => ("KinBenchModel", "round", "I", false)
  | 21 => ("KinBenchModel", "isSought", "Z", false)
  | 22 => ("KinBenchModel", "row", "[I", true)
  | 23 => ("KinBenchModel", "next", "[I", true)
  | 24 => ("KinBenchModel", "those", "[I", true)
  | 25 => ("KinBenchModel", "choice", "[I", true)
  | 26 => ("KinBenchModel", "costAt", "[I", true)
  | 27 => ("KinBenchModel", "people", "[I", true)
  | 28 => ("KinBenchModel", "many", "I", false)
  | 29 => ("KinBenchModel", "tries", "I", false)
  | 30 => ("KinBenchModel", "found", "I", false)
  | 31 => ("KinBenchModel", "isSpent", "Z", false)
  | 32 => ("KinBenchModel", "askA", "I", false)
  | 33 => ("KinBenchModel", "askB", "I", false)
  | 34 => ("KinBenchModel", "allHave", "Z", false)
  | 35 => ("KinBenchModel", "ways", "[B", true)
  | 36 => ("KinBenchModel", "costs", "[I", true)
  | 37 => ("KinBenchModel", "wayMany", "I", false)
  | 38 => ("KinBenchModel", "wasSpent", "Z", false)
  | 39 => ("KinBenchModel", "triesOfAll", "I", false)
  | 40 => ("KinBenchModel", "mothers", "[I", true)
  | _ => ("KinBenchModel", "fathers", "[I", true)
def tyX10 : Nat → FieldType := fun k => match k with
  | 0 => .array .int
  | 1 => .array .int
  | 2 => .array .int
  | 3 => .array .int
  | 4 => .array .int
  | 5 => .array .int
  | 6 => .array .int
  | 7 => .array .int
  | 8 => .array .int
  | 9 => .array .int
  | 10 => .array .long
  | 11 => .array .boolean
  | 12 => .int
  | 13 => .int
  | 14 => .int
  | 15 => .int
  | 16 => .int
  | 17 => .int
  | 18 => .int
  | 19 => .int
  | 20 => .int
  | 21 => .boolean
  | 22 => .array .int
  | 23 => .array .int
  | 24 => .array .int
  | 25 => .array .int
  | 26 => .array .int
  | 27 => .array .int
  | 28 => .int
  | 29 => .int
  | 30 => .int
  | 31 => .boolean
  | 32 => .int
  | 33 => .int
  | 34 => .boolean
  | 35 => .array .byte
  | 36 => .array .int
  | 37 => .int
  | 38 => .boolean
  | 39 => .int
  | 40 => .array .int
  | _ => .array .int
theorem nmX10 : ∀ a, a < 42 → ∀ b, b < 42 → a ≠ b → (TX10 a).2.1 ≠ (TX10 b).2.1 := by decide +kernel
theorem tyX10_ok : ∀ k, k < 42 → parseFieldDescriptor (TX10 k).2.2.1 = some (tyX10 k) := by decide +kernel
abbrev cX10_init : ByteArray := prog_12_method_1_code
def yX10_init : MethodName := ⟨RX10, "<init>", "()V"⟩
abbrev cX10_isName : ByteArray := prog_12_method_2_code
def yX10_isName : MethodName := ⟨RX10, "isName", "(J)Z"⟩
abbrev cX10_sizeOf : ByteArray := prog_12_method_3_code
def yX10_sizeOf : MethodName := ⟨RX10, "sizeOf", "(J)I"⟩
abbrev cX10_letter : ByteArray := prog_12_method_4_code
def yX10_letter : MethodName := ⟨RX10, "letter", "(JI)I"⟩
abbrev cX10_apart : ByteArray := prog_12_method_5_code
def yX10_apart : MethodName := ⟨RX10, "apart", "(JJ)I"⟩
abbrev cX10_far : ByteArray := prog_12_method_6_code
def yX10_far : MethodName := ⟨RX10, "far", "(JJ)I"⟩
abbrev cX10_fits : ByteArray := prog_12_method_7_code
def yX10_fits : MethodName := ⟨RX10, "fits", "(II)Z"⟩
abbrev cX10_isSex : ByteArray := prog_12_method_8_code
def yX10_isSex : MethodName := ⟨RX10, "isSex", "(I)Z"⟩
abbrev cX10_isAge : ByteArray := prog_12_method_9_code
def yX10_isAge : MethodName := ⟨RX10, "isAge", "(I)Z"⟩
abbrev cX10_open : ByteArray := prog_12_method_10_code
def yX10_open : MethodName := ⟨RX10, "open", "(II)I"⟩
abbrev cX10_add : ByteArray := prog_12_method_11_code
def yX10_add : MethodName := ⟨RX10, "add", "(IIIJI)V"⟩
abbrev cX10_birth : ByteArray := prog_12_method_12_code
def yX10_birth : MethodName := ⟨RX10, "birth", "(IIJJJ)I"⟩
abbrev cX10_found : ByteArray := prog_12_method_13_code
def yX10_found : MethodName := ⟨RX10, "found", "(IIJ)I"⟩
abbrev cX10_wedding : ByteArray := prog_12_method_14_code
def yX10_wedding : MethodName := ⟨RX10, "wedding", "(IJJ)I"⟩
abbrev cX10_death : ByteArray := prog_12_method_15_code
def yX10_death : MethodName := ⟨RX10, "death", "(IIJI)I"⟩
abbrev cX10_list : ByteArray := prog_12_method_16_code
def yX10_list : MethodName := ⟨RX10, "list", "(IIJI)I"⟩
abbrev cX10_one : ByteArray := prog_12_method_17_code
def yX10_one : MethodName := ⟨RX10, "one", "(IIJII)I"⟩
abbrev cX10_witness : ByteArray := prog_12_method_18_code
def yX10_witness : MethodName := ⟨RX10, "witness", "(IIJIJ)I"⟩
abbrev cX10_copy : ByteArray := prog_12_method_19_code
def yX10_copy : MethodName := ⟨RX10, "copy", "(IJJJ)I"⟩
abbrev cX10_drop : ByteArray := prog_12_method_20_code
def yX10_drop : MethodName := ⟨RX10, "drop", "()Z"⟩
abbrev cX10_laws : ByteArray := prog_12_method_21_code
def yX10_laws : MethodName := ⟨RX10, "laws", "(IIIII)Z"⟩
abbrev cX10_sound : ByteArray := prog_12_method_22_code
def yX10_sound : MethodName := ⟨RX10, "sound", "(IIZ)Z"⟩
abbrev cX10_budget : ByteArray := prog_12_method_23_code
def yX10_budget : MethodName := ⟨RX10, "budget", "(II)Z"⟩
abbrev cX10_isRole : ByteArray := prog_12_method_24_code
def yX10_isRole : MethodName := ⟨RX10, "isRole", "(I)Z"⟩
abbrev cX10_role : ByteArray := prog_12_method_25_code
def yX10_role : MethodName := ⟨RX10, "role", "(II)I"⟩
abbrev cX10_earliest : ByteArray := prog_12_method_26_code
def yX10_earliest : MethodName := ⟨RX10, "earliest", "(I)I"⟩
abbrev cX10_latest : ByteArray := prog_12_method_27_code
def yX10_latest : MethodName := ⟨RX10, "latest", "(I)I"⟩
abbrev cX10_outlives : ByteArray := prog_12_method_28_code
def yX10_outlives : MethodName := ⟨RX10, "outlives", "(II)Z"⟩
abbrev cX10_areTwo : ByteArray := prog_12_method_29_code
def yX10_areTwo : MethodName := ⟨RX10, "areTwo", "(III)Z"⟩
abbrev cX10_canBeOne : ByteArray := prog_12_method_30_code
def yX10_canBeOne : MethodName := ⟨RX10, "canBeOne", "(II)Z"⟩
abbrev cX10_can : ByteArray := prog_12_method_31_code
def yX10_can : MethodName := ⟨RX10, "can", "(II)Z"⟩
abbrev cX10_hasMore : ByteArray := prog_12_method_32_code
def yX10_hasMore : MethodName := ⟨RX10, "hasMore", "(I)Z"⟩
abbrev cX10_personOf : ByteArray := prog_12_method_33_code
def yX10_personOf : MethodName := ⟨RX10, "personOf", "(II)I"⟩
abbrev cX10_comes : ByteArray := prog_12_method_34_code
def yX10_comes : MethodName := ⟨RX10, "comes", "(I)V"⟩
abbrev cX10_seek : ByteArray := prog_12_method_35_code
def yX10_seek : MethodName := ⟨RX10, "seek", "(I)V"⟩
abbrev cX10_soughtAll : ByteArray := prog_12_method_36_code
def yX10_soughtAll : MethodName := ⟨RX10, "soughtAll", "()V"⟩
abbrev cX10_ways : ByteArray := prog_12_method_37_code
def yX10_ways : MethodName := ⟨RX10, "ways", "()I"⟩
abbrev cX10_isWay : ByteArray := prog_12_method_38_code
def yX10_isWay : MethodName := ⟨RX10, "isWay", "(I)Z"⟩
abbrev cX10_at : ByteArray := prog_12_method_39_code
def yX10_at : MethodName := ⟨RX10, "at", "(II)I"⟩
abbrev cX10_person : ByteArray := prog_12_method_40_code
def yX10_person : MethodName := ⟨RX10, "person", "(II)I"⟩
abbrev cX10_cost : ByteArray := prog_12_method_41_code
def yX10_cost : MethodName := ⟨RX10, "cost", "(I)I"⟩
abbrev cX10_isLink : ByteArray := prog_12_method_42_code
def yX10_isLink : MethodName := ⟨RX10, "isLink", "(II)Z"⟩
abbrev cX10_link : ByteArray := prog_12_method_43_code
def yX10_link : MethodName := ⟨RX10, "link", "(II)I"⟩
abbrev cX10_first : ByteArray := prog_12_method_44_code
def yX10_first : MethodName := ⟨RX10, "first", "(IIZ)I"⟩
abbrev cX10_isSet : ByteArray := prog_12_method_45_code
def yX10_isSet : MethodName := ⟨RX10, "isSet", "(I)Z"⟩
abbrev cX10_bitsOf : ByteArray := prog_12_method_46_code
def yX10_bitsOf : MethodName := ⟨RX10, "bitsOf", "(I)I"⟩
abbrev cX10_least : ByteArray := prog_12_method_47_code
def yX10_least : MethodName := ⟨RX10, "least", "(Z)I"⟩
abbrev cX10_why : ByteArray := prog_12_method_48_code
def yX10_why : MethodName := ⟨RX10, "why", "(II)I"⟩
abbrev cX10_quarrel : ByteArray := prog_12_method_49_code
def yX10_quarrel : MethodName := ⟨RX10, "quarrel", "()I"⟩
abbrev cX10_parents : ByteArray := prog_12_method_50_code
def yX10_parents : MethodName := ⟨RX10, "parents", "(I)V"⟩
abbrev cX10_up : ByteArray := prog_12_method_51_code
def yX10_up : MethodName := ⟨RX10, "up", "(I)I"⟩
abbrev cX10_down : ByteArray := prog_12_method_52_code
def yX10_down : MethodName := ⟨RX10, "down", "(I)I"⟩
abbrev cX10_kinOf : ByteArray := prog_12_method_53_code
def yX10_kinOf : MethodName := ⟨RX10, "kinOf", "(III)I"⟩
abbrev cX10_kin : ByteArray := prog_12_method_54_code
def yX10_kin : MethodName := ⟨RX10, "kin", "(III)I"⟩
abbrev cX10_always : ByteArray := prog_12_method_55_code
def yX10_always : MethodName := ⟨RX10, "always", "(II)I"⟩
abbrev cX10_about : ByteArray := prog_12_method_56_code
def yX10_about : MethodName := ⟨RX10, "about", "(I)I"⟩
def RJ6 : String := "java/lang/Integer"
def TJ6 : u_T := fun k => match k with
  | _ => ("", "", "", false)
def tyJ6 : Nat → FieldType := fun k => match k with
  | _ => .int
theorem nmJ6 : ∀ a, a < 0 → ∀ b, b < 0 → a ≠ b → (TJ6 a).2.1 ≠ (TJ6 b).2.1 := by decide +kernel
theorem tyJ6_ok : ∀ k, k < 0 → parseFieldDescriptor (TJ6 k).2.2.1 = some (tyJ6 k) := by decide +kernel
abbrev cJ6_bitCount_0f7a4 : ByteArray := prog_13_method_49_code
def yJ6_bitCount_0f7a4 : MethodName := ⟨RJ6, "bitCount", "(I)I"⟩
def RJ9 : String := "java/lang/Math"
def TJ9 : u_T := fun k => match k with
  | _ => ("", "", "", false)
def tyJ9 : Nat → FieldType := fun k => match k with
  | _ => .int
theorem nmJ9 : ∀ a, a < 0 → ∀ b, b < 0 → a ≠ b → (TJ9 a).2.1 ≠ (TJ9 b).2.1 := by decide +kernel
theorem tyJ9_ok : ∀ k, k < 0 → parseFieldDescriptor (TJ9 k).2.2.1 = some (tyJ9 k) := by decide +kernel
abbrev cJ9_max_7cf53 : ByteArray := prog_14_method_65_code
def yJ9_max_7cf53 : MethodName := ⟨RJ9, "max", "(II)I"⟩
abbrev cJ9_min_7cf53 : ByteArray := prog_14_method_69_code
def yJ9_min_7cf53 : MethodName := ⟨RJ9, "min", "(II)I"⟩
def RJ10 : String := "java/lang/System"
def TJ10 : u_T := fun k => match k with
  | _ => ("", "", "", false)
def tyJ10 : Nat → FieldType := fun k => match k with
  | _ => .int
theorem nmJ10 : ∀ a, a < 0 → ∀ b, b < 0 → a ≠ b → (TJ10 a).2.1 ≠ (TJ10 b).2.1 := by decide +kernel
theorem tyJ10_ok : ∀ k, k < 0 → parseFieldDescriptor (TJ10 k).2.2.1 = some (tyJ10 k) := by decide +kernel
def RJ7 : String := "java/util/Arrays"
def TJ7 : u_T := fun k => match k with
  | _ => ("", "", "", false)
def tyJ7 : Nat → FieldType := fun k => match k with
  | _ => .int
theorem nmJ7 : ∀ a, a < 0 → ∀ b, b < 0 → a ≠ b → (TJ7 a).2.1 ≠ (TJ7 b).2.1 := by decide +kernel
theorem tyJ7_ok : ∀ k, k < 0 → parseFieldDescriptor (TJ7 k).2.2.1 = some (tyJ7 k) := by decide +kernel
abbrev cJ7_fill_53178 : ByteArray := prog_16_method_103_code
def yJ7_fill_53178 : MethodName := ⟨RJ7, "fill", "([II)V"⟩
def RL : String := "KinBenchLaw"
abbrev vwCl : List vw_C := [(RX0, TX0, 13), (RX1, TX1, 2), (RX2, TX2, 5), (RX4, TX4, 14), (RX5, TX5, 7), (RX6, TX6, 14), (RX7, TX7, 4), (RX8, TX8, 12), (RX9, TX9, 8), (RX10, TX10, 42)]
