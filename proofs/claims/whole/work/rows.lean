section
-- ===== PART A: goes FIRST, ahead of the names: the tables' words, and 'selects' of the private methods out of them =====
/-- a private method of a class that the tables say can be made, by its rows of tables_1 -/
def lw_okq (q : MethodName × Nat) : Prop := (q.1.cls ≠ "java/lang/invoke/MethodHandle" ∧ q.1.cls ≠ "java/lang/invoke/VarHandle") ∧ Cond.instantiable q.1.cls q.2 ∈ tables_1 ∧ Cond.privateMethod q.1 ∈ tables_1 ∧ Cond.instanceMethod q.1 ∈ tables_1
theorem lw_p0 : lw_okq (⟨"ArchiveOfDeltas", "refuse", "(I)I"⟩, 10) := ⟨⟨by decide +kernel, by decide +kernel⟩, List.mem_of_getElem? (i := 18) (by decide +kernel), List.mem_of_getElem? (i := 281) (by decide +kernel), List.mem_of_getElem? (i := 282) (by decide +kernel)⟩
theorem lw_p1 : lw_okq (⟨"ArchiveOfDeltas$Told", "faultIn", "(I)I"⟩, 2) := ⟨⟨by decide +kernel, by decide +kernel⟩, List.mem_of_getElem? (i := 217) (by decide +kernel), List.mem_of_getElem? (i := 301) (by decide +kernel), List.mem_of_getElem? (i := 302) (by decide +kernel)⟩
theorem lw_p2 : lw_okq (⟨"ArchiveOfDeltas$Told", "fitting", "(CI)I"⟩, 2) := ⟨⟨by decide +kernel, by decide +kernel⟩, List.mem_of_getElem? (i := 217) (by decide +kernel), List.mem_of_getElem? (i := 367) (by decide +kernel), List.mem_of_getElem? (i := 368) (by decide +kernel)⟩
theorem lw_p3 : lw_okq (⟨"ArchiveOfDeltas$Told", "lettersFrom", "(I)I"⟩, 2) := ⟨⟨by decide +kernel, by decide +kernel⟩, List.mem_of_getElem? (i := 217) (by decide +kernel), List.mem_of_getElem? (i := 377) (by decide +kernel), List.mem_of_getElem? (i := 378) (by decide +kernel)⟩
theorem lw_p4 : lw_okq (⟨"ArchiveOfDeltas$Told", "digitAt", "(I)I"⟩, 2) := ⟨⟨by decide +kernel, by decide +kernel⟩, List.mem_of_getElem? (i := 217) (by decide +kernel), List.mem_of_getElem? (i := 417) (by decide +kernel), List.mem_of_getElem? (i := 418) (by decide +kernel)⟩
theorem lw_p5 : lw_okq (⟨"ArchiveOfDeltas$Told", "comes", "(ILArchiveOfDeltas$Store;II)Z"⟩, 2) := ⟨⟨by decide +kernel, by decide +kernel⟩, List.mem_of_getElem? (i := 217) (by decide +kernel), List.mem_of_getElem? (i := 421) (by decide +kernel), List.mem_of_getElem? (i := 422) (by decide +kernel)⟩
theorem lw_p6 : lw_okq (⟨"ArchiveOfDeltas$Store", "reachOf", "(I)I"⟩, 8) := ⟨⟨by decide +kernel, by decide +kernel⟩, List.mem_of_getElem? (i := 26) (by decide +kernel), List.mem_of_getElem? (i := 447) (by decide +kernel), List.mem_of_getElem? (i := 448) (by decide +kernel)⟩
theorem lw_p7 : lw_okq (⟨"ArchiveOfDeltas$Told", "points", "(LArchiveOfDeltas$Store;II)Z"⟩, 2) := ⟨⟨by decide +kernel, by decide +kernel⟩, List.mem_of_getElem? (i := 217) (by decide +kernel), List.mem_of_getElem? (i := 451) (by decide +kernel), List.mem_of_getElem? (i := 452) (by decide +kernel)⟩
theorem lw_p8 : lw_okq (⟨"ArchiveOfDeltas$Told", "becomes", "(LArchiveOfDeltas$Store;II)Z"⟩, 2) := ⟨⟨by decide +kernel, by decide +kernel⟩, List.mem_of_getElem? (i := 217) (by decide +kernel), List.mem_of_getElem? (i := 458) (by decide +kernel), List.mem_of_getElem? (i := 459) (by decide +kernel)⟩
theorem lw_p9 : lw_okq (⟨"ArchiveOfDeltas$Told", "binds", "(LArchiveOfDeltas$Store;I)Z"⟩, 2) := ⟨⟨by decide +kernel, by decide +kernel⟩, List.mem_of_getElem? (i := 217) (by decide +kernel), List.mem_of_getElem? (i := 462) (by decide +kernel), List.mem_of_getElem? (i := 463) (by decide +kernel)⟩
theorem lw_p10 : lw_okq (⟨"ArchiveOfDeltas$Plan", "lineUp", "()V"⟩, 13) := ⟨⟨by decide +kernel, by decide +kernel⟩, List.mem_of_getElem? (i := 164) (by decide +kernel), List.mem_of_getElem? (i := 474) (by decide +kernel), List.mem_of_getElem? (i := 475) (by decide +kernel)⟩
theorem lw_p11 : lw_okq (⟨"ArchiveOfDeltas$Plan", "isAhead", "(II)Z"⟩, 13) := ⟨⟨by decide +kernel, by decide +kernel⟩, List.mem_of_getElem? (i := 164) (by decide +kernel), List.mem_of_getElem? (i := 479) (by decide +kernel), List.mem_of_getElem? (i := 480) (by decide +kernel)⟩
theorem lw_p12 : lw_okq (⟨"ArchiveOfDeltas$Plan", "choose", "(I)V"⟩, 13) := ⟨⟨by decide +kernel, by decide +kernel⟩, List.mem_of_getElem? (i := 164) (by decide +kernel), List.mem_of_getElem? (i := 483) (by decide +kernel), List.mem_of_getElem? (i := 484) (by decide +kernel)⟩
theorem lw_p13 : lw_okq (⟨"ArchiveOfDeltas$Plan", "mayBeBase", "(II)Z"⟩, 13) := ⟨⟨by decide +kernel, by decide +kernel⟩, List.mem_of_getElem? (i := 164) (by decide +kernel), List.mem_of_getElem? (i := 488) (by decide +kernel), List.mem_of_getElem? (i := 489) (by decide +kernel)⟩
theorem lw_p14 : lw_okq (⟨"ArchiveOfDeltas$Delta", "addStep", "(LArchiveOfDeltas$Numbers;LArchiveOfDeltas$Numbers;I)I"⟩, 4) := ⟨⟨by decide +kernel, by decide +kernel⟩, List.mem_of_getElem? (i := 62) (by decide +kernel), List.mem_of_getElem? (i := 500) (by decide +kernel), List.mem_of_getElem? (i := 501) (by decide +kernel)⟩
theorem lw_p15 : lw_okq (⟨"ArchiveOfDeltas$Delta", "put", "(II)V"⟩, 4) := ⟨⟨by decide +kernel, by decide +kernel⟩, List.mem_of_getElem? (i := 62) (by decide +kernel), List.mem_of_getElem? (i := 508) (by decide +kernel), List.mem_of_getElem? (i := 509) (by decide +kernel)⟩
def lw_privs_1 : List (MethodName × Nat) := [(⟨"ArchiveOfDeltas", "refuse", "(I)I"⟩, 10), (⟨"ArchiveOfDeltas$Told", "faultIn", "(I)I"⟩, 2), (⟨"ArchiveOfDeltas$Told", "fitting", "(CI)I"⟩, 2), (⟨"ArchiveOfDeltas$Told", "lettersFrom", "(I)I"⟩, 2), (⟨"ArchiveOfDeltas$Told", "digitAt", "(I)I"⟩, 2), (⟨"ArchiveOfDeltas$Told", "comes", "(ILArchiveOfDeltas$Store;II)Z"⟩, 2), (⟨"ArchiveOfDeltas$Store", "reachOf", "(I)I"⟩, 8), (⟨"ArchiveOfDeltas$Told", "points", "(LArchiveOfDeltas$Store;II)Z"⟩, 2), (⟨"ArchiveOfDeltas$Told", "becomes", "(LArchiveOfDeltas$Store;II)Z"⟩, 2), (⟨"ArchiveOfDeltas$Told", "binds", "(LArchiveOfDeltas$Store;I)Z"⟩, 2), (⟨"ArchiveOfDeltas$Plan", "lineUp", "()V"⟩, 13), (⟨"ArchiveOfDeltas$Plan", "isAhead", "(II)Z"⟩, 13), (⟨"ArchiveOfDeltas$Plan", "choose", "(I)V"⟩, 13), (⟨"ArchiveOfDeltas$Plan", "mayBeBase", "(II)Z"⟩, 13), (⟨"ArchiveOfDeltas$Delta", "addStep", "(LArchiveOfDeltas$Numbers;LArchiveOfDeltas$Numbers;I)I"⟩, 4), (⟨"ArchiveOfDeltas$Delta", "put", "(II)V"⟩, 4)]
theorem lw_r1 : ∀ q ∈ lw_privs_1, lw_okq q := List.forall_mem_cons.mpr ⟨lw_p0, List.forall_mem_cons.mpr ⟨lw_p1, List.forall_mem_cons.mpr ⟨lw_p2, List.forall_mem_cons.mpr ⟨lw_p3, List.forall_mem_cons.mpr ⟨lw_p4, List.forall_mem_cons.mpr ⟨lw_p5, List.forall_mem_cons.mpr ⟨lw_p6, List.forall_mem_cons.mpr ⟨lw_p7, List.forall_mem_cons.mpr ⟨lw_p8, List.forall_mem_cons.mpr ⟨lw_p9, List.forall_mem_cons.mpr ⟨lw_p10, List.forall_mem_cons.mpr ⟨lw_p11, List.forall_mem_cons.mpr ⟨lw_p12, List.forall_mem_cons.mpr ⟨lw_p13, List.forall_mem_cons.mpr ⟨lw_p14, List.forall_mem_cons.mpr ⟨lw_p15, fun _ h => absurd h List.not_mem_nil⟩⟩⟩⟩⟩⟩⟩⟩⟩⟩⟩⟩⟩⟩⟩⟩
theorem lw_p16 : lw_okq (⟨"ArchiveOfDeltas$Plan", "savings", "()I"⟩, 13) := ⟨⟨by decide +kernel, by decide +kernel⟩, List.mem_of_getElem? (i := 164) (by decide +kernel), List.mem_of_getElem? (i := 522) (by decide +kernel), List.mem_of_getElem? (i := 523) (by decide +kernel)⟩
theorem lw_p17 : lw_okq (⟨"ArchiveOfDeltas$Plan", "settle", "(IIII)V"⟩, 13) := ⟨⟨by decide +kernel, by decide +kernel⟩, List.mem_of_getElem? (i := 164) (by decide +kernel), List.mem_of_getElem? (i := 526) (by decide +kernel), List.mem_of_getElem? (i := 527) (by decide +kernel)⟩
theorem lw_p18 : lw_okq (⟨"ArchiveOfDeltas$Told", "breaks", "(ILArchiveOfDeltas$Store;II)Z"⟩, 2) := ⟨⟨by decide +kernel, by decide +kernel⟩, List.mem_of_getElem? (i := 217) (by decide +kernel), List.mem_of_getElem? (i := 563) (by decide +kernel), List.mem_of_getElem? (i := 564) (by decide +kernel)⟩
theorem lw_p19 : lw_okq (⟨"ArchiveOfDeltas$Store", "restore", "(LArchiveOfDeltas$Version;)V"⟩, 8) := ⟨⟨by decide +kernel, by decide +kernel⟩, List.mem_of_getElem? (i := 26) (by decide +kernel), List.mem_of_getElem? (i := 584) (by decide +kernel), List.mem_of_getElem? (i := 585) (by decide +kernel)⟩
theorem lw_p20 : lw_okq (⟨"ArchiveOfDeltas", "refuseLong", "(I)J"⟩, 10) := ⟨⟨by decide +kernel, by decide +kernel⟩, List.mem_of_getElem? (i := 18) (by decide +kernel), List.mem_of_getElem? (i := 774) (by decide +kernel), List.mem_of_getElem? (i := 775) (by decide +kernel)⟩
theorem lw_p21 : lw_okq (⟨"ArchiveOfDeltas", "drawLot", "()V"⟩, 10) := ⟨⟨by decide +kernel, by decide +kernel⟩, List.mem_of_getElem? (i := 18) (by decide +kernel), List.mem_of_getElem? (i := 812) (by decide +kernel), List.mem_of_getElem? (i := 813) (by decide +kernel)⟩
theorem lw_p22 : lw_okq (⟨"ArchiveOfDeltasModel", "isThere", "(I)Z"⟩, 21) := ⟨⟨by decide +kernel, by decide +kernel⟩, List.mem_of_getElem? (i := 853) (by decide +kernel), List.mem_of_getElem? (i := 927) (by decide +kernel), List.mem_of_getElem? (i := 928) (by decide +kernel)⟩
theorem lw_p23 : lw_okq (⟨"ArchiveOfDeltasModel", "no", "(I)I"⟩, 21) := ⟨⟨by decide +kernel, by decide +kernel⟩, List.mem_of_getElem? (i := 853) (by decide +kernel), List.mem_of_getElem? (i := 934) (by decide +kernel), List.mem_of_getElem? (i := 935) (by decide +kernel)⟩
theorem lw_p24 : lw_okq (⟨"ArchiveOfDeltasModel", "restores", "()V"⟩, 21) := ⟨⟨by decide +kernel, by decide +kernel⟩, List.mem_of_getElem? (i := 853) (by decide +kernel), List.mem_of_getElem? (i := 938) (by decide +kernel), List.mem_of_getElem? (i := 939) (by decide +kernel)⟩
theorem lw_p25 : lw_okq (⟨"ArchiveOfDeltasModel", "restores", "(I)V"⟩, 21) := ⟨⟨by decide +kernel, by decide +kernel⟩, List.mem_of_getElem? (i := 853) (by decide +kernel), List.mem_of_getElem? (i := 942) (by decide +kernel), List.mem_of_getElem? (i := 943) (by decide +kernel)⟩
theorem lw_p26 : lw_okq (⟨"ArchiveOfDeltasModel", "edited", "(III)I"⟩, 21) := ⟨⟨by decide +kernel, by decide +kernel⟩, List.mem_of_getElem? (i := 853) (by decide +kernel), List.mem_of_getElem? (i := 947) (by decide +kernel), List.mem_of_getElem? (i := 948) (by decide +kernel)⟩
theorem lw_p27 : lw_okq (⟨"ArchiveOfDeltasModel", "comes", "(II)I"⟩, 21) := ⟨⟨by decide +kernel, by decide +kernel⟩, List.mem_of_getElem? (i := 853) (by decide +kernel), List.mem_of_getElem? (i := 951) (by decide +kernel), List.mem_of_getElem? (i := 952) (by decide +kernel)⟩
theorem lw_p28 : lw_okq (⟨"ArchiveOfDeltasModel", "adds", "(II)V"⟩, 21) := ⟨⟨by decide +kernel, by decide +kernel⟩, List.mem_of_getElem? (i := 853) (by decide +kernel), List.mem_of_getElem? (i := 955) (by decide +kernel), List.mem_of_getElem? (i := 956) (by decide +kernel)⟩
theorem lw_p29 : lw_okq (⟨"ArchiveOfDeltasModel", "hashed", "(I)I"⟩, 21) := ⟨⟨by decide +kernel, by decide +kernel⟩, List.mem_of_getElem? (i := 853) (by decide +kernel), List.mem_of_getElem? (i := 959) (by decide +kernel), List.mem_of_getElem? (i := 960) (by decide +kernel)⟩
theorem lw_p30 : lw_okq (⟨"ArchiveOfDeltasModel", "hash", "(I)I"⟩, 21) := ⟨⟨by decide +kernel, by decide +kernel⟩, List.mem_of_getElem? (i := 853) (by decide +kernel), List.mem_of_getElem? (i := 963) (by decide +kernel), List.mem_of_getElem? (i := 964) (by decide +kernel)⟩
theorem lw_p31 : lw_okq (⟨"ArchiveOfDeltasModel", "repacks", "()I"⟩, 21) := ⟨⟨by decide +kernel, by decide +kernel⟩, List.mem_of_getElem? (i := 853) (by decide +kernel), List.mem_of_getElem? (i := 987) (by decide +kernel), List.mem_of_getElem? (i := 988) (by decide +kernel)⟩
def lw_privs_2 : List (MethodName × Nat) := [(⟨"ArchiveOfDeltas$Plan", "savings", "()I"⟩, 13), (⟨"ArchiveOfDeltas$Plan", "settle", "(IIII)V"⟩, 13), (⟨"ArchiveOfDeltas$Told", "breaks", "(ILArchiveOfDeltas$Store;II)Z"⟩, 2), (⟨"ArchiveOfDeltas$Store", "restore", "(LArchiveOfDeltas$Version;)V"⟩, 8), (⟨"ArchiveOfDeltas", "refuseLong", "(I)J"⟩, 10), (⟨"ArchiveOfDeltas", "drawLot", "()V"⟩, 10), (⟨"ArchiveOfDeltasModel", "isThere", "(I)Z"⟩, 21), (⟨"ArchiveOfDeltasModel", "no", "(I)I"⟩, 21), (⟨"ArchiveOfDeltasModel", "restores", "()V"⟩, 21), (⟨"ArchiveOfDeltasModel", "restores", "(I)V"⟩, 21), (⟨"ArchiveOfDeltasModel", "edited", "(III)I"⟩, 21), (⟨"ArchiveOfDeltasModel", "comes", "(II)I"⟩, 21), (⟨"ArchiveOfDeltasModel", "adds", "(II)V"⟩, 21), (⟨"ArchiveOfDeltasModel", "hashed", "(I)I"⟩, 21), (⟨"ArchiveOfDeltasModel", "hash", "(I)I"⟩, 21), (⟨"ArchiveOfDeltasModel", "repacks", "()I"⟩, 21)]
theorem lw_r2 : ∀ q ∈ lw_privs_2, lw_okq q := List.forall_mem_cons.mpr ⟨lw_p16, List.forall_mem_cons.mpr ⟨lw_p17, List.forall_mem_cons.mpr ⟨lw_p18, List.forall_mem_cons.mpr ⟨lw_p19, List.forall_mem_cons.mpr ⟨lw_p20, List.forall_mem_cons.mpr ⟨lw_p21, List.forall_mem_cons.mpr ⟨lw_p22, List.forall_mem_cons.mpr ⟨lw_p23, List.forall_mem_cons.mpr ⟨lw_p24, List.forall_mem_cons.mpr ⟨lw_p25, List.forall_mem_cons.mpr ⟨lw_p26, List.forall_mem_cons.mpr ⟨lw_p27, List.forall_mem_cons.mpr ⟨lw_p28, List.forall_mem_cons.mpr ⟨lw_p29, List.forall_mem_cons.mpr ⟨lw_p30, List.forall_mem_cons.mpr ⟨lw_p31, fun _ h => absurd h List.not_mem_nil⟩⟩⟩⟩⟩⟩⟩⟩⟩⟩⟩⟩⟩⟩⟩⟩
theorem lw_p32 : lw_okq (⟨"ArchiveOfDeltasModel", "isAhead", "(II)Z"⟩, 21) := ⟨⟨by decide +kernel, by decide +kernel⟩, List.mem_of_getElem? (i := 853) (by decide +kernel), List.mem_of_getElem? (i := 991) (by decide +kernel), List.mem_of_getElem? (i := 992) (by decide +kernel)⟩
theorem lw_p33 : lw_okq (⟨"ArchiveOfDeltasModel", "isKind", "(II)Z"⟩, 21) := ⟨⟨by decide +kernel, by decide +kernel⟩, List.mem_of_getElem? (i := 853) (by decide +kernel), List.mem_of_getElem? (i := 995) (by decide +kernel), List.mem_of_getElem? (i := 996) (by decide +kernel)⟩
theorem lw_p34 : lw_okq (⟨"ArchiveOfDeltasModel", "may", "(IIII)Z"⟩, 21) := ⟨⟨by decide +kernel, by decide +kernel⟩, List.mem_of_getElem? (i := 853) (by decide +kernel), List.mem_of_getElem? (i := 999) (by decide +kernel), List.mem_of_getElem? (i := 1000) (by decide +kernel)⟩
theorem lw_p35 : lw_okq (⟨"ArchiveOfDeltasModel", "isParent", "(II)Z"⟩, 21) := ⟨⟨by decide +kernel, by decide +kernel⟩, List.mem_of_getElem? (i := 853) (by decide +kernel), List.mem_of_getElem? (i := 1003) (by decide +kernel), List.mem_of_getElem? (i := 1004) (by decide +kernel)⟩
theorem lw_p36 : lw_okq (⟨"ArchiveOfDeltasModel", "delta", "(II)I"⟩, 21) := ⟨⟨by decide +kernel, by decide +kernel⟩, List.mem_of_getElem? (i := 853) (by decide +kernel), List.mem_of_getElem? (i := 1007) (by decide +kernel), List.mem_of_getElem? (i := 1008) (by decide +kernel)⟩
theorem lw_p37 : lw_okq (⟨"ArchiveOfDeltasModel", "alike", "(IIII)I"⟩, 21) := ⟨⟨by decide +kernel, by decide +kernel⟩, List.mem_of_getElem? (i := 853) (by decide +kernel), List.mem_of_getElem? (i := 1011) (by decide +kernel), List.mem_of_getElem? (i := 1012) (by decide +kernel)⟩
theorem lw_p38 : lw_okq (⟨"ArchiveOfDeltasModel", "whole", "(I)V"⟩, 21) := ⟨⟨by decide +kernel, by decide +kernel⟩, List.mem_of_getElem? (i := 853) (by decide +kernel), List.mem_of_getElem? (i := 1015) (by decide +kernel), List.mem_of_getElem? (i := 1016) (by decide +kernel)⟩
theorem lw_p39 : lw_okq (⟨"ArchiveOfDeltasModel", "cost", "()I"⟩, 21) := ⟨⟨by decide +kernel, by decide +kernel⟩, List.mem_of_getElem? (i := 853) (by decide +kernel), List.mem_of_getElem? (i := 1019) (by decide +kernel), List.mem_of_getElem? (i := 1020) (by decide +kernel)⟩
theorem lw_p40 : lw_okq (⟨"ArchiveOfDeltasModel", "costOf", "(I)I"⟩, 21) := ⟨⟨by decide +kernel, by decide +kernel⟩, List.mem_of_getElem? (i := 853) (by decide +kernel), List.mem_of_getElem? (i := 1023) (by decide +kernel), List.mem_of_getElem? (i := 1024) (by decide +kernel)⟩
theorem lw_p41 : lw_okq (⟨"ArchiveOfDeltasModel", "collects", "()I"⟩, 21) := ⟨⟨by decide +kernel, by decide +kernel⟩, List.mem_of_getElem? (i := 853) (by decide +kernel), List.mem_of_getElem? (i := 1031) (by decide +kernel), List.mem_of_getElem? (i := 1032) (by decide +kernel)⟩
theorem lw_p42 : lw_okq (⟨"ArchiveOfDeltasModel", "reachedByHeads", "()I"⟩, 21) := ⟨⟨by decide +kernel, by decide +kernel⟩, List.mem_of_getElem? (i := 853) (by decide +kernel), List.mem_of_getElem? (i := 1035) (by decide +kernel), List.mem_of_getElem? (i := 1036) (by decide +kernel)⟩
theorem lw_p43 : lw_okq (⟨"ArchiveOfDeltasModel", "reachedFrom", "(I)I"⟩, 21) := ⟨⟨by decide +kernel, by decide +kernel⟩, List.mem_of_getElem? (i := 853) (by decide +kernel), List.mem_of_getElem? (i := 1039) (by decide +kernel), List.mem_of_getElem? (i := 1040) (by decide +kernel)⟩
theorem lw_p44 : lw_okq (⟨"ArchiveOfDeltasModel", "widened", "(I)I"⟩, 21) := ⟨⟨by decide +kernel, by decide +kernel⟩, List.mem_of_getElem? (i := 853) (by decide +kernel), List.mem_of_getElem? (i := 1043) (by decide +kernel), List.mem_of_getElem? (i := 1044) (by decide +kernel)⟩
theorem lw_p45 : lw_okq (⟨"ArchiveOfDeltasModel", "there", "()I"⟩, 21) := ⟨⟨by decide +kernel, by decide +kernel⟩, List.mem_of_getElem? (i := 853) (by decide +kernel), List.mem_of_getElem? (i := 1047) (by decide +kernel), List.mem_of_getElem? (i := 1048) (by decide +kernel)⟩
theorem lw_p46 : lw_okq (⟨"ArchiveOfDeltasModel", "statement", "(Z)Z"⟩, 21) := ⟨⟨by decide +kernel, by decide +kernel⟩, List.mem_of_getElem? (i := 853) (by decide +kernel), List.mem_of_getElem? (i := 1066) (by decide +kernel), List.mem_of_getElem? (i := 1067) (by decide +kernel)⟩
theorem lw_p47 : lw_okq (⟨"ArchiveOfDeltasModel", "orNone", "()I"⟩, 21) := ⟨⟨by decide +kernel, by decide +kernel⟩, List.mem_of_getElem? (i := 853) (by decide +kernel), List.mem_of_getElem? (i := 1070) (by decide +kernel), List.mem_of_getElem? (i := 1071) (by decide +kernel)⟩
def lw_privs_3 : List (MethodName × Nat) := [(⟨"ArchiveOfDeltasModel", "isAhead", "(II)Z"⟩, 21), (⟨"ArchiveOfDeltasModel", "isKind", "(II)Z"⟩, 21), (⟨"ArchiveOfDeltasModel", "may", "(IIII)Z"⟩, 21), (⟨"ArchiveOfDeltasModel", "isParent", "(II)Z"⟩, 21), (⟨"ArchiveOfDeltasModel", "delta", "(II)I"⟩, 21), (⟨"ArchiveOfDeltasModel", "alike", "(IIII)I"⟩, 21), (⟨"ArchiveOfDeltasModel", "whole", "(I)V"⟩, 21), (⟨"ArchiveOfDeltasModel", "cost", "()I"⟩, 21), (⟨"ArchiveOfDeltasModel", "costOf", "(I)I"⟩, 21), (⟨"ArchiveOfDeltasModel", "collects", "()I"⟩, 21), (⟨"ArchiveOfDeltasModel", "reachedByHeads", "()I"⟩, 21), (⟨"ArchiveOfDeltasModel", "reachedFrom", "(I)I"⟩, 21), (⟨"ArchiveOfDeltasModel", "widened", "(I)I"⟩, 21), (⟨"ArchiveOfDeltasModel", "there", "()I"⟩, 21), (⟨"ArchiveOfDeltasModel", "statement", "(Z)Z"⟩, 21), (⟨"ArchiveOfDeltasModel", "orNone", "()I"⟩, 21)]
theorem lw_r3 : ∀ q ∈ lw_privs_3, lw_okq q := List.forall_mem_cons.mpr ⟨lw_p32, List.forall_mem_cons.mpr ⟨lw_p33, List.forall_mem_cons.mpr ⟨lw_p34, List.forall_mem_cons.mpr ⟨lw_p35, List.forall_mem_cons.mpr ⟨lw_p36, List.forall_mem_cons.mpr ⟨lw_p37, List.forall_mem_cons.mpr ⟨lw_p38, List.forall_mem_cons.mpr ⟨lw_p39, List.forall_mem_cons.mpr ⟨lw_p40, List.forall_mem_cons.mpr ⟨lw_p41, List.forall_mem_cons.mpr ⟨lw_p42, List.forall_mem_cons.mpr ⟨lw_p43, List.forall_mem_cons.mpr ⟨lw_p44, List.forall_mem_cons.mpr ⟨lw_p45, List.forall_mem_cons.mpr ⟨lw_p46, List.forall_mem_cons.mpr ⟨lw_p47, fun _ h => absurd h List.not_mem_nil⟩⟩⟩⟩⟩⟩⟩⟩⟩⟩⟩⟩⟩⟩⟩⟩
theorem lw_p48 : lw_okq (⟨"ArchiveOfDeltasModel", "isAt", "(II)Z"⟩, 21) := ⟨⟨by decide +kernel, by decide +kernel⟩, List.mem_of_getElem? (i := 853) (by decide +kernel), List.mem_of_getElem? (i := 1074) (by decide +kernel), List.mem_of_getElem? (i := 1075) (by decide +kernel)⟩
theorem lw_p49 : lw_okq (⟨"ArchiveOfDeltasModel", "takes", "(II)I"⟩, 21) := ⟨⟨by decide +kernel, by decide +kernel⟩, List.mem_of_getElem? (i := 853) (by decide +kernel), List.mem_of_getElem? (i := 1078) (by decide +kernel), List.mem_of_getElem? (i := 1079) (by decide +kernel)⟩
theorem lw_p50 : lw_okq (⟨"ArchiveOfDeltasModel", "depth", "(I)I"⟩, 21) := ⟨⟨by decide +kernel, by decide +kernel⟩, List.mem_of_getElem? (i := 853) (by decide +kernel), List.mem_of_getElem? (i := 1089) (by decide +kernel), List.mem_of_getElem? (i := 1090) (by decide +kernel)⟩
theorem lw_p51 : lw_okq (⟨"ArchiveOfDeltasModel", "isSound", "(I)Z"⟩, 21) := ⟨⟨by decide +kernel, by decide +kernel⟩, List.mem_of_getElem? (i := 853) (by decide +kernel), List.mem_of_getElem? (i := 1093) (by decide +kernel), List.mem_of_getElem? (i := 1094) (by decide +kernel)⟩
theorem lw_p52 : lw_okq (⟨"ArchiveOfDeltasModel", "deepest", "()I"⟩, 21) := ⟨⟨by decide +kernel, by decide +kernel⟩, List.mem_of_getElem? (i := 853) (by decide +kernel), List.mem_of_getElem? (i := 1113) (by decide +kernel), List.mem_of_getElem? (i := 1114) (by decide +kernel)⟩
theorem lw_p53 : lw_okq (⟨"ArchiveOfDeltasModel", "wholes", "()I"⟩, 21) := ⟨⟨by decide +kernel, by decide +kernel⟩, List.mem_of_getElem? (i := 853) (by decide +kernel), List.mem_of_getElem? (i := 1117) (by decide +kernel), List.mem_of_getElem? (i := 1118) (by decide +kernel)⟩
theorem lw_p54 : lw_okq (⟨"ArchiveOfDeltasModel", "twinOf", "(I)I"⟩, 21) := ⟨⟨by decide +kernel, by decide +kernel⟩, List.mem_of_getElem? (i := 853) (by decide +kernel), List.mem_of_getElem? (i := 1134) (by decide +kernel), List.mem_of_getElem? (i := 1135) (by decide +kernel)⟩
theorem lw_p55 : lw_okq (⟨"ArchiveOfDeltasModel", "areTwins", "(II)Z"⟩, 21) := ⟨⟨by decide +kernel, by decide +kernel⟩, List.mem_of_getElem? (i := 853) (by decide +kernel), List.mem_of_getElem? (i := 1138) (by decide +kernel), List.mem_of_getElem? (i := 1139) (by decide +kernel)⟩
theorem lw_p56 : lw_okq (⟨"ArchiveOfDeltasModel", "needs", "(II)Z"⟩, 21) := ⟨⟨by decide +kernel, by decide +kernel⟩, List.mem_of_getElem? (i := 853) (by decide +kernel), List.mem_of_getElem? (i := 1170) (by decide +kernel), List.mem_of_getElem? (i := 1171) (by decide +kernel)⟩
theorem lw_p57 : lw_okq (⟨"ArchiveOfDeltasModel", "noLong", "(I)J"⟩, 21) := ⟨⟨by decide +kernel, by decide +kernel⟩, List.mem_of_getElem? (i := 853) (by decide +kernel), List.mem_of_getElem? (i := 1178) (by decide +kernel), List.mem_of_getElem? (i := 1179) (by decide +kernel)⟩
theorem lw_p58 : lw_okq (⟨"ArchiveOfDeltasModel", "fitsRow", "()Z"⟩, 21) := ⟨⟨by decide +kernel, by decide +kernel⟩, List.mem_of_getElem? (i := 853) (by decide +kernel), List.mem_of_getElem? (i := 1197) (by decide +kernel), List.mem_of_getElem? (i := 1198) (by decide +kernel)⟩
theorem lw_p59 : lw_okq (⟨"ArchiveOfDeltasModel", "draw", "(I)I"⟩, 21) := ⟨⟨by decide +kernel, by decide +kernel⟩, List.mem_of_getElem? (i := 853) (by decide +kernel), List.mem_of_getElem? (i := 1217) (by decide +kernel), List.mem_of_getElem? (i := 1218) (by decide +kernel)⟩
theorem lw_p60 : lw_okq (⟨"ArchiveOfDeltasModel", "nth", "(I)I"⟩, 21) := ⟨⟨by decide +kernel, by decide +kernel⟩, List.mem_of_getElem? (i := 853) (by decide +kernel), List.mem_of_getElem? (i := 1223) (by decide +kernel), List.mem_of_getElem? (i := 1224) (by decide +kernel)⟩
def lw_privs_4 : List (MethodName × Nat) := [(⟨"ArchiveOfDeltasModel", "isAt", "(II)Z"⟩, 21), (⟨"ArchiveOfDeltasModel", "takes", "(II)I"⟩, 21), (⟨"ArchiveOfDeltasModel", "depth", "(I)I"⟩, 21), (⟨"ArchiveOfDeltasModel", "isSound", "(I)Z"⟩, 21), (⟨"ArchiveOfDeltasModel", "deepest", "()I"⟩, 21), (⟨"ArchiveOfDeltasModel", "wholes", "()I"⟩, 21), (⟨"ArchiveOfDeltasModel", "twinOf", "(I)I"⟩, 21), (⟨"ArchiveOfDeltasModel", "areTwins", "(II)Z"⟩, 21), (⟨"ArchiveOfDeltasModel", "needs", "(II)Z"⟩, 21), (⟨"ArchiveOfDeltasModel", "noLong", "(I)J"⟩, 21), (⟨"ArchiveOfDeltasModel", "fitsRow", "()Z"⟩, 21), (⟨"ArchiveOfDeltasModel", "draw", "(I)I"⟩, 21), (⟨"ArchiveOfDeltasModel", "nth", "(I)I"⟩, 21)]
theorem lw_r4 : ∀ q ∈ lw_privs_4, lw_okq q := List.forall_mem_cons.mpr ⟨lw_p48, List.forall_mem_cons.mpr ⟨lw_p49, List.forall_mem_cons.mpr ⟨lw_p50, List.forall_mem_cons.mpr ⟨lw_p51, List.forall_mem_cons.mpr ⟨lw_p52, List.forall_mem_cons.mpr ⟨lw_p53, List.forall_mem_cons.mpr ⟨lw_p54, List.forall_mem_cons.mpr ⟨lw_p55, List.forall_mem_cons.mpr ⟨lw_p56, List.forall_mem_cons.mpr ⟨lw_p57, List.forall_mem_cons.mpr ⟨lw_p58, List.forall_mem_cons.mpr ⟨lw_p59, List.forall_mem_cons.mpr ⟨lw_p60, fun _ h => absurd h List.not_mem_nil⟩⟩⟩⟩⟩⟩⟩⟩⟩⟩⟩⟩⟩
def lw_privs : List (MethodName × Nat) := lw_privs_1 ++ (lw_privs_2 ++ (lw_privs_3 ++ (lw_privs_4)))
def lw_tbl : List Cond := k2_sels lw_privs ++ tables_1
theorem lw_privs_ok : ∀ q ∈ lw_privs, lw_okq q := by
  show ∀ q ∈ lw_privs_1 ++ (lw_privs_2 ++ (lw_privs_3 ++ (lw_privs_4))), lw_okq q
  exact List.forall_mem_append.mpr ⟨lw_r1, List.forall_mem_append.mpr ⟨lw_r2, List.forall_mem_append.mpr ⟨lw_r3, lw_r4⟩⟩⟩
end
section
theorem goodIn_r {big : List Cond} (ws : List Cond) (ps : List Nat) (hp : ws = ps.filterMap (fun i => big[i]?)) (h : ws.all goodWord = true) : GoodIn big ws := by
  intro w hw
  have h1 := List.all_eq_true.mp h w hw
  rw [hp] at hw
  obtain ⟨i, -, hi⟩ := List.mem_filterMap.mp hw
  have hm : w ∈ big := by first | exact List.mem_of_getElem? hi | exact List.getElem?_mem hi
  exact ⟨hm, good_of_word h1⟩
theorem goodIn_app {big a b : List Cond} (ha : GoodIn big a) (hb : GoodIn big b) : GoodIn big (a ++ b) := fun w h => (List.mem_append.mp h).elim (ha w) (hb w)
theorem goodIn_ca {big a b : List Cond} {c : Cond} (ha : GoodIn big (c :: a)) (hb : GoodIn big b) : GoodIn big (c :: (a ++ b)) := fun w h => (List.mem_cons.mp h).elim (fun e => ha w (List.mem_cons.mpr (Or.inl e))) (fun h => (List.mem_append.mp h).elim (fun h => ha w (List.mem_cons.mpr (Or.inr h))) (hb w))
theorem goodIn_sub {big ws : List Cond} (hm : ∀ w ∈ ws, w ∈ big) (h : ws.all goodWord = true) : GoodIn big ws := fun w hw => ⟨hm w hw, good_of_word (List.all_eq_true.mp h w hw)⟩
def RX0 : String := "ArchiveOfDeltas$Delta"
def TX0 : u_T := fun k => match k with
  | 0 => ("ArchiveOfDeltas$Delta", "copied", "[I", true)
  | 1 => ("ArchiveOfDeltas$Delta", "source", "[I", true)
  | 2 => ("ArchiveOfDeltas$Delta", "size", "I", false)
  | _ => ("ArchiveOfDeltas$Delta", "copies", "I", false)
def tyX0 : Nat → FieldType := fun k => match k with
  | 0 => .array .int
  | 1 => .array .int
  | 2 => .int
  | _ => .int
abbrev wsX00 : List Cond := u_ws RX0 TX0 4
theorem nmX0 : ∀ a, a < 4 → ∀ b, b < 4 → a ≠ b → (TX0 a).2.1 ≠ (TX0 b).2.1 := by decide +kernel
theorem tyX0_ok : ∀ k, k < 4 → parseFieldDescriptor (TX0 k).2.2.1 = some (tyX0 k) := by decide +kernel
abbrev cX0_init : ByteArray := prog_2_method_1_code
def yX0_init : MethodName := ⟨RX0, "<init>", "()V"⟩
abbrev cX0_make : ByteArray := prog_2_method_2_code
def yX0_make : MethodName := ⟨RX0, "make", "(LArchiveOfDeltas$Numbers;LArchiveOfDeltas$Numbers;)V"⟩
abbrev cX0_addStep : ByteArray := prog_2_method_3_code
def yX0_addStep : MethodName := ⟨RX0, "addStep", "(LArchiveOfDeltas$Numbers;LArchiveOfDeltas$Numbers;I)I"⟩
abbrev cX0_put : ByteArray := prog_2_method_4_code
def yX0_put : MethodName := ⟨RX0, "put", "(II)V"⟩
abbrev cX0_cost : ByteArray := prog_2_method_5_code
def yX0_cost : MethodName := ⟨RX0, "cost", "()I"⟩
abbrev cX0_spell : ByteArray := prog_2_method_6_code
def yX0_spell : MethodName := ⟨RX0, "spell", "(LArchiveOfDeltas$Numbers;LArchiveOfDeltas$Numbers;)V"⟩
abbrev cX0_copyFrom : ByteArray := prog_2_method_7_code
def yX0_copyFrom : MethodName := ⟨RX0, "copyFrom", "(LArchiveOfDeltas$Delta;)V"⟩
def RX1 : String := "ArchiveOfDeltas$Draws"
def TX1 : u_T := fun k => match k with
  | _ => ("ArchiveOfDeltas$Draws", "seed", "I", false)
def tyX1 : Nat → FieldType := fun k => match k with
  | _ => .int
abbrev wsX10 : List Cond := u_ws RX1 TX1 1
theorem nmX1 : ∀ a, a < 1 → ∀ b, b < 1 → a ≠ b → (TX1 a).2.1 ≠ (TX1 b).2.1 := by decide +kernel
theorem tyX1_ok : ∀ k, k < 1 → parseFieldDescriptor (TX1 k).2.2.1 = some (tyX1 k) := by decide +kernel
abbrev cX1_init : ByteArray := prog_3_method_1_code
def yX1_init : MethodName := ⟨RX1, "<init>", "()V"⟩
abbrev cX1_below : ByteArray := prog_3_method_2_code
def yX1_below : MethodName := ⟨RX1, "below", "(I)I"⟩
def RX2 : String := "ArchiveOfDeltas$Numbers"
def TX2 : u_T := fun k => match k with
  | 0 => ("ArchiveOfDeltas$Numbers", "items", "[I", true)
  | _ => ("ArchiveOfDeltas$Numbers", "size", "I", false)
def tyX2 : Nat → FieldType := fun k => match k with
  | 0 => .array .int
  | _ => .int
abbrev wsX20 : List Cond := u_ws RX2 TX2 2
theorem nmX2 : ∀ a, a < 2 → ∀ b, b < 2 → a ≠ b → (TX2 a).2.1 ≠ (TX2 b).2.1 := by decide +kernel
theorem tyX2_ok : ∀ k, k < 2 → parseFieldDescriptor (TX2 k).2.2.1 = some (tyX2 k) := by decide +kernel
abbrev cX2_init : ByteArray := prog_4_method_1_code
def yX2_init : MethodName := ⟨RX2, "<init>", "(I)V"⟩
abbrev cX2_isFull : ByteArray := prog_4_method_2_code
def yX2_isFull : MethodName := ⟨RX2, "isFull", "()Z"⟩
abbrev cX2_add : ByteArray := prog_4_method_3_code
def yX2_add : MethodName := ⟨RX2, "add", "(I)V"⟩
abbrev cX2_at : ByteArray := prog_4_method_4_code
def yX2_at : MethodName := ⟨RX2, "at", "(I)I"⟩
abbrev cX2_put : ByteArray := prog_4_method_5_code
def yX2_put : MethodName := ⟨RX2, "put", "(II)V"⟩
abbrev cX2_empty : ByteArray := prog_4_method_6_code
def yX2_empty : MethodName := ⟨RX2, "empty", "()V"⟩
abbrev cX2_copyFrom : ByteArray := prog_4_method_7_code
def yX2_copyFrom : MethodName := ⟨RX2, "copyFrom", "(LArchiveOfDeltas$Numbers;)V"⟩
abbrev cX2_alikeFrom : ByteArray := prog_4_method_8_code
def yX2_alikeFrom : MethodName := ⟨RX2, "alikeFrom", "(ILArchiveOfDeltas$Numbers;I)I"⟩
abbrev cX2_isSameAs : ByteArray := prog_4_method_9_code
def yX2_isSameAs : MethodName := ⟨RX2, "isSameAs", "(LArchiveOfDeltas$Numbers;)Z"⟩
abbrev cX2_hashed : ByteArray := prog_4_method_10_code
def yX2_hashed : MethodName := ⟨RX2, "hashed", "()I"⟩
def RX3 : String := "ArchiveOfDeltas$Plan"
def TX3 : u_T := fun k => match k with
  | 0 => ("ArchiveOfDeltas$Plan", "order", "[I", true)
  | 1 => ("ArchiveOfDeltas$Plan", "bases", "[I", true)
  | 2 => ("ArchiveOfDeltas$Plan", "depths", "[I", true)
  | 3 => ("ArchiveOfDeltas$Plan", "costs", "[I", true)
  | 4 => ("ArchiveOfDeltas$Plan", "delta", "LArchiveOfDeltas$Delta;", true)
  | 5 => ("ArchiveOfDeltas$Plan", "store", "LArchiveOfDeltas$Store;", false)
  | 6 => ("ArchiveOfDeltas$Plan", "placed", "I", false)
  | 7 => ("ArchiveOfDeltas$Plan", "kind", "I", false)
  | 8 => ("ArchiveOfDeltas$Plan", "figure", "I", false)
  | 9 => ("ArchiveOfDeltas$Plan", "bound", "I", false)
  | 10 => ("ArchiveOfDeltas$Plan", "cost", "I", false)
  | 11 => ("ArchiveOfDeltas$Plan", "greatestDepth", "I", false)
  | _ => ("ArchiveOfDeltas$Plan", "wholes", "I", false)
def tyX3 : Nat → FieldType := fun k => match k with
  | 0 => .array .int
  | 1 => .array .int
  | 2 => .array .int
  | 3 => .array .int
  | 4 => .object "ArchiveOfDeltas$Delta"
  | 5 => .object "ArchiveOfDeltas$Store"
  | 6 => .int
  | 7 => .int
  | 8 => .int
  | 9 => .int
  | 10 => .int
  | 11 => .int
  | _ => .int
abbrev wsX30 : List Cond := u_ws RX3 TX3 13
theorem nmX3 : ∀ a, a < 13 → ∀ b, b < 13 → a ≠ b → (TX3 a).2.1 ≠ (TX3 b).2.1 := by decide +kernel
theorem tyX3_ok : ∀ k, k < 13 → parseFieldDescriptor (TX3 k).2.2.1 = some (tyX3 k) := by decide +kernel
abbrev cX3_init : ByteArray := prog_5_method_1_code
def yX3_init : MethodName := ⟨RX3, "<init>", "()V"⟩
abbrev cX3_learn : ByteArray := prog_5_method_2_code
def yX3_learn : MethodName := ⟨RX3, "learn", "(LArchiveOfDeltas$Store;)V"⟩
abbrev cX3_make : ByteArray := prog_5_method_3_code
def yX3_make : MethodName := ⟨RX3, "make", "(III)V"⟩
abbrev cX3_lineUp : ByteArray := prog_5_method_4_code
def yX3_lineUp : MethodName := ⟨RX3, "lineUp", "()V"⟩
abbrev cX3_isAhead : ByteArray := prog_5_method_5_code
def yX3_isAhead : MethodName := ⟨RX3, "isAhead", "(II)Z"⟩
abbrev cX3_choose : ByteArray := prog_5_method_6_code
def yX3_choose : MethodName := ⟨RX3, "choose", "(I)V"⟩
abbrev cX3_mayBeBase : ByteArray := prog_5_method_7_code
def yX3_mayBeBase : MethodName := ⟨RX3, "mayBeBase", "(II)Z"⟩
abbrev cX3_savings : ByteArray := prog_5_method_8_code
def yX3_savings : MethodName := ⟨RX3, "savings", "()I"⟩
abbrev cX3_settle : ByteArray := prog_5_method_9_code
def yX3_settle : MethodName := ⟨RX3, "settle", "(IIII)V"⟩
abbrev cX3_baseOf : ByteArray := prog_5_method_10_code
def yX3_baseOf : MethodName := ⟨RX3, "baseOf", "(I)I"⟩
abbrev cX3_isTold : ByteArray := prog_5_method_11_code
def yX3_isTold : MethodName := ⟨RX3, "isTold", "(LArchiveOfDeltas$Numbers;)Z"⟩
def RX4 : String := "ArchiveOfDeltas$Store"
def TX4 : u_T := fun k => match k with
  | 0 => ("ArchiveOfDeltas$Store", "versions", "[LArchiveOfDeltas$Version;", true)
  | 1 => ("ArchiveOfDeltas$Store", "tops", "[I", true)
  | 2 => ("ArchiveOfDeltas$Store", "draft", "LArchiveOfDeltas$Numbers;", true)
  | 3 => ("ArchiveOfDeltas$Store", "came", "I", false)
  | 4 => ("ArchiveOfDeltas$Store", "there", "I", false)
  | 5 => ("ArchiveOfDeltas$Store", "kind", "I", false)
  | 6 => ("ArchiveOfDeltas$Store", "figure", "I", false)
  | _ => ("ArchiveOfDeltas$Store", "bound", "I", false)
def tyX4 : Nat → FieldType := fun k => match k with
  | 0 => .array (.object "ArchiveOfDeltas$Version")
  | 1 => .array .int
  | 2 => .object "ArchiveOfDeltas$Numbers"
  | 3 => .int
  | 4 => .int
  | 5 => .int
  | 6 => .int
  | _ => .int
abbrev wsX40 : List Cond := u_ws RX4 TX4 8
theorem nmX4 : ∀ a, a < 8 → ∀ b, b < 8 → a ≠ b → (TX4 a).2.1 ≠ (TX4 b).2.1 := by decide +kernel
theorem tyX4_ok : ∀ k, k < 8 → parseFieldDescriptor (TX4 k).2.2.1 = some (tyX4 k) := by decide +kernel
abbrev cX4_init : ByteArray := prog_6_method_1_code
def yX4_init : MethodName := ⟨RX4, "<init>", "()V"⟩
abbrev cX4_copyFrom : ByteArray := prog_6_method_2_code
def yX4_copyFrom : MethodName := ⟨RX4, "copyFrom", "(LArchiveOfDeltas$Store;)V"⟩
abbrev cX4_holds : ByteArray := prog_6_method_3_code
def yX4_holds : MethodName := ⟨RX4, "holds", "(I)Z"⟩
abbrev cX4_hasRoom : ByteArray := prog_6_method_4_code
def yX4_hasRoom : MethodName := ⟨RX4, "hasRoom", "()Z"⟩
abbrev cX4_heldAt : ByteArray := prog_6_method_5_code
def yX4_heldAt : MethodName := ⟨RX4, "heldAt", "(I)I"⟩
abbrev cX4_comes : ByteArray := prog_6_method_6_code
def yX4_comes : MethodName := ⟨RX4, "comes", "(IILArchiveOfDeltas$Numbers;)I"⟩
abbrev cX4_comesAlone : ByteArray := prog_6_method_7_code
def yX4_comesAlone : MethodName := ⟨RX4, "comesAlone", "()I"⟩
abbrev cX4_comesEdited : ByteArray := prog_6_method_8_code
def yX4_comesEdited : MethodName := ⟨RX4, "comesEdited", "(III)I"⟩
abbrev cX4_damageAt : ByteArray := prog_6_method_9_code
def yX4_damageAt : MethodName := ⟨RX4, "damageAt", "(III)V"⟩
abbrev cX4_restore : ByteArray := prog_6_method_10_code
def yX4_restore : MethodName := ⟨RX4, "restore", "(LArchiveOfDeltas$Version;)V"⟩
abbrev cX4_storeBy : ByteArray := prog_6_method_11_code
def yX4_storeBy : MethodName := ⟨RX4, "storeBy", "(LArchiveOfDeltas$Plan;)V"⟩
abbrev cX4_dropGarbage : ByteArray := prog_6_method_12_code
def yX4_dropGarbage : MethodName := ⟨RX4, "dropGarbage", "()I"⟩
abbrev cX4_reachOf : ByteArray := prog_6_method_13_code
def yX4_reachOf : MethodName := ⟨RX4, "reachOf", "(I)I"⟩
abbrev cX4_reachedFrom : ByteArray := prog_6_method_14_code
def yX4_reachedFrom : MethodName := ⟨RX4, "reachedFrom", "(I)I"⟩
abbrev cX4_reachedFromHeads : ByteArray := prog_6_method_15_code
def yX4_reachedFromHeads : MethodName := ⟨RX4, "reachedFromHeads", "()I"⟩
abbrev cX4_parentsOf : ByteArray := prog_6_method_16_code
def yX4_parentsOf : MethodName := ⟨RX4, "parentsOf", "(I)I"⟩
abbrev cX4_bitOf : ByteArray := prog_6_method_17_code
def yX4_bitOf : MethodName := ⟨RX4, "bitOf", "(I)I"⟩
abbrev cX4_neededBy : ByteArray := prog_6_method_18_code
def yX4_neededBy : MethodName := ⟨RX4, "neededBy", "(I)I"⟩
abbrev cX4_depthOf : ByteArray := prog_6_method_19_code
def yX4_depthOf : MethodName := ⟨RX4, "depthOf", "(I)I"⟩
abbrev cX4_greatestDepth : ByteArray := prog_6_method_20_code
def yX4_greatestDepth : MethodName := ⟨RX4, "greatestDepth", "()I"⟩
abbrev cX4_costOfAll : ByteArray := prog_6_method_21_code
def yX4_costOfAll : MethodName := ⟨RX4, "costOfAll", "()I"⟩
abbrev cX4_wholes : ByteArray := prog_6_method_22_code
def yX4_wholes : MethodName := ⟨RX4, "wholes", "()I"⟩
abbrev cX4_leastTwin : ByteArray := prog_6_method_23_code
def yX4_leastTwin : MethodName := ⟨RX4, "leastTwin", "(I)I"⟩
abbrev cX4_contents : ByteArray := prog_6_method_24_code
def yX4_contents : MethodName := ⟨RX4, "contents", "()I"⟩
abbrev cX4_sentWhole : ByteArray := prog_6_method_25_code
def yX4_sentWhole : MethodName := ⟨RX4, "sentWhole", "(II)I"⟩
abbrev cX4_costOfSending : ByteArray := prog_6_method_26_code
def yX4_costOfSending : MethodName := ⟨RX4, "costOfSending", "(II)I"⟩
def RX5 : String := "ArchiveOfDeltas$Told"
def TX5 : u_T := fun k => match k with
  | 0 => ("ArchiveOfDeltas$Told", "signs", "LArchiveOfDeltas$Numbers;", true)
  | _ => ("ArchiveOfDeltas$Told", "spelling", "LArchiveOfDeltas$Numbers;", true)
def tyX5 : Nat → FieldType := fun k => match k with
  | 0 => .object "ArchiveOfDeltas$Numbers"
  | _ => .object "ArchiveOfDeltas$Numbers"
abbrev wsX50 : List Cond := u_ws RX5 TX5 2
theorem nmX5 : ∀ a, a < 2 → ∀ b, b < 2 → a ≠ b → (TX5 a).2.1 ≠ (TX5 b).2.1 := by decide +kernel
theorem tyX5_ok : ∀ k, k < 2 → parseFieldDescriptor (TX5 k).2.2.1 = some (tyX5 k) := by decide +kernel
abbrev cX5_init : ByteArray := prog_7_method_1_code
def yX5_init : MethodName := ⟨RX5, "<init>", "()V"⟩
abbrev cX5_placeOfFault : ByteArray := prog_7_method_2_code
def yX5_placeOfFault : MethodName := ⟨RX5, "placeOfFault", "()I"⟩
abbrev cX5_placeBehind : ByteArray := prog_7_method_3_code
def yX5_placeBehind : MethodName := ⟨RX5, "placeBehind", "(I)I"⟩
abbrev cX5_faultIn : ByteArray := prog_7_method_4_code
def yX5_faultIn : MethodName := ⟨RX5, "faultIn", "(I)I"⟩
abbrev cX5_formOf : ByteArray := prog_7_method_5_code
def yX5_formOf : MethodName := ⟨RX5, "formOf", "(I)Ljava/lang/String;"⟩
abbrev cX5_fitting : ByteArray := prog_7_method_6_code
def yX5_fitting : MethodName := ⟨RX5, "fitting", "(CI)I"⟩
abbrev cX5_lettersFrom : ByteArray := prog_7_method_7_code
def yX5_lettersFrom : MethodName := ⟨RX5, "lettersFrom", "(I)I"⟩
abbrev cX5_isDigit : ByteArray := prog_7_method_8_code
def yX5_isDigit : MethodName := ⟨RX5, "isDigit", "(I)Z"⟩
abbrev cX5_isLetter : ByteArray := prog_7_method_9_code
def yX5_isLetter : MethodName := ⟨RX5, "isLetter", "(I)Z"⟩
abbrev cX5_digitAt : ByteArray := prog_7_method_10_code
def yX5_digitAt : MethodName := ⟨RX5, "digitAt", "(I)I"⟩
abbrev cX5_runsAt : ByteArray := prog_7_method_11_code
def yX5_runsAt : MethodName := ⟨RX5, "runsAt", "(ILArchiveOfDeltas$Store;LArchiveOfDeltas$Plan;)Z"⟩
abbrev cX5_comes : ByteArray := prog_7_method_12_code
def yX5_comes : MethodName := ⟨RX5, "comes", "(ILArchiveOfDeltas$Store;II)Z"⟩
abbrev cX5_points : ByteArray := prog_7_method_13_code
def yX5_points : MethodName := ⟨RX5, "points", "(LArchiveOfDeltas$Store;II)Z"⟩
abbrev cX5_becomes : ByteArray := prog_7_method_14_code
def yX5_becomes : MethodName := ⟨RX5, "becomes", "(LArchiveOfDeltas$Store;II)Z"⟩
abbrev cX5_binds : ByteArray := prog_7_method_15_code
def yX5_binds : MethodName := ⟨RX5, "binds", "(LArchiveOfDeltas$Store;I)Z"⟩
abbrev cX5_breaks : ByteArray := prog_7_method_16_code
def yX5_breaks : MethodName := ⟨RX5, "breaks", "(ILArchiveOfDeltas$Store;II)Z"⟩
def RX6 : String := "ArchiveOfDeltas$Version"
def TX6 : u_T := fun k => match k with
  | 0 => ("ArchiveOfDeltas$Version", "letters", "LArchiveOfDeltas$Numbers;", true)
  | 1 => ("ArchiveOfDeltas$Version", "steps", "LArchiveOfDeltas$Delta;", true)
  | 2 => ("ArchiveOfDeltas$Version", "first", "I", false)
  | 3 => ("ArchiveOfDeltas$Version", "second", "I", false)
  | 4 => ("ArchiveOfDeltas$Version", "reach", "I", false)
  | 5 => ("ArchiveOfDeltas$Version", "hash", "I", false)
  | _ => ("ArchiveOfDeltas$Version", "base", "I", false)
def tyX6 : Nat → FieldType := fun k => match k with
  | 0 => .object "ArchiveOfDeltas$Numbers"
  | 1 => .object "ArchiveOfDeltas$Delta"
  | 2 => .int
  | 3 => .int
  | 4 => .int
  | 5 => .int
  | _ => .int
abbrev wsX60 : List Cond := u_ws RX6 TX6 7
theorem nmX6 : ∀ a, a < 7 → ∀ b, b < 7 → a ≠ b → (TX6 a).2.1 ≠ (TX6 b).2.1 := by decide +kernel
theorem tyX6_ok : ∀ k, k < 7 → parseFieldDescriptor (TX6 k).2.2.1 = some (tyX6 k) := by decide +kernel
abbrev cX6_init : ByteArray := prog_8_method_1_code
def yX6_init : MethodName := ⟨RX6, "<init>", "()V"⟩
abbrev cX6_isWhole : ByteArray := prog_8_method_2_code
def yX6_isWhole : MethodName := ⟨RX6, "isWhole", "()Z"⟩
abbrev cX6_wholeCost : ByteArray := prog_8_method_3_code
def yX6_wholeCost : MethodName := ⟨RX6, "wholeCost", "()I"⟩
abbrev cX6_cost : ByteArray := prog_8_method_4_code
def yX6_cost : MethodName := ⟨RX6, "cost", "()I"⟩
abbrev cX6_isSound : ByteArray := prog_8_method_5_code
def yX6_isSound : MethodName := ⟨RX6, "isSound", "()Z"⟩
abbrev cX6_leave : ByteArray := prog_8_method_6_code
def yX6_leave : MethodName := ⟨RX6, "leave", "(I)V"⟩
abbrev cX6_hasParent : ByteArray := prog_8_method_7_code
def yX6_hasParent : MethodName := ⟨RX6, "hasParent", "(I)Z"⟩
abbrev cX6_copyFrom : ByteArray := prog_8_method_8_code
def yX6_copyFrom : MethodName := ⟨RX6, "copyFrom", "(LArchiveOfDeltas$Version;)V"⟩
def RX7 : String := "ArchiveOfDeltas"
def TX7 : u_T := fun k => match k with
  | 0 => ("ArchiveOfDeltas", "now", "LArchiveOfDeltas$Store;", true)
  | 1 => ("ArchiveOfDeltas", "taken", "LArchiveOfDeltas$Store;", true)
  | 2 => ("ArchiveOfDeltas", "trial", "LArchiveOfDeltas$Store;", true)
  | 3 => ("ArchiveOfDeltas", "plan", "LArchiveOfDeltas$Plan;", true)
  | 4 => ("ArchiveOfDeltas", "between", "LArchiveOfDeltas$Delta;", true)
  | 5 => ("ArchiveOfDeltas", "told", "LArchiveOfDeltas$Told;", true)
  | 6 => ("ArchiveOfDeltas", "numbers", "LArchiveOfDeltas$Numbers;", true)
  | 7 => ("ArchiveOfDeltas", "draws", "LArchiveOfDeltas$Draws;", true)
  | 8 => ("ArchiveOfDeltas", "refusals", "[I", true)
  | _ => ("ArchiveOfDeltas", "isTaken", "Z", false)
def tyX7 : Nat → FieldType := fun k => match k with
  | 0 => .object "ArchiveOfDeltas$Store"
  | 1 => .object "ArchiveOfDeltas$Store"
  | 2 => .object "ArchiveOfDeltas$Store"
  | 3 => .object "ArchiveOfDeltas$Plan"
  | 4 => .object "ArchiveOfDeltas$Delta"
  | 5 => .object "ArchiveOfDeltas$Told"
  | 6 => .object "ArchiveOfDeltas$Numbers"
  | 7 => .object "ArchiveOfDeltas$Draws"
  | 8 => .array .int
  | _ => .boolean
abbrev wsX70 : List Cond := u_ws RX7 TX7 10
theorem nmX7 : ∀ a, a < 10 → ∀ b, b < 10 → a ≠ b → (TX7 a).2.1 ≠ (TX7 b).2.1 := by decide +kernel
theorem tyX7_ok : ∀ k, k < 10 → parseFieldDescriptor (TX7 k).2.2.1 = some (tyX7 k) := by decide +kernel
abbrev cX7_init : ByteArray := prog_1_method_1_code
def yX7_init : MethodName := ⟨RX7, "<init>", "()V"⟩
abbrev cX7_letter : ByteArray := prog_1_method_2_code
def yX7_letter : MethodName := ⟨RX7, "letter", "(I)I"⟩
abbrev cX7_archive : ByteArray := prog_1_method_3_code
def yX7_archive : MethodName := ⟨RX7, "archive", "()I"⟩
abbrev cX7_edits : ByteArray := prog_1_method_4_code
def yX7_edits : MethodName := ⟨RX7, "edits", "(III)I"⟩
abbrev cX7_merges : ByteArray := prog_1_method_5_code
def yX7_merges : MethodName := ⟨RX7, "merges", "(II)I"⟩
abbrev cX7_heads : ByteArray := prog_1_method_6_code
def yX7_heads : MethodName := ⟨RX7, "heads", "(II)I"⟩
abbrev cX7_kind : ByteArray := prog_1_method_7_code
def yX7_kind : MethodName := ⟨RX7, "kind", "(II)I"⟩
abbrev cX7_bound : ByteArray := prog_1_method_8_code
def yX7_bound : MethodName := ⟨RX7, "bound", "(I)I"⟩
abbrev cX7_repack : ByteArray := prog_1_method_9_code
def yX7_repack : MethodName := ⟨RX7, "repack", "()I"⟩
abbrev cX7_collect : ByteArray := prog_1_method_10_code
def yX7_collect : MethodName := ⟨RX7, "collect", "()I"⟩
abbrev cX7_damages : ByteArray := prog_1_method_11_code
def yX7_damages : MethodName := ⟨RX7, "damages", "(III)I"⟩
abbrev cX7_version : ByteArray := prog_1_method_12_code
def yX7_version : MethodName := ⟨RX7, "version", "(II)I"⟩
abbrev cX7_spelt : ByteArray := prog_1_method_13_code
def yX7_spelt : MethodName := ⟨RX7, "spelt", "(II)I"⟩
abbrev cX7_step : ByteArray := prog_1_method_14_code
def yX7_step : MethodName := ⟨RX7, "step", "(III)I"⟩
abbrev cX7_delta : ByteArray := prog_1_method_15_code
def yX7_delta : MethodName := ⟨RX7, "delta", "(III)I"⟩
abbrev cX7_repacked : ByteArray := prog_1_method_16_code
def yX7_repacked : MethodName := ⟨RX7, "repacked", "(I)I"⟩
abbrev cX7_best : ByteArray := prog_1_method_17_code
def yX7_best : MethodName := ⟨RX7, "best", "(I)I"⟩
abbrev cX7_bestBase : ByteArray := prog_1_method_18_code
def yX7_bestBase : MethodName := ⟨RX7, "bestBase", "(II)I"⟩
abbrev cX7_reached : ByteArray := prog_1_method_19_code
def yX7_reached : MethodName := ⟨RX7, "reached", "(I)I"⟩
abbrev cX7_ancestors : ByteArray := prog_1_method_20_code
def yX7_ancestors : MethodName := ⟨RX7, "ancestors", "(I)I"⟩
abbrev cX7_common : ByteArray := prog_1_method_21_code
def yX7_common : MethodName := ⟨RX7, "common", "(II)I"⟩
abbrev cX7_generations : ByteArray := prog_1_method_22_code
def yX7_generations : MethodName := ⟨RX7, "generations", "(II)I"⟩
abbrev cX7_twin : ByteArray := prog_1_method_23_code
def yX7_twin : MethodName := ⟨RX7, "twin", "(I)I"⟩
abbrev cX7_fetch : ByteArray := prog_1_method_24_code
def yX7_fetch : MethodName := ⟨RX7, "fetch", "(III)I"⟩
abbrev cX7_wrong : ByteArray := prog_1_method_25_code
def yX7_wrong : MethodName := ⟨RX7, "wrong", "()I"⟩
abbrev cX7_hurt : ByteArray := prog_1_method_26_code
def yX7_hurt : MethodName := ⟨RX7, "hurt", "(I)I"⟩
abbrev cX7_lost : ByteArray := prog_1_method_27_code
def yX7_lost : MethodName := ⟨RX7, "lost", "(III)J"⟩
abbrev cX7_mean : ByteArray := prog_1_method_28_code
def yX7_mean : MethodName := ⟨RX7, "mean", "(I)J"⟩
abbrev cX7_whatIs : ByteArray := prog_1_method_29_code
def yX7_whatIs : MethodName := ⟨RX7, "whatIs", "(I)I"⟩
abbrev cX7_row : ByteArray := prog_1_method_30_code
def yX7_row : MethodName := ⟨RX7, "row", "(I)I"⟩
abbrev cX7_judge : ByteArray := prog_1_method_31_code
def yX7_judge : MethodName := ⟨RX7, "judge", "(I)I"⟩
abbrev cX7_clear : ByteArray := prog_1_method_32_code
def yX7_clear : MethodName := ⟨RX7, "clear", "()I"⟩
abbrev cX7_lots : ByteArray := prog_1_method_33_code
def yX7_lots : MethodName := ⟨RX7, "lots", "(III)I"⟩
abbrev cX7_image : ByteArray := prog_1_method_34_code
def yX7_image : MethodName := ⟨RX7, "image", "()I"⟩
abbrev cX7_on : ByteArray := prog_1_method_35_code
def yX7_on : MethodName := ⟨RX7, "on", "()I"⟩
abbrev cX7_count : ByteArray := prog_1_method_36_code
def yX7_count : MethodName := ⟨RX7, "count", "(I)I"⟩
abbrev cX7_refuse : ByteArray := prog_1_method_37_code
def yX7_refuse : MethodName := ⟨RX7, "refuse", "(I)I"⟩
abbrev cX7_refuseLong : ByteArray := prog_1_method_38_code
def yX7_refuseLong : MethodName := ⟨RX7, "refuseLong", "(I)J"⟩
abbrev cX7_orLacking : ByteArray := prog_1_method_39_code
def yX7_orLacking : MethodName := ⟨RX7, "orLacking", "(I)I"⟩
abbrev cX7_isHead : ByteArray := prog_1_method_40_code
def yX7_isHead : MethodName := ⟨RX7, "isHead", "(I)Z"⟩
abbrev cX7_greatestDivisor : ByteArray := prog_1_method_41_code
def yX7_greatestDivisor : MethodName := ⟨RX7, "greatestDivisor", "(II)I"⟩
abbrev cX7_drawLot : ByteArray := prog_1_method_42_code
def yX7_drawLot : MethodName := ⟨RX7, "drawLot", "()V"⟩
def RX8 : String := "ArchiveOfDeltasModel"
def TX8 : u_T := fun k => match k with
  | 0 => ("ArchiveOfDeltasModel", "now", "[I", true)
  | 1 => ("ArchiveOfDeltasModel", "image", "[I", true)
  | 2 => ("ArchiveOfDeltasModel", "mind", "[I", true)
  | 3 => ("ArchiveOfDeltasModel", "before", "[I", true)
  | 4 => ("ArchiveOfDeltasModel", "refused", "[I", true)
  | 5 => ("ArchiveOfDeltasModel", "tape", "[I", true)
  | 6 => ("ArchiveOfDeltasModel", "row", "[I", true)
  | 7 => ("ArchiveOfDeltasModel", "restored", "[I", true)
  | 8 => ("ArchiveOfDeltasModel", "long_", "[I", true)
  | 9 => ("ArchiveOfDeltasModel", "step", "[I", true)
  | 10 => ("ArchiveOfDeltasModel", "place", "[I", true)
  | 11 => ("ArchiveOfDeltasModel", "depthOf", "[I", true)
  | 12 => ("ArchiveOfDeltasModel", "baseOf", "[I", true)
  | 13 => ("ArchiveOfDeltasModel", "letters", "I", false)
  | 14 => ("ArchiveOfDeltasModel", "rows", "I", false)
  | 15 => ("ArchiveOfDeltasModel", "at", "I", false)
  | 16 => ("ArchiveOfDeltasModel", "fault", "I", false)
  | 17 => ("ArchiveOfDeltasModel", "z", "I", false)
  | 18 => ("ArchiveOfDeltasModel", "stepsMany", "I", false)
  | 19 => ("ArchiveOfDeltasModel", "copies", "I", false)
  | _ => ("ArchiveOfDeltasModel", "isKept", "Z", false)
def tyX8 : Nat → FieldType := fun k => match k with
  | 0 => .array .int
  | 1 => .array .int
  | 2 => .array .int
  | 3 => .array .int
  | 4 => .array .int
  | 5 => .array .int
  | 6 => .array .int
  | 7 => .array .int
  | 8 => .array .int
  | 9 => .array .int
  | 10 => .array .int
  | 11 => .array .int
  | 12 => .array .int
  | 13 => .int
  | 14 => .int
  | 15 => .int
  | 16 => .int
  | 17 => .int
  | 18 => .int
  | 19 => .int
  | _ => .boolean
abbrev wsX80 : List Cond := u_ws RX8 TX8 21
theorem nmX8 : ∀ a, a < 21 → ∀ b, b < 21 → a ≠ b → (TX8 a).2.1 ≠ (TX8 b).2.1 := by decide +kernel
theorem tyX8_ok : ∀ k, k < 21 → parseFieldDescriptor (TX8 k).2.2.1 = some (tyX8 k) := by decide +kernel
abbrev cX8_init : ByteArray := prog_10_method_1_code
def yX8_init : MethodName := ⟨RX8, "<init>", "()V"⟩
abbrev cX8_no : ByteArray := prog_10_method_2_code
def yX8_no : MethodName := ⟨RX8, "no", "(I)I"⟩
abbrev cX8_noLong : ByteArray := prog_10_method_3_code
def yX8_noLong : MethodName := ⟨RX8, "noLong", "(I)J"⟩
abbrev cX8_isIn : ByteArray := prog_10_method_4_code
def yX8_isIn : MethodName := ⟨RX8, "isIn", "(III)Z"⟩
abbrev cX8_isThere : ByteArray := prog_10_method_5_code
def yX8_isThere : MethodName := ⟨RX8, "isThere", "(I)Z"⟩
abbrev cX8_copies : ByteArray := prog_10_method_6_code
def yX8_copies : MethodName := ⟨RX8, "copies", "([I[I)V"⟩
abbrev cX8_restores : ByteArray := prog_10_method_7_code
def yX8_restores : MethodName := ⟨RX8, "restores", "()V"⟩
abbrev cX8_restores_ : ByteArray := prog_10_method_8_code
def yX8_restores_ : MethodName := ⟨RX8, "restores", "(I)V"⟩
abbrev cX8_hash : ByteArray := prog_10_method_9_code
def yX8_hash : MethodName := ⟨RX8, "hash", "(I)I"⟩
abbrev cX8_alike : ByteArray := prog_10_method_10_code
def yX8_alike : MethodName := ⟨RX8, "alike", "(IIII)I"⟩
abbrev cX8_delta : ByteArray := prog_10_method_11_code
def yX8_delta : MethodName := ⟨RX8, "delta", "(II)I"⟩
abbrev cX8_costOf : ByteArray := prog_10_method_12_code
def yX8_costOf : MethodName := ⟨RX8, "costOf", "(I)I"⟩
abbrev cX8_cost : ByteArray := prog_10_method_13_code
def yX8_cost : MethodName := ⟨RX8, "cost", "()I"⟩
abbrev cX8_depth : ByteArray := prog_10_method_14_code
def yX8_depth : MethodName := ⟨RX8, "depth", "(I)I"⟩
abbrev cX8_whole : ByteArray := prog_10_method_15_code
def yX8_whole : MethodName := ⟨RX8, "whole", "(I)V"⟩
abbrev cX8_isKind : ByteArray := prog_10_method_16_code
def yX8_isKind : MethodName := ⟨RX8, "isKind", "(II)Z"⟩
abbrev cX8_isAhead : ByteArray := prog_10_method_17_code
def yX8_isAhead : MethodName := ⟨RX8, "isAhead", "(II)Z"⟩
abbrev cX8_isParent : ByteArray := prog_10_method_18_code
def yX8_isParent : MethodName := ⟨RX8, "isParent", "(II)Z"⟩
abbrev cX8_may : ByteArray := prog_10_method_19_code
def yX8_may : MethodName := ⟨RX8, "may", "(IIII)Z"⟩
abbrev cX8_repacks : ByteArray := prog_10_method_20_code
def yX8_repacks : MethodName := ⟨RX8, "repacks", "()I"⟩
abbrev cX8_comes : ByteArray := prog_10_method_21_code
def yX8_comes : MethodName := ⟨RX8, "comes", "(II)I"⟩
abbrev cX8_adds : ByteArray := prog_10_method_22_code
def yX8_adds : MethodName := ⟨RX8, "adds", "(II)V"⟩
abbrev cX8_hashed : ByteArray := prog_10_method_23_code
def yX8_hashed : MethodName := ⟨RX8, "hashed", "(I)I"⟩
abbrev cX8_edited : ByteArray := prog_10_method_24_code
def yX8_edited : MethodName := ⟨RX8, "edited", "(III)I"⟩
abbrev cX8_edits : ByteArray := prog_10_method_25_code
def yX8_edits : MethodName := ⟨RX8, "edits", "(III)I"⟩
abbrev cX8_merges : ByteArray := prog_10_method_26_code
def yX8_merges : MethodName := ⟨RX8, "merges", "(II)I"⟩
abbrev cX8_heads : ByteArray := prog_10_method_27_code
def yX8_heads : MethodName := ⟨RX8, "heads", "(II)I"⟩
abbrev cX8_kind : ByteArray := prog_10_method_28_code
def yX8_kind : MethodName := ⟨RX8, "kind", "(II)I"⟩
abbrev cX8_bound : ByteArray := prog_10_method_29_code
def yX8_bound : MethodName := ⟨RX8, "bound", "(I)I"⟩
abbrev cX8_repack : ByteArray := prog_10_method_30_code
def yX8_repack : MethodName := ⟨RX8, "repack", "()I"⟩
abbrev cX8_reachedFrom : ByteArray := prog_10_method_31_code
def yX8_reachedFrom : MethodName := ⟨RX8, "reachedFrom", "(I)I"⟩
abbrev cX8_widened : ByteArray := prog_10_method_32_code
def yX8_widened : MethodName := ⟨RX8, "widened", "(I)I"⟩
abbrev cX8_there : ByteArray := prog_10_method_33_code
def yX8_there : MethodName := ⟨RX8, "there", "()I"⟩
abbrev cX8_reachedByHeads : ByteArray := prog_10_method_34_code
def yX8_reachedByHeads : MethodName := ⟨RX8, "reachedByHeads", "()I"⟩
abbrev cX8_ones : ByteArray := prog_10_method_35_code
def yX8_ones : MethodName := ⟨RX8, "ones", "(I)I"⟩
abbrev cX8_collects : ByteArray := prog_10_method_36_code
def yX8_collects : MethodName := ⟨RX8, "collects", "()I"⟩
abbrev cX8_collect : ByteArray := prog_10_method_37_code
def yX8_collect : MethodName := ⟨RX8, "collect", "()I"⟩
abbrev cX8_damages : ByteArray := prog_10_method_38_code
def yX8_damages : MethodName := ⟨RX8, "damages", "(III)I"⟩
abbrev cX8_letter : ByteArray := prog_10_method_39_code
def yX8_letter : MethodName := ⟨RX8, "letter", "(I)I"⟩
abbrev cX8_isAt : ByteArray := prog_10_method_40_code
def yX8_isAt : MethodName := ⟨RX8, "isAt", "(II)Z"⟩
abbrev cX8_takes : ByteArray := prog_10_method_41_code
def yX8_takes : MethodName := ⟨RX8, "takes", "(II)I"⟩
abbrev cX8_orNone : ByteArray := prog_10_method_42_code
def yX8_orNone : MethodName := ⟨RX8, "orNone", "()I"⟩
abbrev cX8_statement : ByteArray := prog_10_method_43_code
def yX8_statement : MethodName := ⟨RX8, "statement", "(Z)Z"⟩
abbrev cX8_archive : ByteArray := prog_10_method_44_code
def yX8_archive : MethodName := ⟨RX8, "archive", "()I"⟩
abbrev cX8_isSound : ByteArray := prog_10_method_45_code
def yX8_isSound : MethodName := ⟨RX8, "isSound", "(I)Z"⟩
abbrev cX8_version : ByteArray := prog_10_method_46_code
def yX8_version : MethodName := ⟨RX8, "version", "(II)I"⟩
abbrev cX8_spelt : ByteArray := prog_10_method_47_code
def yX8_spelt : MethodName := ⟨RX8, "spelt", "(II)I"⟩
abbrev cX8_step : ByteArray := prog_10_method_48_code
def yX8_step : MethodName := ⟨RX8, "step", "(III)I"⟩
abbrev cX8_delta_ : ByteArray := prog_10_method_49_code
def yX8_delta_ : MethodName := ⟨RX8, "delta", "(III)I"⟩
abbrev cX8_deepest : ByteArray := prog_10_method_50_code
def yX8_deepest : MethodName := ⟨RX8, "deepest", "()I"⟩
abbrev cX8_wholes : ByteArray := prog_10_method_51_code
def yX8_wholes : MethodName := ⟨RX8, "wholes", "()I"⟩
abbrev cX8_repacked : ByteArray := prog_10_method_52_code
def yX8_repacked : MethodName := ⟨RX8, "repacked", "(I)I"⟩
abbrev cX8_best : ByteArray := prog_10_method_53_code
def yX8_best : MethodName := ⟨RX8, "best", "(I)I"⟩
abbrev cX8_bestBase : ByteArray := prog_10_method_54_code
def yX8_bestBase : MethodName := ⟨RX8, "bestBase", "(II)I"⟩
abbrev cX8_areTwins : ByteArray := prog_10_method_55_code
def yX8_areTwins : MethodName := ⟨RX8, "areTwins", "(II)Z"⟩
abbrev cX8_twinOf : ByteArray := prog_10_method_56_code
def yX8_twinOf : MethodName := ⟨RX8, "twinOf", "(I)I"⟩
abbrev cX8_reached : ByteArray := prog_10_method_57_code
def yX8_reached : MethodName := ⟨RX8, "reached", "(I)I"⟩
abbrev cX8_ancestors : ByteArray := prog_10_method_58_code
def yX8_ancestors : MethodName := ⟨RX8, "ancestors", "(I)I"⟩
abbrev cX8_common : ByteArray := prog_10_method_59_code
def yX8_common : MethodName := ⟨RX8, "common", "(II)I"⟩
abbrev cX8_generations : ByteArray := prog_10_method_60_code
def yX8_generations : MethodName := ⟨RX8, "generations", "(II)I"⟩
abbrev cX8_twin : ByteArray := prog_10_method_61_code
def yX8_twin : MethodName := ⟨RX8, "twin", "(I)I"⟩
abbrev cX8_fetch : ByteArray := prog_10_method_62_code
def yX8_fetch : MethodName := ⟨RX8, "fetch", "(III)I"⟩
abbrev cX8_wrong : ByteArray := prog_10_method_63_code
def yX8_wrong : MethodName := ⟨RX8, "wrong", "()I"⟩
abbrev cX8_needs : ByteArray := prog_10_method_64_code
def yX8_needs : MethodName := ⟨RX8, "needs", "(II)Z"⟩
abbrev cX8_hurt : ByteArray := prog_10_method_65_code
def yX8_hurt : MethodName := ⟨RX8, "hurt", "(I)I"⟩
abbrev cX8_common_ : ByteArray := prog_10_method_66_code
def yX8_common_ : MethodName := ⟨RX8, "common", "(JJ)J"⟩
abbrev cX8_part : ByteArray := prog_10_method_67_code
def yX8_part : MethodName := ⟨RX8, "part", "(JJI)J"⟩
abbrev cX8_lost : ByteArray := prog_10_method_68_code
def yX8_lost : MethodName := ⟨RX8, "lost", "(III)J"⟩
abbrev cX8_mean : ByteArray := prog_10_method_69_code
def yX8_mean : MethodName := ⟨RX8, "mean", "(I)J"⟩
abbrev cX8_fitsRow : ByteArray := prog_10_method_70_code
def yX8_fitsRow : MethodName := ⟨RX8, "fitsRow", "()Z"⟩
abbrev cX8_whatIs : ByteArray := prog_10_method_71_code
def yX8_whatIs : MethodName := ⟨RX8, "whatIs", "(I)I"⟩
abbrev cX8_row : ByteArray := prog_10_method_72_code
def yX8_row : MethodName := ⟨RX8, "row", "(I)I"⟩
abbrev cX8_judge : ByteArray := prog_10_method_73_code
def yX8_judge : MethodName := ⟨RX8, "judge", "(I)I"⟩
abbrev cX8_clear : ByteArray := prog_10_method_74_code
def yX8_clear : MethodName := ⟨RX8, "clear", "()I"⟩
abbrev cX8_draw : ByteArray := prog_10_method_75_code
def yX8_draw : MethodName := ⟨RX8, "draw", "(I)I"⟩
abbrev cX8_nth : ByteArray := prog_10_method_76_code
def yX8_nth : MethodName := ⟨RX8, "nth", "(I)I"⟩
abbrev cX8_lots : ByteArray := prog_10_method_77_code
def yX8_lots : MethodName := ⟨RX8, "lots", "(III)I"⟩
abbrev cX8_image : ByteArray := prog_10_method_78_code
def yX8_image : MethodName := ⟨RX8, "image", "()I"⟩
abbrev cX8_on : ByteArray := prog_10_method_79_code
def yX8_on : MethodName := ⟨RX8, "on", "()I"⟩
abbrev cX8_count : ByteArray := prog_10_method_80_code
def yX8_count : MethodName := ⟨RX8, "count", "(I)I"⟩
def RJ6 : String := "java/lang/Integer"
abbrev cJ6_bitCount_0f7a4 : ByteArray := prog_11_method_49_code
def yJ6_bitCount_0f7a4 : MethodName := ⟨RJ6, "bitCount", "(I)I"⟩
def RJ9 : String := "java/lang/Math"
abbrev cJ9_max_7cf53 : ByteArray := prog_12_method_65_code
def yJ9_max_7cf53 : MethodName := ⟨RJ9, "max", "(II)I"⟩
abbrev cJ9_min_7cf53 : ByteArray := prog_12_method_69_code
def yJ9_min_7cf53 : MethodName := ⟨RJ9, "min", "(II)I"⟩
def RJ0 : String := "java/lang/String"
abbrev cJ0_length_8abf5 : ByteArray := prog_13_method_54_code
def yJ0_length_8abf5 : MethodName := ⟨RJ0, "length", "()I"⟩
abbrev cJ0_isEmpty_aae02 : ByteArray := prog_13_method_55_code
def yJ0_isEmpty_aae02 : MethodName := ⟨RJ0, "isEmpty", "()Z"⟩
abbrev cJ0_charAt_5068e : ByteArray := prog_13_method_56_code
def yJ0_charAt_5068e : MethodName := ⟨RJ0, "charAt", "(I)C"⟩
abbrev cJ0_coder_7d493 : ByteArray := prog_13_method_152_code
def yJ0_coder_7d493 : MethodName := ⟨RJ0, "coder", "()B"⟩
abbrev cJ0_isLatin1_aae02 : ByteArray := prog_13_method_154_code
def yJ0_isLatin1_aae02 : MethodName := ⟨RJ0, "isLatin1", "()Z"⟩
abbrev cJ0_checkIndex_df160 : ByteArray := prog_13_method_155_code
def yJ0_checkIndex_df160 : MethodName := ⟨RJ0, "checkIndex", "(II)V"⟩
def RJ1 : String := "java/lang/StringLatin1"
abbrev cJ1_charAt_3b067 : ByteArray := prog_14_method_2_code
def yJ1_charAt_3b067 : MethodName := ⟨RJ1, "charAt", "([BI)C"⟩
def RJ2 : String := "java/lang/StringUTF16"
abbrev cJ2_getChar_3b067 : ByteArray := prog_15_method_5_code
def yJ2_getChar_3b067 : MethodName := ⟨RJ2, "getChar", "([BI)C"⟩
abbrev cJ2_length_9d52b : ByteArray := prog_15_method_6_code
def yJ2_length_9d52b : MethodName := ⟨RJ2, "length", "([B)I"⟩
abbrev cJ2_charAt_3b067 : ByteArray := prog_15_method_83_code
def yJ2_charAt_3b067 : MethodName := ⟨RJ2, "charAt", "([BI)C"⟩
abbrev cJ2_checkIndex_2214a : ByteArray := prog_15_method_91_code
def yJ2_checkIndex_2214a : MethodName := ⟨RJ2, "checkIndex", "(I[B)V"⟩
def RJ10 : String := "java/lang/System"
def RJ3 : String := "jdk/internal/util/Preconditions"
abbrev cJ3_checkIndex_8e157 : ByteArray := prog_17_method_11_code
def yJ3_checkIndex_8e157 : MethodName := ⟨RJ3, "checkIndex", "(IILjava/util/function/BiFunction;)I"⟩
def RL : String := "ArchiveOfDeltasLaw"
abbrev cL_law : ByteArray := code
def yL_law : MethodName := ⟨RL, "law", "([I)Z"⟩
abbrev vwCl : List vw_C := [(RX0, TX0, 4), (RX1, TX1, 1), (RX2, TX2, 2), (RX3, TX3, 13), (RX4, TX4, 8), (RX5, TX5, 2), (RX6, TX6, 7), (RX7, TX7, 10), (RX8, TX8, 21)]
end
section
theorem dX0_init_0 : decode cX0_init 0 = .ok (.aload_n 0, 1) := by decide +kernel
theorem dX0_init_1 : decode cX0_init 1 = .ok (.invokespecial 3, 3) := by decide +kernel
theorem dX0_init_4 : decode cX0_init 4 = .ok (.aload_n 0, 1) := by decide +kernel
theorem dX0_init_5 : decode cX0_init 5 = .ok (.bipush 12, 2) := by decide +kernel
theorem dX0_init_7 : decode cX0_init 7 = .ok (.newarray .int, 2) := by decide +kernel
theorem dX0_init_9 : decode cX0_init 9 = .ok (.putfield 9, 3) := by decide +kernel
theorem dX0_init_12 : decode cX0_init 12 = .ok (.aload_n 0, 1) := by decide +kernel
theorem dX0_init_13 : decode cX0_init 13 = .ok (.bipush 12, 2) := by decide +kernel
theorem dX0_init_15 : decode cX0_init 15 = .ok (.newarray .int, 2) := by decide +kernel
theorem dX0_init_17 : decode cX0_init 17 = .ok (.putfield 15, 3) := by decide +kernel
theorem dX0_init_20 : decode cX0_init 20 = .ok (.aload_n 0, 1) := by decide +kernel
theorem dX0_init_21 : decode cX0_init 21 = .ok (.iconst 0, 1) := by decide +kernel
theorem dX0_init_22 : decode cX0_init 22 = .ok (.putfield 18, 3) := by decide +kernel
theorem dX0_init_25 : decode cX0_init 25 = .ok (.aload_n 0, 1) := by decide +kernel
theorem dX0_init_26 : decode cX0_init 26 = .ok (.iconst 0, 1) := by decide +kernel
theorem dX0_init_27 : decode cX0_init 27 = .ok (.putfield 22, 3) := by decide +kernel
theorem dX0_init_30 : decode cX0_init 30 = .ok (.return_, 1) := by decide +kernel
theorem dX0_make_0 : decode cX0_make 0 = .ok (.aload_n 0, 1) := by decide +kernel
theorem dX0_make_1 : decode cX0_make 1 = .ok (.iconst 0, 1) := by decide +kernel
theorem dX0_make_2 : decode cX0_make 2 = .ok (.putfield 18, 3) := by decide +kernel
theorem dX0_make_5 : decode cX0_make 5 = .ok (.aload_n 0, 1) := by decide +kernel
theorem dX0_make_6 : decode cX0_make 6 = .ok (.iconst 0, 1) := by decide +kernel
theorem dX0_make_7 : decode cX0_make 7 = .ok (.putfield 22, 3) := by decide +kernel
theorem dX0_make_10 : decode cX0_make 10 = .ok (.iconst 0, 1) := by decide +kernel
theorem dX0_make_11 : decode cX0_make 11 = .ok (.istore_n 3, 1) := by decide +kernel
theorem dX0_make_12 : decode cX0_make 12 = .ok (.iload_n 3, 1) := by decide +kernel
theorem dX0_make_13 : decode cX0_make 13 = .ok (.aload_n 2, 1) := by decide +kernel
theorem dX0_make_14 : decode cX0_make 14 = .ok (.getfield 25, 3) := by decide +kernel
theorem dX0_make_17 : decode cX0_make 17 = .ok (.if_icmp .ge 33, 3) := by decide +kernel
theorem dX0_make_20 : decode cX0_make 20 = .ok (.aload_n 0, 1) := by decide +kernel
theorem dX0_make_21 : decode cX0_make 21 = .ok (.getfield 18, 3) := by decide +kernel
theorem dX0_make_24 : decode cX0_make 24 = .ok (.aload_n 0, 1) := by decide +kernel
theorem dX0_make_25 : decode cX0_make 25 = .ok (.getfield 9, 3) := by decide +kernel
theorem dX0_make_28 : decode cX0_make 28 = .ok (.arraylength, 1) := by decide +kernel
theorem dX0_make_29 : decode cX0_make 29 = .ok (.if_icmp .lt 4, 3) := by decide +kernel
theorem dX0_make_32 : decode cX0_make 32 = .ok (.return_, 1) := by decide +kernel
theorem dX0_make_33 : decode cX0_make 33 = .ok (.iload_n 3, 1) := by decide +kernel
theorem dX0_make_34 : decode cX0_make 34 = .ok (.iconst 1, 1) := by decide +kernel
theorem dX0_make_35 : decode cX0_make 35 = .ok (.aload_n 0, 1) := by decide +kernel
theorem dX0_make_36 : decode cX0_make 36 = .ok (.aload_n 1, 1) := by decide +kernel
theorem dX0_make_37 : decode cX0_make 37 = .ok (.aload_n 2, 1) := by decide +kernel
theorem dX0_make_38 : decode cX0_make 38 = .ok (.iload_n 3, 1) := by decide +kernel
theorem dX0_make_39 : decode cX0_make 39 = .ok (.invokevirtual 28, 3) := by decide +kernel
theorem dX0_make_42 : decode cX0_make 42 = .ok (.invokestatic 32, 3) := by decide +kernel
theorem dX0_make_45 : decode cX0_make 45 = .ok (.iadd, 1) := by decide +kernel
theorem dX0_make_46 : decode cX0_make 46 = .ok (.istore_n 3, 1) := by decide +kernel
theorem dX0_make_47 : decode cX0_make 47 = .ok (.goto (-35), 3) := by decide +kernel
theorem dX0_make_50 : decode cX0_make 50 = .ok (.return_, 1) := by decide +kernel
theorem dX0_addStep_0 : decode cX0_addStep 0 = .ok (.iconst 0, 1) := by decide +kernel
theorem dX0_addStep_1 : decode cX0_addStep 1 = .ok (.istore 4, 2) := by decide +kernel
theorem dX0_addStep_3 : decode cX0_addStep 3 = .ok (.iconst 0, 1) := by decide +kernel
theorem dX0_addStep_4 : decode cX0_addStep 4 = .ok (.istore 5, 2) := by decide +kernel
theorem dX0_addStep_6 : decode cX0_addStep 6 = .ok (.iconst 0, 1) := by decide +kernel
theorem dX0_addStep_7 : decode cX0_addStep 7 = .ok (.istore 6, 2) := by decide +kernel
theorem dX0_addStep_9 : decode cX0_addStep 9 = .ok (.iload 6, 2) := by decide +kernel
theorem dX0_addStep_11 : decode cX0_addStep 11 = .ok (.iload 4, 2) := by decide +kernel
theorem dX0_addStep_13 : decode cX0_addStep 13 = .ok (.iadd, 1) := by decide +kernel
theorem dX0_addStep_14 : decode cX0_addStep 14 = .ok (.aload_n 1, 1) := by decide +kernel
theorem dX0_addStep_15 : decode cX0_addStep 15 = .ok (.getfield 25, 3) := by decide +kernel
theorem dX0_addStep_18 : decode cX0_addStep 18 = .ok (.if_icmp .ge 34, 3) := by decide +kernel
theorem dX0_addStep_21 : decode cX0_addStep 21 = .ok (.aload_n 1, 1) := by decide +kernel
theorem dX0_addStep_22 : decode cX0_addStep 22 = .ok (.iload 6, 2) := by decide +kernel
theorem dX0_addStep_24 : decode cX0_addStep 24 = .ok (.aload_n 2, 1) := by decide +kernel
theorem dX0_addStep_25 : decode cX0_addStep 25 = .ok (.iload_n 3, 1) := by decide +kernel
theorem dX0_addStep_26 : decode cX0_addStep 26 = .ok (.invokevirtual 38, 3) := by decide +kernel
theorem dX0_addStep_29 : decode cX0_addStep 29 = .ok (.istore 7, 2) := by decide +kernel
theorem dX0_addStep_31 : decode cX0_addStep 31 = .ok (.iload 7, 2) := by decide +kernel
theorem dX0_addStep_33 : decode cX0_addStep 33 = .ok (.iload 4, 2) := by decide +kernel
theorem dX0_addStep_35 : decode cX0_addStep 35 = .ok (.if_icmp .le 11, 3) := by decide +kernel
theorem dX0_addStep_38 : decode cX0_addStep 38 = .ok (.iload 7, 2) := by decide +kernel
theorem dX0_addStep_40 : decode cX0_addStep 40 = .ok (.istore 4, 2) := by decide +kernel
theorem dX0_addStep_42 : decode cX0_addStep 42 = .ok (.iload 6, 2) := by decide +kernel
theorem dX0_addStep_44 : decode cX0_addStep 44 = .ok (.istore 5, 2) := by decide +kernel
theorem dX0_addStep_46 : decode cX0_addStep 46 = .ok (.iinc 6 1, 3) := by decide +kernel
theorem dX0_addStep_49 : decode cX0_addStep 49 = .ok (.goto (-40), 3) := by decide +kernel
theorem dX0_addStep_52 : decode cX0_addStep 52 = .ok (.iload 4, 2) := by decide +kernel
theorem dX0_addStep_54 : decode cX0_addStep 54 = .ok (.iconst 2, 1) := by decide +kernel
theorem dX0_addStep_55 : decode cX0_addStep 55 = .ok (.if_icmp .lt 24, 3) := by decide +kernel
theorem dX0_addStep_58 : decode cX0_addStep 58 = .ok (.aload_n 0, 1) := by decide +kernel
theorem dX0_addStep_59 : decode cX0_addStep 59 = .ok (.iload 4, 2) := by decide +kernel
theorem dX0_addStep_61 : decode cX0_addStep 61 = .ok (.iload 5, 2) := by decide +kernel
theorem dX0_addStep_63 : decode cX0_addStep 63 = .ok (.invokevirtual 42, 3) := by decide +kernel
theorem dX0_addStep_66 : decode cX0_addStep 66 = .ok (.aload_n 0, 1) := by decide +kernel
theorem dX0_addStep_67 : decode cX0_addStep 67 = .ok (.dup, 1) := by decide +kernel
theorem dX0_addStep_68 : decode cX0_addStep 68 = .ok (.getfield 22, 3) := by decide +kernel
theorem dX0_addStep_71 : decode cX0_addStep 71 = .ok (.iconst 1, 1) := by decide +kernel
theorem dX0_addStep_72 : decode cX0_addStep 72 = .ok (.iadd, 1) := by decide +kernel
theorem dX0_addStep_73 : decode cX0_addStep 73 = .ok (.putfield 22, 3) := by decide +kernel
theorem dX0_addStep_76 : decode cX0_addStep 76 = .ok (.iload 4, 2) := by decide +kernel
theorem dX0_addStep_78 : decode cX0_addStep 78 = .ok (.ireturn, 1) := by decide +kernel
theorem dX0_addStep_79 : decode cX0_addStep 79 = .ok (.aload_n 0, 1) := by decide +kernel
theorem dX0_addStep_80 : decode cX0_addStep 80 = .ok (.iconst 0, 1) := by decide +kernel
theorem dX0_addStep_81 : decode cX0_addStep 81 = .ok (.aload_n 2, 1) := by decide +kernel
theorem dX0_addStep_82 : decode cX0_addStep 82 = .ok (.iload_n 3, 1) := by decide +kernel
theorem dX0_addStep_83 : decode cX0_addStep 83 = .ok (.invokevirtual 46, 3) := by decide +kernel
theorem dX0_addStep_86 : decode cX0_addStep 86 = .ok (.invokevirtual 42, 3) := by decide +kernel
theorem dX0_addStep_89 : decode cX0_addStep 89 = .ok (.iconst 1, 1) := by decide +kernel
theorem dX0_addStep_90 : decode cX0_addStep 90 = .ok (.ireturn, 1) := by decide +kernel
theorem dX0_put_0 : decode cX0_put 0 = .ok (.aload_n 0, 1) := by decide +kernel
theorem dX0_put_1 : decode cX0_put 1 = .ok (.getfield 18, 3) := by decide +kernel
theorem dX0_put_4 : decode cX0_put 4 = .ok (.ifCond .lt 57, 3) := by decide +kernel
theorem dX0_put_7 : decode cX0_put 7 = .ok (.aload_n 0, 1) := by decide +kernel
theorem dX0_put_8 : decode cX0_put 8 = .ok (.getfield 18, 3) := by decide +kernel
theorem dX0_put_11 : decode cX0_put 11 = .ok (.aload_n 0, 1) := by decide +kernel
theorem dX0_put_12 : decode cX0_put 12 = .ok (.getfield 9, 3) := by decide +kernel
theorem dX0_put_15 : decode cX0_put 15 = .ok (.arraylength, 1) := by decide +kernel
theorem dX0_put_16 : decode cX0_put 16 = .ok (.if_icmp .ge 45, 3) := by decide +kernel
theorem dX0_put_19 : decode cX0_put 19 = .ok (.aload_n 0, 1) := by decide +kernel
theorem dX0_put_20 : decode cX0_put 20 = .ok (.getfield 18, 3) := by decide +kernel
theorem dX0_put_23 : decode cX0_put 23 = .ok (.aload_n 0, 1) := by decide +kernel
theorem dX0_put_24 : decode cX0_put 24 = .ok (.getfield 15, 3) := by decide +kernel
theorem dX0_put_27 : decode cX0_put 27 = .ok (.arraylength, 1) := by decide +kernel
theorem dX0_put_28 : decode cX0_put 28 = .ok (.if_icmp .ge 33, 3) := by decide +kernel
theorem dX0_put_31 : decode cX0_put 31 = .ok (.aload_n 0, 1) := by decide +kernel
theorem dX0_put_32 : decode cX0_put 32 = .ok (.getfield 9, 3) := by decide +kernel
theorem dX0_put_35 : decode cX0_put 35 = .ok (.aload_n 0, 1) := by decide +kernel
theorem dX0_put_36 : decode cX0_put 36 = .ok (.getfield 18, 3) := by decide +kernel
theorem dX0_put_39 : decode cX0_put 39 = .ok (.iload_n 1, 1) := by decide +kernel
theorem dX0_put_40 : decode cX0_put 40 = .ok (.iastore, 1) := by decide +kernel
theorem dX0_put_41 : decode cX0_put 41 = .ok (.aload_n 0, 1) := by decide +kernel
theorem dX0_put_42 : decode cX0_put 42 = .ok (.getfield 15, 3) := by decide +kernel
theorem dX0_put_45 : decode cX0_put 45 = .ok (.aload_n 0, 1) := by decide +kernel
theorem dX0_put_46 : decode cX0_put 46 = .ok (.getfield 18, 3) := by decide +kernel
theorem dX0_put_49 : decode cX0_put 49 = .ok (.iload_n 2, 1) := by decide +kernel
theorem dX0_put_50 : decode cX0_put 50 = .ok (.iastore, 1) := by decide +kernel
theorem dX0_put_51 : decode cX0_put 51 = .ok (.aload_n 0, 1) := by decide +kernel
theorem dX0_put_52 : decode cX0_put 52 = .ok (.dup, 1) := by decide +kernel
theorem dX0_put_53 : decode cX0_put 53 = .ok (.getfield 18, 3) := by decide +kernel
theorem dX0_put_56 : decode cX0_put 56 = .ok (.iconst 1, 1) := by decide +kernel
theorem dX0_put_57 : decode cX0_put 57 = .ok (.iadd, 1) := by decide +kernel
theorem dX0_put_58 : decode cX0_put 58 = .ok (.putfield 18, 3) := by decide +kernel
theorem dX0_put_61 : decode cX0_put 61 = .ok (.return_, 1) := by decide +kernel
theorem dX0_cost_0 : decode cX0_cost 0 = .ok (.iconst 1, 1) := by decide +kernel
theorem dX0_cost_1 : decode cX0_cost 1 = .ok (.aload_n 0, 1) := by decide +kernel
theorem dX0_cost_2 : decode cX0_cost 2 = .ok (.getfield 18, 3) := by decide +kernel
theorem dX0_cost_5 : decode cX0_cost 5 = .ok (.iadd, 1) := by decide +kernel
theorem dX0_cost_6 : decode cX0_cost 6 = .ok (.aload_n 0, 1) := by decide +kernel
theorem dX0_cost_7 : decode cX0_cost 7 = .ok (.getfield 22, 3) := by decide +kernel
theorem dX0_cost_10 : decode cX0_cost 10 = .ok (.iadd, 1) := by decide +kernel
theorem dX0_cost_11 : decode cX0_cost 11 = .ok (.ireturn, 1) := by decide +kernel
theorem dX0_spell_0 : decode cX0_spell 0 = .ok (.aload_n 2, 1) := by decide +kernel
theorem dX0_spell_1 : decode cX0_spell 1 = .ok (.invokevirtual 50, 3) := by decide +kernel
theorem dX0_spell_4 : decode cX0_spell 4 = .ok (.iconst 0, 1) := by decide +kernel
theorem dX0_spell_5 : decode cX0_spell 5 = .ok (.istore_n 3, 1) := by decide +kernel
theorem dX0_spell_6 : decode cX0_spell 6 = .ok (.iload_n 3, 1) := by decide +kernel
theorem dX0_spell_7 : decode cX0_spell 7 = .ok (.aload_n 0, 1) := by decide +kernel
theorem dX0_spell_8 : decode cX0_spell 8 = .ok (.getfield 18, 3) := by decide +kernel
theorem dX0_spell_11 : decode cX0_spell 11 = .ok (.if_icmp .ge 83, 3) := by decide +kernel
theorem dX0_spell_14 : decode cX0_spell 14 = .ok (.iload_n 3, 1) := by decide +kernel
theorem dX0_spell_15 : decode cX0_spell 15 = .ok (.aload_n 0, 1) := by decide +kernel
theorem dX0_spell_16 : decode cX0_spell 16 = .ok (.getfield 9, 3) := by decide +kernel
theorem dX0_spell_19 : decode cX0_spell 19 = .ok (.arraylength, 1) := by decide +kernel
theorem dX0_spell_20 : decode cX0_spell 20 = .ok (.if_icmp .ge 74, 3) := by decide +kernel
theorem dX0_spell_23 : decode cX0_spell 23 = .ok (.iload_n 3, 1) := by decide +kernel
theorem dX0_spell_24 : decode cX0_spell 24 = .ok (.aload_n 0, 1) := by decide +kernel
theorem dX0_spell_25 : decode cX0_spell 25 = .ok (.getfield 15, 3) := by decide +kernel
theorem dX0_spell_28 : decode cX0_spell 28 = .ok (.arraylength, 1) := by decide +kernel
theorem dX0_spell_29 : decode cX0_spell 29 = .ok (.if_icmp .ge 65, 3) := by decide +kernel
theorem dX0_spell_32 : decode cX0_spell 32 = .ok (.aload_n 0, 1) := by decide +kernel
theorem dX0_spell_33 : decode cX0_spell 33 = .ok (.getfield 9, 3) := by decide +kernel
theorem dX0_spell_36 : decode cX0_spell 36 = .ok (.iload_n 3, 1) := by decide +kernel
theorem dX0_spell_37 : decode cX0_spell 37 = .ok (.iaload, 1) := by decide +kernel
theorem dX0_spell_38 : decode cX0_spell 38 = .ok (.ifCond .ne 13, 3) := by decide +kernel
theorem dX0_spell_41 : decode cX0_spell 41 = .ok (.aload_n 2, 1) := by decide +kernel
theorem dX0_spell_42 : decode cX0_spell 42 = .ok (.aload_n 0, 1) := by decide +kernel
theorem dX0_spell_43 : decode cX0_spell 43 = .ok (.getfield 15, 3) := by decide +kernel
theorem dX0_spell_46 : decode cX0_spell 46 = .ok (.iload_n 3, 1) := by decide +kernel
theorem dX0_spell_47 : decode cX0_spell 47 = .ok (.iaload, 1) := by decide +kernel
theorem dX0_spell_48 : decode cX0_spell 48 = .ok (.invokevirtual 53, 3) := by decide +kernel
theorem dX0_spell_51 : decode cX0_spell 51 = .ok (.iconst 0, 1) := by decide +kernel
theorem dX0_spell_52 : decode cX0_spell 52 = .ok (.istore 4, 2) := by decide +kernel
theorem dX0_spell_54 : decode cX0_spell 54 = .ok (.iload 4, 2) := by decide +kernel
theorem dX0_spell_56 : decode cX0_spell 56 = .ok (.aload_n 0, 1) := by decide +kernel
theorem dX0_spell_57 : decode cX0_spell 57 = .ok (.getfield 9, 3) := by decide +kernel
theorem dX0_spell_60 : decode cX0_spell 60 = .ok (.iload_n 3, 1) := by decide +kernel
theorem dX0_spell_61 : decode cX0_spell 61 = .ok (.iaload, 1) := by decide +kernel
theorem dX0_spell_62 : decode cX0_spell 62 = .ok (.if_icmp .ge 26, 3) := by decide +kernel
theorem dX0_spell_65 : decode cX0_spell 65 = .ok (.aload_n 2, 1) := by decide +kernel
theorem dX0_spell_66 : decode cX0_spell 66 = .ok (.aload_n 1, 1) := by decide +kernel
theorem dX0_spell_67 : decode cX0_spell 67 = .ok (.aload_n 0, 1) := by decide +kernel
theorem dX0_spell_68 : decode cX0_spell 68 = .ok (.getfield 15, 3) := by decide +kernel
theorem dX0_spell_71 : decode cX0_spell 71 = .ok (.iload_n 3, 1) := by decide +kernel
theorem dX0_spell_72 : decode cX0_spell 72 = .ok (.iaload, 1) := by decide +kernel
theorem dX0_spell_73 : decode cX0_spell 73 = .ok (.iload 4, 2) := by decide +kernel
theorem dX0_spell_75 : decode cX0_spell 75 = .ok (.iadd, 1) := by decide +kernel
theorem dX0_spell_76 : decode cX0_spell 76 = .ok (.invokevirtual 46, 3) := by decide +kernel
theorem dX0_spell_79 : decode cX0_spell 79 = .ok (.invokevirtual 53, 3) := by decide +kernel
theorem dX0_spell_82 : decode cX0_spell 82 = .ok (.iinc 4 1, 3) := by decide +kernel
theorem dX0_spell_85 : decode cX0_spell 85 = .ok (.goto (-31), 3) := by decide +kernel
theorem dX0_spell_88 : decode cX0_spell 88 = .ok (.iinc 3 1, 3) := by decide +kernel
theorem dX0_spell_91 : decode cX0_spell 91 = .ok (.goto (-85), 3) := by decide +kernel
theorem dX0_spell_94 : decode cX0_spell 94 = .ok (.return_, 1) := by decide +kernel
theorem dX0_copyFrom_0 : decode cX0_copyFrom 0 = .ok (.aload_n 1, 1) := by decide +kernel
theorem dX0_copyFrom_1 : decode cX0_copyFrom 1 = .ok (.getfield 9, 3) := by decide +kernel
theorem dX0_copyFrom_4 : decode cX0_copyFrom 4 = .ok (.iconst 0, 1) := by decide +kernel
theorem dX0_copyFrom_5 : decode cX0_copyFrom 5 = .ok (.aload_n 0, 1) := by decide +kernel
theorem dX0_copyFrom_6 : decode cX0_copyFrom 6 = .ok (.getfield 9, 3) := by decide +kernel
theorem dX0_copyFrom_9 : decode cX0_copyFrom 9 = .ok (.iconst 0, 1) := by decide +kernel
theorem dX0_copyFrom_10 : decode cX0_copyFrom 10 = .ok (.bipush 12, 2) := by decide +kernel
theorem dX0_copyFrom_12 : decode cX0_copyFrom 12 = .ok (.invokestatic 57, 3) := by decide +kernel
theorem dX0_copyFrom_15 : decode cX0_copyFrom 15 = .ok (.aload_n 1, 1) := by decide +kernel
theorem dX0_copyFrom_16 : decode cX0_copyFrom 16 = .ok (.getfield 15, 3) := by decide +kernel
theorem dX0_copyFrom_19 : decode cX0_copyFrom 19 = .ok (.iconst 0, 1) := by decide +kernel
theorem dX0_copyFrom_20 : decode cX0_copyFrom 20 = .ok (.aload_n 0, 1) := by decide +kernel
theorem dX0_copyFrom_21 : decode cX0_copyFrom 21 = .ok (.getfield 15, 3) := by decide +kernel
theorem dX0_copyFrom_24 : decode cX0_copyFrom 24 = .ok (.iconst 0, 1) := by decide +kernel
theorem dX0_copyFrom_25 : decode cX0_copyFrom 25 = .ok (.bipush 12, 2) := by decide +kernel
theorem dX0_copyFrom_27 : decode cX0_copyFrom 27 = .ok (.invokestatic 57, 3) := by decide +kernel
theorem dX0_copyFrom_30 : decode cX0_copyFrom 30 = .ok (.aload_n 0, 1) := by decide +kernel
theorem dX0_copyFrom_31 : decode cX0_copyFrom 31 = .ok (.aload_n 1, 1) := by decide +kernel
theorem dX0_copyFrom_32 : decode cX0_copyFrom 32 = .ok (.getfield 18, 3) := by decide +kernel
theorem dX0_copyFrom_35 : decode cX0_copyFrom 35 = .ok (.putfield 18, 3) := by decide +kernel
theorem dX0_copyFrom_38 : decode cX0_copyFrom 38 = .ok (.aload_n 0, 1) := by decide +kernel
theorem dX0_copyFrom_39 : decode cX0_copyFrom 39 = .ok (.aload_n 1, 1) := by decide +kernel
theorem dX0_copyFrom_40 : decode cX0_copyFrom 40 = .ok (.getfield 22, 3) := by decide +kernel
theorem dX0_copyFrom_43 : decode cX0_copyFrom 43 = .ok (.putfield 22, 3) := by decide +kernel
theorem dX0_copyFrom_46 : decode cX0_copyFrom 46 = .ok (.return_, 1) := by decide +kernel
theorem dX1_init_0 : decode cX1_init 0 = .ok (.aload_n 0, 1) := by decide +kernel
theorem dX1_init_1 : decode cX1_init 1 = .ok (.invokespecial 1, 3) := by decide +kernel
theorem dX1_init_4 : decode cX1_init 4 = .ok (.aload_n 0, 1) := by decide +kernel
theorem dX1_init_5 : decode cX1_init 5 = .ok (.iconst 0, 1) := by decide +kernel
theorem dX1_init_6 : decode cX1_init 6 = .ok (.putfield 7, 3) := by decide +kernel
theorem dX1_init_9 : decode cX1_init 9 = .ok (.return_, 1) := by decide +kernel
theorem dX1_below_0 : decode cX1_below 0 = .ok (.aload_n 0, 1) := by decide +kernel
theorem dX1_below_1 : decode cX1_below 1 = .ok (.aload_n 0, 1) := by decide +kernel
theorem dX1_below_2 : decode cX1_below 2 = .ok (.getfield 7, 3) := by decide +kernel
theorem dX1_below_5 : decode cX1_below 5 = .ok (.ldc 13, 2) := by decide +kernel
theorem dX1_below_7 : decode cX1_below 7 = .ok (.imul, 1) := by decide +kernel
theorem dX1_below_8 : decode cX1_below 8 = .ok (.ldc 14, 2) := by decide +kernel
theorem dX1_below_10 : decode cX1_below 10 = .ok (.iadd, 1) := by decide +kernel
theorem dX1_below_11 : decode cX1_below 11 = .ok (.putfield 7, 3) := by decide +kernel
theorem dX1_below_14 : decode cX1_below 14 = .ok (.iload_n 1, 1) := by decide +kernel
theorem dX1_below_15 : decode cX1_below 15 = .ok (.ifCond .le 19, 3) := by decide +kernel
theorem dX1_below_18 : decode cX1_below 18 = .ok (.aload_n 0, 1) := by decide +kernel
theorem dX1_below_19 : decode cX1_below 19 = .ok (.getfield 7, 3) := by decide +kernel
theorem dX1_below_22 : decode cX1_below 22 = .ok (.ldc 17, 2) := by decide +kernel
theorem dX1_below_24 : decode cX1_below 24 = .ok (.iand, 1) := by decide +kernel
theorem dX1_below_25 : decode cX1_below 25 = .ok (.sipush 256, 3) := by decide +kernel
theorem dX1_below_28 : decode cX1_below 28 = .ok (.idiv, 1) := by decide +kernel
theorem dX1_below_29 : decode cX1_below 29 = .ok (.iload_n 1, 1) := by decide +kernel
theorem dX1_below_30 : decode cX1_below 30 = .ok (.irem, 1) := by decide +kernel
theorem dX1_below_31 : decode cX1_below 31 = .ok (.goto 4, 3) := by decide +kernel
theorem dX1_below_34 : decode cX1_below 34 = .ok (.iconst 0, 1) := by decide +kernel
theorem dX1_below_35 : decode cX1_below 35 = .ok (.ireturn, 1) := by decide +kernel
theorem dX2_init_0 : decode cX2_init 0 = .ok (.aload_n 0, 1) := by decide +kernel
theorem dX2_init_1 : decode cX2_init 1 = .ok (.invokespecial 3, 3) := by decide +kernel
theorem dX2_init_4 : decode cX2_init 4 = .ok (.aload_n 0, 1) := by decide +kernel
theorem dX2_init_5 : decode cX2_init 5 = .ok (.iconst 0, 1) := by decide +kernel
theorem dX2_init_6 : decode cX2_init 6 = .ok (.iload_n 1, 1) := by decide +kernel
theorem dX2_init_7 : decode cX2_init 7 = .ok (.invokestatic 9, 3) := by decide +kernel
theorem dX2_init_10 : decode cX2_init 10 = .ok (.newarray .int, 2) := by decide +kernel
theorem dX2_init_12 : decode cX2_init 12 = .ok (.putfield 15, 3) := by decide +kernel
theorem dX2_init_15 : decode cX2_init 15 = .ok (.aload_n 0, 1) := by decide +kernel
theorem dX2_init_16 : decode cX2_init 16 = .ok (.iconst 0, 1) := by decide +kernel
theorem dX2_init_17 : decode cX2_init 17 = .ok (.putfield 21, 3) := by decide +kernel
theorem dX2_init_20 : decode cX2_init 20 = .ok (.return_, 1) := by decide +kernel
theorem dX2_isFull_0 : decode cX2_isFull 0 = .ok (.aload_n 0, 1) := by decide +kernel
theorem dX2_isFull_1 : decode cX2_isFull 1 = .ok (.getfield 21, 3) := by decide +kernel
theorem dX2_isFull_4 : decode cX2_isFull 4 = .ok (.aload_n 0, 1) := by decide +kernel
theorem dX2_isFull_5 : decode cX2_isFull 5 = .ok (.getfield 15, 3) := by decide +kernel
theorem dX2_isFull_8 : decode cX2_isFull 8 = .ok (.arraylength, 1) := by decide +kernel
theorem dX2_isFull_9 : decode cX2_isFull 9 = .ok (.if_icmp .lt 7, 3) := by decide +kernel
theorem dX2_isFull_12 : decode cX2_isFull 12 = .ok (.iconst 1, 1) := by decide +kernel
theorem dX2_isFull_13 : decode cX2_isFull 13 = .ok (.goto 4, 3) := by decide +kernel
theorem dX2_isFull_16 : decode cX2_isFull 16 = .ok (.iconst 0, 1) := by decide +kernel
theorem dX2_isFull_17 : decode cX2_isFull 17 = .ok (.ireturn, 1) := by decide +kernel
theorem dX2_add_0 : decode cX2_add 0 = .ok (.aload_n 0, 1) := by decide +kernel
theorem dX2_add_1 : decode cX2_add 1 = .ok (.getfield 21, 3) := by decide +kernel
theorem dX2_add_4 : decode cX2_add 4 = .ok (.ifCond .lt 35, 3) := by decide +kernel
theorem dX2_add_7 : decode cX2_add 7 = .ok (.aload_n 0, 1) := by decide +kernel
theorem dX2_add_8 : decode cX2_add 8 = .ok (.getfield 21, 3) := by decide +kernel
theorem dX2_add_11 : decode cX2_add 11 = .ok (.aload_n 0, 1) := by decide +kernel
theorem dX2_add_12 : decode cX2_add 12 = .ok (.getfield 15, 3) := by decide +kernel
theorem dX2_add_15 : decode cX2_add 15 = .ok (.arraylength, 1) := by decide +kernel
theorem dX2_add_16 : decode cX2_add 16 = .ok (.if_icmp .ge 23, 3) := by decide +kernel
theorem dX2_add_19 : decode cX2_add 19 = .ok (.aload_n 0, 1) := by decide +kernel
theorem dX2_add_20 : decode cX2_add 20 = .ok (.getfield 15, 3) := by decide +kernel
theorem dX2_add_23 : decode cX2_add 23 = .ok (.aload_n 0, 1) := by decide +kernel
theorem dX2_add_24 : decode cX2_add 24 = .ok (.getfield 21, 3) := by decide +kernel
theorem dX2_add_27 : decode cX2_add 27 = .ok (.iload_n 1, 1) := by decide +kernel
theorem dX2_add_28 : decode cX2_add 28 = .ok (.iastore, 1) := by decide +kernel
theorem dX2_add_29 : decode cX2_add 29 = .ok (.aload_n 0, 1) := by decide +kernel
theorem dX2_add_30 : decode cX2_add 30 = .ok (.dup, 1) := by decide +kernel
theorem dX2_add_31 : decode cX2_add 31 = .ok (.getfield 21, 3) := by decide +kernel
theorem dX2_add_34 : decode cX2_add 34 = .ok (.iconst 1, 1) := by decide +kernel
theorem dX2_add_35 : decode cX2_add 35 = .ok (.iadd, 1) := by decide +kernel
theorem dX2_add_36 : decode cX2_add 36 = .ok (.putfield 21, 3) := by decide +kernel
theorem dX2_add_39 : decode cX2_add 39 = .ok (.return_, 1) := by decide +kernel
theorem dX2_at_0 : decode cX2_at 0 = .ok (.iload_n 1, 1) := by decide +kernel
theorem dX2_at_1 : decode cX2_at 1 = .ok (.ifCond .lt 29, 3) := by decide +kernel
theorem dX2_at_4 : decode cX2_at 4 = .ok (.iload_n 1, 1) := by decide +kernel
theorem dX2_at_5 : decode cX2_at 5 = .ok (.aload_n 0, 1) := by decide +kernel
theorem dX2_at_6 : decode cX2_at 6 = .ok (.getfield 21, 3) := by decide +kernel
theorem dX2_at_9 : decode cX2_at 9 = .ok (.if_icmp .ge 21, 3) := by decide +kernel
theorem dX2_at_12 : decode cX2_at 12 = .ok (.iload_n 1, 1) := by decide +kernel
theorem dX2_at_13 : decode cX2_at 13 = .ok (.aload_n 0, 1) := by decide +kernel
theorem dX2_at_14 : decode cX2_at 14 = .ok (.getfield 15, 3) := by decide +kernel
theorem dX2_at_17 : decode cX2_at 17 = .ok (.arraylength, 1) := by decide +kernel
theorem dX2_at_18 : decode cX2_at 18 = .ok (.if_icmp .ge 12, 3) := by decide +kernel
theorem dX2_at_21 : decode cX2_at 21 = .ok (.aload_n 0, 1) := by decide +kernel
theorem dX2_at_22 : decode cX2_at 22 = .ok (.getfield 15, 3) := by decide +kernel
theorem dX2_at_25 : decode cX2_at 25 = .ok (.iload_n 1, 1) := by decide +kernel
theorem dX2_at_26 : decode cX2_at 26 = .ok (.iaload, 1) := by decide +kernel
theorem dX2_at_27 : decode cX2_at 27 = .ok (.goto 4, 3) := by decide +kernel
theorem dX2_at_30 : decode cX2_at 30 = .ok (.iconst (-1), 1) := by decide +kernel
theorem dX2_at_31 : decode cX2_at 31 = .ok (.ireturn, 1) := by decide +kernel
theorem dX2_put_0 : decode cX2_put 0 = .ok (.iload_n 1, 1) := by decide +kernel
theorem dX2_put_1 : decode cX2_put 1 = .ok (.ifCond .lt 27, 3) := by decide +kernel
theorem dX2_put_4 : decode cX2_put 4 = .ok (.iload_n 1, 1) := by decide +kernel
theorem dX2_put_5 : decode cX2_put 5 = .ok (.aload_n 0, 1) := by decide +kernel
theorem dX2_put_6 : decode cX2_put 6 = .ok (.getfield 21, 3) := by decide +kernel
theorem dX2_put_9 : decode cX2_put 9 = .ok (.if_icmp .ge 19, 3) := by decide +kernel
theorem dX2_put_12 : decode cX2_put 12 = .ok (.iload_n 1, 1) := by decide +kernel
theorem dX2_put_13 : decode cX2_put 13 = .ok (.aload_n 0, 1) := by decide +kernel
theorem dX2_put_14 : decode cX2_put 14 = .ok (.getfield 15, 3) := by decide +kernel
theorem dX2_put_17 : decode cX2_put 17 = .ok (.arraylength, 1) := by decide +kernel
theorem dX2_put_18 : decode cX2_put 18 = .ok (.if_icmp .ge 10, 3) := by decide +kernel
theorem dX2_put_21 : decode cX2_put 21 = .ok (.aload_n 0, 1) := by decide +kernel
theorem dX2_put_22 : decode cX2_put 22 = .ok (.getfield 15, 3) := by decide +kernel
theorem dX2_put_25 : decode cX2_put 25 = .ok (.iload_n 1, 1) := by decide +kernel
theorem dX2_put_26 : decode cX2_put 26 = .ok (.iload_n 2, 1) := by decide +kernel
theorem dX2_put_27 : decode cX2_put 27 = .ok (.iastore, 1) := by decide +kernel
theorem dX2_put_28 : decode cX2_put 28 = .ok (.return_, 1) := by decide +kernel
theorem dX2_empty_0 : decode cX2_empty 0 = .ok (.aload_n 0, 1) := by decide +kernel
theorem dX2_empty_1 : decode cX2_empty 1 = .ok (.iconst 0, 1) := by decide +kernel
theorem dX2_empty_2 : decode cX2_empty 2 = .ok (.putfield 21, 3) := by decide +kernel
theorem dX2_empty_5 : decode cX2_empty 5 = .ok (.return_, 1) := by decide +kernel
theorem dX2_copyFrom_0 : decode cX2_copyFrom 0 = .ok (.aload_n 0, 1) := by decide +kernel
theorem dX2_copyFrom_1 : decode cX2_copyFrom 1 = .ok (.aload_n 1, 1) := by decide +kernel
theorem dX2_copyFrom_2 : decode cX2_copyFrom 2 = .ok (.getfield 21, 3) := by decide +kernel
theorem dX2_copyFrom_5 : decode cX2_copyFrom 5 = .ok (.aload_n 0, 1) := by decide +kernel
theorem dX2_copyFrom_6 : decode cX2_copyFrom 6 = .ok (.getfield 15, 3) := by decide +kernel
theorem dX2_copyFrom_9 : decode cX2_copyFrom 9 = .ok (.arraylength, 1) := by decide +kernel
theorem dX2_copyFrom_10 : decode cX2_copyFrom 10 = .ok (.invokestatic 25, 3) := by decide +kernel
theorem dX2_copyFrom_13 : decode cX2_copyFrom 13 = .ok (.putfield 21, 3) := by decide +kernel
theorem dX2_copyFrom_16 : decode cX2_copyFrom 16 = .ok (.aload_n 1, 1) := by decide +kernel
theorem dX2_copyFrom_17 : decode cX2_copyFrom 17 = .ok (.getfield 15, 3) := by decide +kernel
theorem dX2_copyFrom_20 : decode cX2_copyFrom 20 = .ok (.iconst 0, 1) := by decide +kernel
theorem dX2_copyFrom_21 : decode cX2_copyFrom 21 = .ok (.aload_n 0, 1) := by decide +kernel
theorem dX2_copyFrom_22 : decode cX2_copyFrom 22 = .ok (.getfield 15, 3) := by decide +kernel
theorem dX2_copyFrom_25 : decode cX2_copyFrom 25 = .ok (.iconst 0, 1) := by decide +kernel
theorem dX2_copyFrom_26 : decode cX2_copyFrom 26 = .ok (.aload_n 0, 1) := by decide +kernel
theorem dX2_copyFrom_27 : decode cX2_copyFrom 27 = .ok (.getfield 21, 3) := by decide +kernel
theorem dX2_copyFrom_30 : decode cX2_copyFrom 30 = .ok (.invokestatic 28, 3) := by decide +kernel
theorem dX2_copyFrom_33 : decode cX2_copyFrom 33 = .ok (.return_, 1) := by decide +kernel
theorem dX2_alikeFrom_0 : decode cX2_alikeFrom 0 = .ok (.iload_n 1, 1) := by decide +kernel
theorem dX2_alikeFrom_1 : decode cX2_alikeFrom 1 = .ok (.ifCond .lt 7, 3) := by decide +kernel
theorem dX2_alikeFrom_4 : decode cX2_alikeFrom 4 = .ok (.iload_n 3, 1) := by decide +kernel
theorem dX2_alikeFrom_5 : decode cX2_alikeFrom 5 = .ok (.ifCond .ge 5, 3) := by decide +kernel
theorem dX2_alikeFrom_8 : decode cX2_alikeFrom 8 = .ok (.iconst 0, 1) := by decide +kernel
theorem dX2_alikeFrom_9 : decode cX2_alikeFrom 9 = .ok (.ireturn, 1) := by decide +kernel
theorem dX2_alikeFrom_10 : decode cX2_alikeFrom 10 = .ok (.iconst 0, 1) := by decide +kernel
theorem dX2_alikeFrom_11 : decode cX2_alikeFrom 11 = .ok (.istore 4, 2) := by decide +kernel
theorem dX2_alikeFrom_13 : decode cX2_alikeFrom 13 = .ok (.iload_n 1, 1) := by decide +kernel
theorem dX2_alikeFrom_14 : decode cX2_alikeFrom 14 = .ok (.iload 4, 2) := by decide +kernel
theorem dX2_alikeFrom_16 : decode cX2_alikeFrom 16 = .ok (.iadd, 1) := by decide +kernel
theorem dX2_alikeFrom_17 : decode cX2_alikeFrom 17 = .ok (.aload_n 0, 1) := by decide +kernel
theorem dX2_alikeFrom_18 : decode cX2_alikeFrom 18 = .ok (.getfield 21, 3) := by decide +kernel
theorem dX2_alikeFrom_21 : decode cX2_alikeFrom 21 = .ok (.if_icmp .ge 41, 3) := by decide +kernel
theorem dX2_alikeFrom_24 : decode cX2_alikeFrom 24 = .ok (.iload_n 3, 1) := by decide +kernel
theorem dX2_alikeFrom_25 : decode cX2_alikeFrom 25 = .ok (.iload 4, 2) := by decide +kernel
theorem dX2_alikeFrom_27 : decode cX2_alikeFrom 27 = .ok (.iadd, 1) := by decide +kernel
theorem dX2_alikeFrom_28 : decode cX2_alikeFrom 28 = .ok (.aload_n 2, 1) := by decide +kernel
theorem dX2_alikeFrom_29 : decode cX2_alikeFrom 29 = .ok (.getfield 21, 3) := by decide +kernel
theorem dX2_alikeFrom_32 : decode cX2_alikeFrom 32 = .ok (.if_icmp .ge 30, 3) := by decide +kernel
theorem dX2_alikeFrom_35 : decode cX2_alikeFrom 35 = .ok (.aload_n 0, 1) := by decide +kernel
theorem dX2_alikeFrom_36 : decode cX2_alikeFrom 36 = .ok (.getfield 15, 3) := by decide +kernel
theorem dX2_alikeFrom_39 : decode cX2_alikeFrom 39 = .ok (.iload_n 1, 1) := by decide +kernel
theorem dX2_alikeFrom_40 : decode cX2_alikeFrom 40 = .ok (.iload 4, 2) := by decide +kernel
theorem dX2_alikeFrom_42 : decode cX2_alikeFrom 42 = .ok (.iadd, 1) := by decide +kernel
theorem dX2_alikeFrom_43 : decode cX2_alikeFrom 43 = .ok (.iaload, 1) := by decide +kernel
theorem dX2_alikeFrom_44 : decode cX2_alikeFrom 44 = .ok (.aload_n 2, 1) := by decide +kernel
theorem dX2_alikeFrom_45 : decode cX2_alikeFrom 45 = .ok (.getfield 15, 3) := by decide +kernel
theorem dX2_alikeFrom_48 : decode cX2_alikeFrom 48 = .ok (.iload_n 3, 1) := by decide +kernel
theorem dX2_alikeFrom_49 : decode cX2_alikeFrom 49 = .ok (.iload 4, 2) := by decide +kernel
theorem dX2_alikeFrom_51 : decode cX2_alikeFrom 51 = .ok (.iadd, 1) := by decide +kernel
theorem dX2_alikeFrom_52 : decode cX2_alikeFrom 52 = .ok (.iaload, 1) := by decide +kernel
theorem dX2_alikeFrom_53 : decode cX2_alikeFrom 53 = .ok (.if_icmp .ne 9, 3) := by decide +kernel
theorem dX2_alikeFrom_56 : decode cX2_alikeFrom 56 = .ok (.iinc 4 1, 3) := by decide +kernel
theorem dX2_alikeFrom_59 : decode cX2_alikeFrom 59 = .ok (.goto (-46), 3) := by decide +kernel
theorem dX2_alikeFrom_62 : decode cX2_alikeFrom 62 = .ok (.iload 4, 2) := by decide +kernel
theorem dX2_alikeFrom_64 : decode cX2_alikeFrom 64 = .ok (.ireturn, 1) := by decide +kernel
theorem dX2_isSameAs_0 : decode cX2_isSameAs 0 = .ok (.aload_n 0, 1) := by decide +kernel
theorem dX2_isSameAs_1 : decode cX2_isSameAs 1 = .ok (.getfield 21, 3) := by decide +kernel
theorem dX2_isSameAs_4 : decode cX2_isSameAs 4 = .ok (.aload_n 1, 1) := by decide +kernel
theorem dX2_isSameAs_5 : decode cX2_isSameAs 5 = .ok (.getfield 21, 3) := by decide +kernel
theorem dX2_isSameAs_8 : decode cX2_isSameAs 8 = .ok (.if_icmp .ne 21, 3) := by decide +kernel
theorem dX2_isSameAs_11 : decode cX2_isSameAs 11 = .ok (.aload_n 0, 1) := by decide +kernel
theorem dX2_isSameAs_12 : decode cX2_isSameAs 12 = .ok (.iconst 0, 1) := by decide +kernel
theorem dX2_isSameAs_13 : decode cX2_isSameAs 13 = .ok (.aload_n 1, 1) := by decide +kernel
theorem dX2_isSameAs_14 : decode cX2_isSameAs 14 = .ok (.iconst 0, 1) := by decide +kernel
theorem dX2_isSameAs_15 : decode cX2_isSameAs 15 = .ok (.invokevirtual 34, 3) := by decide +kernel
theorem dX2_isSameAs_18 : decode cX2_isSameAs 18 = .ok (.aload_n 0, 1) := by decide +kernel
theorem dX2_isSameAs_19 : decode cX2_isSameAs 19 = .ok (.getfield 21, 3) := by decide +kernel
theorem dX2_isSameAs_22 : decode cX2_isSameAs 22 = .ok (.if_icmp .ne 7, 3) := by decide +kernel
theorem dX2_isSameAs_25 : decode cX2_isSameAs 25 = .ok (.iconst 1, 1) := by decide +kernel
theorem dX2_isSameAs_26 : decode cX2_isSameAs 26 = .ok (.goto 4, 3) := by decide +kernel
theorem dX2_isSameAs_29 : decode cX2_isSameAs 29 = .ok (.iconst 0, 1) := by decide +kernel
theorem dX2_isSameAs_30 : decode cX2_isSameAs 30 = .ok (.ireturn, 1) := by decide +kernel
theorem dX2_hashed_0 : decode cX2_hashed 0 = .ok (.bipush 7, 2) := by decide +kernel
theorem dX2_hashed_2 : decode cX2_hashed 2 = .ok (.istore_n 1, 1) := by decide +kernel
theorem dX2_hashed_3 : decode cX2_hashed 3 = .ok (.iconst 0, 1) := by decide +kernel
theorem dX2_hashed_4 : decode cX2_hashed 4 = .ok (.istore_n 2, 1) := by decide +kernel
theorem dX2_hashed_5 : decode cX2_hashed 5 = .ok (.iload_n 2, 1) := by decide +kernel
theorem dX2_hashed_6 : decode cX2_hashed 6 = .ok (.aload_n 0, 1) := by decide +kernel
theorem dX2_hashed_7 : decode cX2_hashed 7 = .ok (.getfield 21, 3) := by decide +kernel
theorem dX2_hashed_10 : decode cX2_hashed 10 = .ok (.if_icmp .ge 25, 3) := by decide +kernel
theorem dX2_hashed_13 : decode cX2_hashed 13 = .ok (.bipush 31, 2) := by decide +kernel
theorem dX2_hashed_15 : decode cX2_hashed 15 = .ok (.iload_n 1, 1) := by decide +kernel
theorem dX2_hashed_16 : decode cX2_hashed 16 = .ok (.imul, 1) := by decide +kernel
theorem dX2_hashed_17 : decode cX2_hashed 17 = .ok (.aload_n 0, 1) := by decide +kernel
theorem dX2_hashed_18 : decode cX2_hashed 18 = .ok (.getfield 15, 3) := by decide +kernel
theorem dX2_hashed_21 : decode cX2_hashed 21 = .ok (.iload_n 2, 1) := by decide +kernel
theorem dX2_hashed_22 : decode cX2_hashed 22 = .ok (.iaload, 1) := by decide +kernel
theorem dX2_hashed_23 : decode cX2_hashed 23 = .ok (.iadd, 1) := by decide +kernel
theorem dX2_hashed_24 : decode cX2_hashed 24 = .ok (.sipush 9973, 3) := by decide +kernel
theorem dX2_hashed_27 : decode cX2_hashed 27 = .ok (.irem, 1) := by decide +kernel
theorem dX2_hashed_28 : decode cX2_hashed 28 = .ok (.istore_n 1, 1) := by decide +kernel
theorem dX2_hashed_29 : decode cX2_hashed 29 = .ok (.iinc 2 1, 3) := by decide +kernel
theorem dX2_hashed_32 : decode cX2_hashed 32 = .ok (.goto (-27), 3) := by decide +kernel
theorem dX2_hashed_35 : decode cX2_hashed 35 = .ok (.iload_n 1, 1) := by decide +kernel
theorem dX2_hashed_36 : decode cX2_hashed 36 = .ok (.ireturn, 1) := by decide +kernel
theorem dX3_init_0 : decode cX3_init 0 = .ok (.aload_n 0, 1) := by decide +kernel
theorem dX3_init_1 : decode cX3_init 1 = .ok (.invokespecial 3, 3) := by decide +kernel
theorem dX3_init_4 : decode cX3_init 4 = .ok (.aload_n 0, 1) := by decide +kernel
theorem dX3_init_5 : decode cX3_init 5 = .ok (.bipush 10, 2) := by decide +kernel
theorem dX3_init_7 : decode cX3_init 7 = .ok (.newarray .int, 2) := by decide +kernel
theorem dX3_init_9 : decode cX3_init 9 = .ok (.putfield 9, 3) := by decide +kernel
theorem dX3_init_12 : decode cX3_init 12 = .ok (.aload_n 0, 1) := by decide +kernel
theorem dX3_init_13 : decode cX3_init 13 = .ok (.bipush 10, 2) := by decide +kernel
theorem dX3_init_15 : decode cX3_init 15 = .ok (.newarray .int, 2) := by decide +kernel
theorem dX3_init_17 : decode cX3_init 17 = .ok (.putfield 15, 3) := by decide +kernel
theorem dX3_init_20 : decode cX3_init 20 = .ok (.aload_n 0, 1) := by decide +kernel
theorem dX3_init_21 : decode cX3_init 21 = .ok (.bipush 10, 2) := by decide +kernel
theorem dX3_init_23 : decode cX3_init 23 = .ok (.newarray .int, 2) := by decide +kernel
theorem dX3_init_25 : decode cX3_init 25 = .ok (.putfield 18, 3) := by decide +kernel
theorem dX3_init_28 : decode cX3_init 28 = .ok (.aload_n 0, 1) := by decide +kernel
theorem dX3_init_29 : decode cX3_init 29 = .ok (.bipush 100, 2) := by decide +kernel
theorem dX3_init_31 : decode cX3_init 31 = .ok (.newarray .int, 2) := by decide +kernel
theorem dX3_init_33 : decode cX3_init 33 = .ok (.putfield 21, 3) := by decide +kernel
theorem dX3_init_36 : decode cX3_init 36 = .ok (.aload_n 0, 1) := by decide +kernel
theorem dX3_init_37 : decode cX3_init 37 = .ok (.new 24, 3) := by decide +kernel
theorem dX3_init_40 : decode cX3_init 40 = .ok (.dup, 1) := by decide +kernel
theorem dX3_init_41 : decode cX3_init 41 = .ok (.invokespecial 26, 3) := by decide +kernel
theorem dX3_init_44 : decode cX3_init 44 = .ok (.putfield 27, 3) := by decide +kernel
theorem dX3_init_47 : decode cX3_init 47 = .ok (.aload_n 0, 1) := by decide +kernel
theorem dX3_init_48 : decode cX3_init 48 = .ok (.aconst_null, 1) := by decide +kernel
theorem dX3_init_49 : decode cX3_init 49 = .ok (.putfield 31, 3) := by decide +kernel
theorem dX3_init_52 : decode cX3_init 52 = .ok (.return_, 1) := by decide +kernel
theorem dX3_learn_0 : decode cX3_learn 0 = .ok (.aload_n 0, 1) := by decide +kernel
theorem dX3_learn_1 : decode cX3_learn 1 = .ok (.aload_n 1, 1) := by decide +kernel
theorem dX3_learn_2 : decode cX3_learn 2 = .ok (.putfield 31, 3) := by decide +kernel
theorem dX3_learn_5 : decode cX3_learn 5 = .ok (.iconst 0, 1) := by decide +kernel
theorem dX3_learn_6 : decode cX3_learn 6 = .ok (.istore_n 2, 1) := by decide +kernel
theorem dX3_learn_7 : decode cX3_learn 7 = .ok (.iload_n 2, 1) := by decide +kernel
theorem dX3_learn_8 : decode cX3_learn 8 = .ok (.aload_n 0, 1) := by decide +kernel
theorem dX3_learn_9 : decode cX3_learn 9 = .ok (.getfield 21, 3) := by decide +kernel
theorem dX3_learn_12 : decode cX3_learn 12 = .ok (.arraylength, 1) := by decide +kernel
theorem dX3_learn_13 : decode cX3_learn 13 = .ok (.if_icmp .ge 16, 3) := by decide +kernel
theorem dX3_learn_16 : decode cX3_learn 16 = .ok (.aload_n 0, 1) := by decide +kernel
theorem dX3_learn_17 : decode cX3_learn 17 = .ok (.getfield 21, 3) := by decide +kernel
theorem dX3_learn_20 : decode cX3_learn 20 = .ok (.iload_n 2, 1) := by decide +kernel
theorem dX3_learn_21 : decode cX3_learn 21 = .ok (.iconst 0, 1) := by decide +kernel
theorem dX3_learn_22 : decode cX3_learn 22 = .ok (.iastore, 1) := by decide +kernel
theorem dX3_learn_23 : decode cX3_learn 23 = .ok (.iinc 2 1, 3) := by decide +kernel
theorem dX3_learn_26 : decode cX3_learn 26 = .ok (.goto (-19), 3) := by decide +kernel
theorem dX3_learn_29 : decode cX3_learn 29 = .ok (.return_, 1) := by decide +kernel
theorem dX3_make_0 : decode cX3_make 0 = .ok (.aload_n 0, 1) := by decide +kernel
theorem dX3_make_1 : decode cX3_make 1 = .ok (.iload_n 1, 1) := by decide +kernel
theorem dX3_make_2 : decode cX3_make 2 = .ok (.putfield 35, 3) := by decide +kernel
theorem dX3_make_5 : decode cX3_make 5 = .ok (.aload_n 0, 1) := by decide +kernel
theorem dX3_make_6 : decode cX3_make 6 = .ok (.iload_n 2, 1) := by decide +kernel
theorem dX3_make_7 : decode cX3_make 7 = .ok (.putfield 39, 3) := by decide +kernel
theorem dX3_make_10 : decode cX3_make 10 = .ok (.aload_n 0, 1) := by decide +kernel
theorem dX3_make_11 : decode cX3_make 11 = .ok (.iload_n 3, 1) := by decide +kernel
theorem dX3_make_12 : decode cX3_make 12 = .ok (.putfield 42, 3) := by decide +kernel
theorem dX3_make_15 : decode cX3_make 15 = .ok (.aload_n 0, 1) := by decide +kernel
theorem dX3_make_16 : decode cX3_make 16 = .ok (.iconst 0, 1) := by decide +kernel
theorem dX3_make_17 : decode cX3_make 17 = .ok (.putfield 45, 3) := by decide +kernel
theorem dX3_make_20 : decode cX3_make 20 = .ok (.aload_n 0, 1) := by decide +kernel
theorem dX3_make_21 : decode cX3_make 21 = .ok (.iconst 0, 1) := by decide +kernel
theorem dX3_make_22 : decode cX3_make 22 = .ok (.putfield 48, 3) := by decide +kernel
theorem dX3_make_25 : decode cX3_make 25 = .ok (.aload_n 0, 1) := by decide +kernel
theorem dX3_make_26 : decode cX3_make 26 = .ok (.iconst 0, 1) := by decide +kernel
theorem dX3_make_27 : decode cX3_make 27 = .ok (.putfield 51, 3) := by decide +kernel
theorem dX3_make_30 : decode cX3_make 30 = .ok (.aload_n 0, 1) := by decide +kernel
theorem dX3_make_31 : decode cX3_make 31 = .ok (.iconst 0, 1) := by decide +kernel
theorem dX3_make_32 : decode cX3_make 32 = .ok (.putfield 54, 3) := by decide +kernel
theorem dX3_make_35 : decode cX3_make 35 = .ok (.iconst 0, 1) := by decide +kernel
theorem dX3_make_36 : decode cX3_make 36 = .ok (.istore 4, 2) := by decide +kernel
theorem dX3_make_38 : decode cX3_make 38 = .ok (.iload 4, 2) := by decide +kernel
theorem dX3_make_40 : decode cX3_make 40 = .ok (.bipush 10, 2) := by decide +kernel
theorem dX3_make_42 : decode cX3_make 42 = .ok (.if_icmp .ge 18, 3) := by decide +kernel
theorem dX3_make_45 : decode cX3_make 45 = .ok (.aload_n 0, 1) := by decide +kernel
theorem dX3_make_46 : decode cX3_make 46 = .ok (.getfield 15, 3) := by decide +kernel
theorem dX3_make_49 : decode cX3_make 49 = .ok (.iload 4, 2) := by decide +kernel
theorem dX3_make_51 : decode cX3_make 51 = .ok (.bipush 11, 2) := by decide +kernel
theorem dX3_make_53 : decode cX3_make 53 = .ok (.iastore, 1) := by decide +kernel
theorem dX3_make_54 : decode cX3_make 54 = .ok (.iinc 4 1, 3) := by decide +kernel
theorem dX3_make_57 : decode cX3_make 57 = .ok (.goto (-19), 3) := by decide +kernel
theorem dX3_make_60 : decode cX3_make 60 = .ok (.aload_n 0, 1) := by decide +kernel
theorem dX3_make_61 : decode cX3_make 61 = .ok (.getfield 31, 3) := by decide +kernel
theorem dX3_make_64 : decode cX3_make 64 = .ok (.ifnull 31, 3) := by decide +kernel
theorem dX3_make_67 : decode cX3_make 67 = .ok (.aload_n 0, 1) := by decide +kernel
theorem dX3_make_68 : decode cX3_make 68 = .ok (.invokevirtual 57, 3) := by decide +kernel
theorem dX3_make_71 : decode cX3_make 71 = .ok (.iconst 0, 1) := by decide +kernel
theorem dX3_make_72 : decode cX3_make 72 = .ok (.istore 4, 2) := by decide +kernel
theorem dX3_make_74 : decode cX3_make 74 = .ok (.iload 4, 2) := by decide +kernel
theorem dX3_make_76 : decode cX3_make 76 = .ok (.aload_n 0, 1) := by decide +kernel
theorem dX3_make_77 : decode cX3_make 77 = .ok (.getfield 45, 3) := by decide +kernel
theorem dX3_make_80 : decode cX3_make 80 = .ok (.if_icmp .ge 15, 3) := by decide +kernel
theorem dX3_make_83 : decode cX3_make 83 = .ok (.aload_n 0, 1) := by decide +kernel
theorem dX3_make_84 : decode cX3_make 84 = .ok (.iload 4, 2) := by decide +kernel
theorem dX3_make_86 : decode cX3_make 86 = .ok (.invokevirtual 60, 3) := by decide +kernel
theorem dX3_make_89 : decode cX3_make 89 = .ok (.iinc 4 1, 3) := by decide +kernel
theorem dX3_make_92 : decode cX3_make 92 = .ok (.goto (-18), 3) := by decide +kernel
theorem dX3_make_95 : decode cX3_make 95 = .ok (.return_, 1) := by decide +kernel
theorem dX3_lineUp_0 : decode cX3_lineUp 0 = .ok (.iconst 0, 1) := by decide +kernel
theorem dX3_lineUp_1 : decode cX3_lineUp 1 = .ok (.istore_n 1, 1) := by decide +kernel
theorem dX3_lineUp_2 : decode cX3_lineUp 2 = .ok (.iload_n 1, 1) := by decide +kernel
theorem dX3_lineUp_3 : decode cX3_lineUp 3 = .ok (.aload_n 0, 1) := by decide +kernel
theorem dX3_lineUp_4 : decode cX3_lineUp 4 = .ok (.getfield 31, 3) := by decide +kernel
theorem dX3_lineUp_7 : decode cX3_lineUp 7 = .ok (.getfield 64, 3) := by decide +kernel
theorem dX3_lineUp_10 : decode cX3_lineUp 10 = .ok (.if_icmp .ge 88, 3) := by decide +kernel
theorem dX3_lineUp_13 : decode cX3_lineUp 13 = .ok (.iload_n 1, 1) := by decide +kernel
theorem dX3_lineUp_14 : decode cX3_lineUp 14 = .ok (.bipush 10, 2) := by decide +kernel
theorem dX3_lineUp_16 : decode cX3_lineUp 16 = .ok (.if_icmp .ge 82, 3) := by decide +kernel
theorem dX3_lineUp_19 : decode cX3_lineUp 19 = .ok (.aload_n 0, 1) := by decide +kernel
theorem dX3_lineUp_20 : decode cX3_lineUp 20 = .ok (.getfield 31, 3) := by decide +kernel
theorem dX3_lineUp_23 : decode cX3_lineUp 23 = .ok (.iload_n 1, 1) := by decide +kernel
theorem dX3_lineUp_24 : decode cX3_lineUp 24 = .ok (.invokevirtual 69, 3) := by decide +kernel
theorem dX3_lineUp_27 : decode cX3_lineUp 27 = .ok (.ifCond .eq 65, 3) := by decide +kernel
theorem dX3_lineUp_30 : decode cX3_lineUp 30 = .ok (.aload_n 0, 1) := by decide +kernel
theorem dX3_lineUp_31 : decode cX3_lineUp 31 = .ok (.getfield 45, 3) := by decide +kernel
theorem dX3_lineUp_34 : decode cX3_lineUp 34 = .ok (.istore_n 2, 1) := by decide +kernel
theorem dX3_lineUp_35 : decode cX3_lineUp 35 = .ok (.iload_n 2, 1) := by decide +kernel
theorem dX3_lineUp_36 : decode cX3_lineUp 36 = .ok (.ifCond .le 39, 3) := by decide +kernel
theorem dX3_lineUp_39 : decode cX3_lineUp 39 = .ok (.aload_n 0, 1) := by decide +kernel
theorem dX3_lineUp_40 : decode cX3_lineUp 40 = .ok (.iload_n 1, 1) := by decide +kernel
theorem dX3_lineUp_41 : decode cX3_lineUp 41 = .ok (.aload_n 0, 1) := by decide +kernel
theorem dX3_lineUp_42 : decode cX3_lineUp 42 = .ok (.getfield 9, 3) := by decide +kernel
theorem dX3_lineUp_45 : decode cX3_lineUp 45 = .ok (.iload_n 2, 1) := by decide +kernel
theorem dX3_lineUp_46 : decode cX3_lineUp 46 = .ok (.iconst 1, 1) := by decide +kernel
theorem dX3_lineUp_47 : decode cX3_lineUp 47 = .ok (.isub, 1) := by decide +kernel
theorem dX3_lineUp_48 : decode cX3_lineUp 48 = .ok (.iaload, 1) := by decide +kernel
theorem dX3_lineUp_49 : decode cX3_lineUp 49 = .ok (.invokevirtual 73, 3) := by decide +kernel
theorem dX3_lineUp_52 : decode cX3_lineUp 52 = .ok (.ifCond .eq 23, 3) := by decide +kernel
theorem dX3_lineUp_55 : decode cX3_lineUp 55 = .ok (.aload_n 0, 1) := by decide +kernel
theorem dX3_lineUp_56 : decode cX3_lineUp 56 = .ok (.getfield 9, 3) := by decide +kernel
theorem dX3_lineUp_59 : decode cX3_lineUp 59 = .ok (.iload_n 2, 1) := by decide +kernel
theorem dX3_lineUp_60 : decode cX3_lineUp 60 = .ok (.aload_n 0, 1) := by decide +kernel
theorem dX3_lineUp_61 : decode cX3_lineUp 61 = .ok (.getfield 9, 3) := by decide +kernel
theorem dX3_lineUp_64 : decode cX3_lineUp 64 = .ok (.iload_n 2, 1) := by decide +kernel
theorem dX3_lineUp_65 : decode cX3_lineUp 65 = .ok (.iconst 1, 1) := by decide +kernel
theorem dX3_lineUp_66 : decode cX3_lineUp 66 = .ok (.isub, 1) := by decide +kernel
theorem dX3_lineUp_67 : decode cX3_lineUp 67 = .ok (.iaload, 1) := by decide +kernel
theorem dX3_lineUp_68 : decode cX3_lineUp 68 = .ok (.iastore, 1) := by decide +kernel
theorem dX3_lineUp_69 : decode cX3_lineUp 69 = .ok (.iinc 2 (-1), 3) := by decide +kernel
theorem dX3_lineUp_72 : decode cX3_lineUp 72 = .ok (.goto (-37), 3) := by decide +kernel
theorem dX3_lineUp_75 : decode cX3_lineUp 75 = .ok (.aload_n 0, 1) := by decide +kernel
theorem dX3_lineUp_76 : decode cX3_lineUp 76 = .ok (.getfield 9, 3) := by decide +kernel
theorem dX3_lineUp_79 : decode cX3_lineUp 79 = .ok (.iload_n 2, 1) := by decide +kernel
theorem dX3_lineUp_80 : decode cX3_lineUp 80 = .ok (.iload_n 1, 1) := by decide +kernel
theorem dX3_lineUp_81 : decode cX3_lineUp 81 = .ok (.iastore, 1) := by decide +kernel
theorem dX3_lineUp_82 : decode cX3_lineUp 82 = .ok (.aload_n 0, 1) := by decide +kernel
theorem dX3_lineUp_83 : decode cX3_lineUp 83 = .ok (.dup, 1) := by decide +kernel
theorem dX3_lineUp_84 : decode cX3_lineUp 84 = .ok (.getfield 45, 3) := by decide +kernel
theorem dX3_lineUp_87 : decode cX3_lineUp 87 = .ok (.iconst 1, 1) := by decide +kernel
theorem dX3_lineUp_88 : decode cX3_lineUp 88 = .ok (.iadd, 1) := by decide +kernel
theorem dX3_lineUp_89 : decode cX3_lineUp 89 = .ok (.putfield 45, 3) := by decide +kernel
theorem dX3_lineUp_92 : decode cX3_lineUp 92 = .ok (.iinc 1 1, 3) := by decide +kernel
theorem dX3_lineUp_95 : decode cX3_lineUp 95 = .ok (.goto (-93), 3) := by decide +kernel
theorem dX3_lineUp_98 : decode cX3_lineUp 98 = .ok (.return_, 1) := by decide +kernel
theorem dX3_isAhead_0 : decode cX3_isAhead 0 = .ok (.aload_n 0, 1) := by decide +kernel
theorem dX3_isAhead_1 : decode cX3_isAhead 1 = .ok (.getfield 35, 3) := by decide +kernel
theorem dX3_isAhead_4 : decode cX3_isAhead 4 = .ok (.tableswitch 77 1 5 #[38, 36, 36, 38, 38], 36) := by decide +kernel
theorem dX3_isAhead_40 : decode cX3_isAhead 40 = .ok (.iconst 1, 1) := by decide +kernel
theorem dX3_isAhead_41 : decode cX3_isAhead 41 = .ok (.ireturn, 1) := by decide +kernel
theorem dX3_isAhead_42 : decode cX3_isAhead 42 = .ok (.aload_n 0, 1) := by decide +kernel
theorem dX3_isAhead_43 : decode cX3_isAhead 43 = .ok (.getfield 31, 3) := by decide +kernel
theorem dX3_isAhead_46 : decode cX3_isAhead 46 = .ok (.getfield 77, 3) := by decide +kernel
theorem dX3_isAhead_49 : decode cX3_isAhead 49 = .ok (.iload_n 1, 1) := by decide +kernel
theorem dX3_isAhead_50 : decode cX3_isAhead 50 = .ok (.aaload, 1) := by decide +kernel
theorem dX3_isAhead_51 : decode cX3_isAhead 51 = .ok (.getfield 81, 3) := by decide +kernel
theorem dX3_isAhead_54 : decode cX3_isAhead 54 = .ok (.getfield 87, 3) := by decide +kernel
theorem dX3_isAhead_57 : decode cX3_isAhead 57 = .ok (.aload_n 0, 1) := by decide +kernel
theorem dX3_isAhead_58 : decode cX3_isAhead 58 = .ok (.getfield 31, 3) := by decide +kernel
theorem dX3_isAhead_61 : decode cX3_isAhead 61 = .ok (.getfield 77, 3) := by decide +kernel
theorem dX3_isAhead_64 : decode cX3_isAhead 64 = .ok (.iload_n 2, 1) := by decide +kernel
theorem dX3_isAhead_65 : decode cX3_isAhead 65 = .ok (.aaload, 1) := by decide +kernel
theorem dX3_isAhead_66 : decode cX3_isAhead 66 = .ok (.getfield 81, 3) := by decide +kernel
theorem dX3_isAhead_69 : decode cX3_isAhead 69 = .ok (.getfield 87, 3) := by decide +kernel
theorem dX3_isAhead_72 : decode cX3_isAhead 72 = .ok (.if_icmp .le 7, 3) := by decide +kernel
theorem dX3_isAhead_75 : decode cX3_isAhead 75 = .ok (.iconst 1, 1) := by decide +kernel
theorem dX3_isAhead_76 : decode cX3_isAhead 76 = .ok (.goto 4, 3) := by decide +kernel
theorem dX3_isAhead_79 : decode cX3_isAhead 79 = .ok (.iconst 0, 1) := by decide +kernel
theorem dX3_isAhead_80 : decode cX3_isAhead 80 = .ok (.ireturn, 1) := by decide +kernel
theorem dX3_isAhead_81 : decode cX3_isAhead 81 = .ok (.iconst 0, 1) := by decide +kernel
theorem dX3_isAhead_82 : decode cX3_isAhead 82 = .ok (.ireturn, 1) := by decide +kernel
theorem dX3_choose_0 : decode cX3_choose 0 = .ok (.aload_n 0, 1) := by decide +kernel
theorem dX3_choose_1 : decode cX3_choose 1 = .ok (.getfield 9, 3) := by decide +kernel
theorem dX3_choose_4 : decode cX3_choose 4 = .ok (.iload_n 1, 1) := by decide +kernel
theorem dX3_choose_5 : decode cX3_choose 5 = .ok (.iaload, 1) := by decide +kernel
theorem dX3_choose_6 : decode cX3_choose 6 = .ok (.istore_n 2, 1) := by decide +kernel
theorem dX3_choose_7 : decode cX3_choose 7 = .ok (.iconst (-1), 1) := by decide +kernel
theorem dX3_choose_8 : decode cX3_choose 8 = .ok (.istore_n 3, 1) := by decide +kernel
theorem dX3_choose_9 : decode cX3_choose 9 = .ok (.ldc 94, 2) := by decide +kernel
theorem dX3_choose_11 : decode cX3_choose 11 = .ok (.istore 4, 2) := by decide +kernel
theorem dX3_choose_13 : decode cX3_choose 13 = .ok (.iconst 0, 1) := by decide +kernel
theorem dX3_choose_14 : decode cX3_choose 14 = .ok (.istore 5, 2) := by decide +kernel
theorem dX3_choose_16 : decode cX3_choose 16 = .ok (.iload 5, 2) := by decide +kernel
theorem dX3_choose_18 : decode cX3_choose 18 = .ok (.iload_n 1, 1) := by decide +kernel
theorem dX3_choose_19 : decode cX3_choose 19 = .ok (.if_icmp .ge 131, 3) := by decide +kernel
theorem dX3_choose_22 : decode cX3_choose 22 = .ok (.aload_n 0, 1) := by decide +kernel
theorem dX3_choose_23 : decode cX3_choose 23 = .ok (.getfield 9, 3) := by decide +kernel
theorem dX3_choose_26 : decode cX3_choose 26 = .ok (.iload 5, 2) := by decide +kernel
theorem dX3_choose_28 : decode cX3_choose 28 = .ok (.iaload, 1) := by decide +kernel
theorem dX3_choose_29 : decode cX3_choose 29 = .ok (.istore 6, 2) := by decide +kernel
theorem dX3_choose_31 : decode cX3_choose 31 = .ok (.aload_n 0, 1) := by decide +kernel
theorem dX3_choose_32 : decode cX3_choose 32 = .ok (.getfield 18, 3) := by decide +kernel
theorem dX3_choose_35 : decode cX3_choose 35 = .ok (.iload 6, 2) := by decide +kernel
theorem dX3_choose_37 : decode cX3_choose 37 = .ok (.iaload, 1) := by decide +kernel
theorem dX3_choose_38 : decode cX3_choose 38 = .ok (.aload_n 0, 1) := by decide +kernel
theorem dX3_choose_39 : decode cX3_choose 39 = .ok (.getfield 42, 3) := by decide +kernel
theorem dX3_choose_42 : decode cX3_choose 42 = .ok (.if_icmp .ge 102, 3) := by decide +kernel
theorem dX3_choose_45 : decode cX3_choose 45 = .ok (.aload_n 0, 1) := by decide +kernel
theorem dX3_choose_46 : decode cX3_choose 46 = .ok (.iload 5, 2) := by decide +kernel
theorem dX3_choose_48 : decode cX3_choose 48 = .ok (.iload_n 1, 1) := by decide +kernel
theorem dX3_choose_49 : decode cX3_choose 49 = .ok (.invokevirtual 95, 3) := by decide +kernel
theorem dX3_choose_52 : decode cX3_choose 52 = .ok (.ifCond .eq 92, 3) := by decide +kernel
theorem dX3_choose_55 : decode cX3_choose 55 = .ok (.iload 6, 2) := by decide +kernel
theorem dX3_choose_57 : decode cX3_choose 57 = .ok (.bipush 10, 2) := by decide +kernel
theorem dX3_choose_59 : decode cX3_choose 59 = .ok (.imul, 1) := by decide +kernel
theorem dX3_choose_60 : decode cX3_choose 60 = .ok (.iload_n 2, 1) := by decide +kernel
theorem dX3_choose_61 : decode cX3_choose 61 = .ok (.iadd, 1) := by decide +kernel
theorem dX3_choose_62 : decode cX3_choose 62 = .ok (.istore 7, 2) := by decide +kernel
theorem dX3_choose_64 : decode cX3_choose 64 = .ok (.aload_n 0, 1) := by decide +kernel
theorem dX3_choose_65 : decode cX3_choose 65 = .ok (.getfield 21, 3) := by decide +kernel
theorem dX3_choose_68 : decode cX3_choose 68 = .ok (.iload 7, 2) := by decide +kernel
theorem dX3_choose_70 : decode cX3_choose 70 = .ok (.iaload, 1) := by decide +kernel
theorem dX3_choose_71 : decode cX3_choose 71 = .ok (.ifCond .ne 49, 3) := by decide +kernel
theorem dX3_choose_74 : decode cX3_choose 74 = .ok (.aload_n 0, 1) := by decide +kernel
theorem dX3_choose_75 : decode cX3_choose 75 = .ok (.getfield 27, 3) := by decide +kernel
theorem dX3_choose_78 : decode cX3_choose 78 = .ok (.aload_n 0, 1) := by decide +kernel
theorem dX3_choose_79 : decode cX3_choose 79 = .ok (.getfield 31, 3) := by decide +kernel
theorem dX3_choose_82 : decode cX3_choose 82 = .ok (.getfield 77, 3) := by decide +kernel
theorem dX3_choose_85 : decode cX3_choose 85 = .ok (.iload 6, 2) := by decide +kernel
theorem dX3_choose_87 : decode cX3_choose 87 = .ok (.aaload, 1) := by decide +kernel
theorem dX3_choose_88 : decode cX3_choose 88 = .ok (.getfield 81, 3) := by decide +kernel
theorem dX3_choose_91 : decode cX3_choose 91 = .ok (.aload_n 0, 1) := by decide +kernel
theorem dX3_choose_92 : decode cX3_choose 92 = .ok (.getfield 31, 3) := by decide +kernel
theorem dX3_choose_95 : decode cX3_choose 95 = .ok (.getfield 77, 3) := by decide +kernel
theorem dX3_choose_98 : decode cX3_choose 98 = .ok (.iload_n 2, 1) := by decide +kernel
theorem dX3_choose_99 : decode cX3_choose 99 = .ok (.aaload, 1) := by decide +kernel
theorem dX3_choose_100 : decode cX3_choose 100 = .ok (.getfield 81, 3) := by decide +kernel
theorem dX3_choose_103 : decode cX3_choose 103 = .ok (.invokevirtual 98, 3) := by decide +kernel
theorem dX3_choose_106 : decode cX3_choose 106 = .ok (.aload_n 0, 1) := by decide +kernel
theorem dX3_choose_107 : decode cX3_choose 107 = .ok (.getfield 21, 3) := by decide +kernel
theorem dX3_choose_110 : decode cX3_choose 110 = .ok (.iload 7, 2) := by decide +kernel
theorem dX3_choose_112 : decode cX3_choose 112 = .ok (.aload_n 0, 1) := by decide +kernel
theorem dX3_choose_113 : decode cX3_choose 113 = .ok (.getfield 27, 3) := by decide +kernel
theorem dX3_choose_116 : decode cX3_choose 116 = .ok (.invokevirtual 102, 3) := by decide +kernel
theorem dX3_choose_119 : decode cX3_choose 119 = .ok (.iastore, 1) := by decide +kernel
theorem dX3_choose_120 : decode cX3_choose 120 = .ok (.aload_n 0, 1) := by decide +kernel
theorem dX3_choose_121 : decode cX3_choose 121 = .ok (.getfield 21, 3) := by decide +kernel
theorem dX3_choose_124 : decode cX3_choose 124 = .ok (.iload 7, 2) := by decide +kernel
theorem dX3_choose_126 : decode cX3_choose 126 = .ok (.iaload, 1) := by decide +kernel
theorem dX3_choose_127 : decode cX3_choose 127 = .ok (.iload 4, 2) := by decide +kernel
theorem dX3_choose_129 : decode cX3_choose 129 = .ok (.if_icmp .ge 15, 3) := by decide +kernel
theorem dX3_choose_132 : decode cX3_choose 132 = .ok (.aload_n 0, 1) := by decide +kernel
theorem dX3_choose_133 : decode cX3_choose 133 = .ok (.getfield 21, 3) := by decide +kernel
theorem dX3_choose_136 : decode cX3_choose 136 = .ok (.iload 7, 2) := by decide +kernel
theorem dX3_choose_138 : decode cX3_choose 138 = .ok (.iaload, 1) := by decide +kernel
theorem dX3_choose_139 : decode cX3_choose 139 = .ok (.istore 4, 2) := by decide +kernel
theorem dX3_choose_141 : decode cX3_choose 141 = .ok (.iload 6, 2) := by decide +kernel
theorem dX3_choose_143 : decode cX3_choose 143 = .ok (.istore_n 3, 1) := by decide +kernel
theorem dX3_choose_144 : decode cX3_choose 144 = .ok (.iinc 5 1, 3) := by decide +kernel
theorem dX3_choose_147 : decode cX3_choose 147 = .ok (.goto (-131), 3) := by decide +kernel
theorem dX3_choose_150 : decode cX3_choose 150 = .ok (.aload_n 0, 1) := by decide +kernel
theorem dX3_choose_151 : decode cX3_choose 151 = .ok (.getfield 31, 3) := by decide +kernel
theorem dX3_choose_154 : decode cX3_choose 154 = .ok (.getfield 77, 3) := by decide +kernel
theorem dX3_choose_157 : decode cX3_choose 157 = .ok (.iload_n 2, 1) := by decide +kernel
theorem dX3_choose_158 : decode cX3_choose 158 = .ok (.aaload, 1) := by decide +kernel
theorem dX3_choose_159 : decode cX3_choose 159 = .ok (.invokevirtual 105, 3) := by decide +kernel
theorem dX3_choose_162 : decode cX3_choose 162 = .ok (.istore 5, 2) := by decide +kernel
theorem dX3_choose_164 : decode cX3_choose 164 = .ok (.iload_n 3, 1) := by decide +kernel
theorem dX3_choose_165 : decode cX3_choose 165 = .ok (.iconst (-1), 1) := by decide +kernel
theorem dX3_choose_166 : decode cX3_choose 166 = .ok (.if_icmp .eq 34, 3) := by decide +kernel
theorem dX3_choose_169 : decode cX3_choose 169 = .ok (.iload 4, 2) := by decide +kernel
theorem dX3_choose_171 : decode cX3_choose 171 = .ok (.iload 5, 2) := by decide +kernel
theorem dX3_choose_173 : decode cX3_choose 173 = .ok (.aload_n 0, 1) := by decide +kernel
theorem dX3_choose_174 : decode cX3_choose 174 = .ok (.invokevirtual 108, 3) := by decide +kernel
theorem dX3_choose_177 : decode cX3_choose 177 = .ok (.isub, 1) := by decide +kernel
theorem dX3_choose_178 : decode cX3_choose 178 = .ok (.if_icmp .gt 22, 3) := by decide +kernel
theorem dX3_choose_181 : decode cX3_choose 181 = .ok (.aload_n 0, 1) := by decide +kernel
theorem dX3_choose_182 : decode cX3_choose 182 = .ok (.iload_n 2, 1) := by decide +kernel
theorem dX3_choose_183 : decode cX3_choose 183 = .ok (.iload_n 3, 1) := by decide +kernel
theorem dX3_choose_184 : decode cX3_choose 184 = .ok (.aload_n 0, 1) := by decide +kernel
theorem dX3_choose_185 : decode cX3_choose 185 = .ok (.getfield 18, 3) := by decide +kernel
theorem dX3_choose_188 : decode cX3_choose 188 = .ok (.iload_n 3, 1) := by decide +kernel
theorem dX3_choose_189 : decode cX3_choose 189 = .ok (.iaload, 1) := by decide +kernel
theorem dX3_choose_190 : decode cX3_choose 190 = .ok (.iconst 1, 1) := by decide +kernel
theorem dX3_choose_191 : decode cX3_choose 191 = .ok (.iadd, 1) := by decide +kernel
theorem dX3_choose_192 : decode cX3_choose 192 = .ok (.iload 4, 2) := by decide +kernel
theorem dX3_choose_194 : decode cX3_choose 194 = .ok (.invokevirtual 111, 3) := by decide +kernel
theorem dX3_choose_197 : decode cX3_choose 197 = .ok (.goto 23, 3) := by decide +kernel
theorem dX3_choose_200 : decode cX3_choose 200 = .ok (.aload_n 0, 1) := by decide +kernel
theorem dX3_choose_201 : decode cX3_choose 201 = .ok (.iload_n 2, 1) := by decide +kernel
theorem dX3_choose_202 : decode cX3_choose 202 = .ok (.bipush 10, 2) := by decide +kernel
theorem dX3_choose_204 : decode cX3_choose 204 = .ok (.iconst 0, 1) := by decide +kernel
theorem dX3_choose_205 : decode cX3_choose 205 = .ok (.iload 5, 2) := by decide +kernel
theorem dX3_choose_207 : decode cX3_choose 207 = .ok (.invokevirtual 111, 3) := by decide +kernel
theorem dX3_choose_210 : decode cX3_choose 210 = .ok (.aload_n 0, 1) := by decide +kernel
theorem dX3_choose_211 : decode cX3_choose 211 = .ok (.dup, 1) := by decide +kernel
theorem dX3_choose_212 : decode cX3_choose 212 = .ok (.getfield 54, 3) := by decide +kernel
theorem dX3_choose_215 : decode cX3_choose 215 = .ok (.iconst 1, 1) := by decide +kernel
theorem dX3_choose_216 : decode cX3_choose 216 = .ok (.iadd, 1) := by decide +kernel
theorem dX3_choose_217 : decode cX3_choose 217 = .ok (.putfield 54, 3) := by decide +kernel
theorem dX3_choose_220 : decode cX3_choose 220 = .ok (.return_, 1) := by decide +kernel
theorem dX3_mayBeBase_0 : decode cX3_mayBeBase 0 = .ok (.aload_n 0, 1) := by decide +kernel
theorem dX3_mayBeBase_1 : decode cX3_mayBeBase 1 = .ok (.getfield 35, 3) := by decide +kernel
theorem dX3_mayBeBase_4 : decode cX3_mayBeBase 4 = .ok (.iconst 5, 1) := by decide +kernel
theorem dX3_mayBeBase_5 : decode cX3_mayBeBase 5 = .ok (.if_icmp .ne 19, 3) := by decide +kernel
theorem dX3_mayBeBase_8 : decode cX3_mayBeBase 8 = .ok (.iload_n 2, 1) := by decide +kernel
theorem dX3_mayBeBase_9 : decode cX3_mayBeBase 9 = .ok (.iload_n 1, 1) := by decide +kernel
theorem dX3_mayBeBase_10 : decode cX3_mayBeBase 10 = .ok (.isub, 1) := by decide +kernel
theorem dX3_mayBeBase_11 : decode cX3_mayBeBase 11 = .ok (.aload_n 0, 1) := by decide +kernel
theorem dX3_mayBeBase_12 : decode cX3_mayBeBase 12 = .ok (.getfield 39, 3) := by decide +kernel
theorem dX3_mayBeBase_15 : decode cX3_mayBeBase 15 = .ok (.if_icmp .gt 7, 3) := by decide +kernel
theorem dX3_mayBeBase_18 : decode cX3_mayBeBase 18 = .ok (.iconst 1, 1) := by decide +kernel
theorem dX3_mayBeBase_19 : decode cX3_mayBeBase 19 = .ok (.goto 4, 3) := by decide +kernel
theorem dX3_mayBeBase_22 : decode cX3_mayBeBase 22 = .ok (.iconst 0, 1) := by decide +kernel
theorem dX3_mayBeBase_23 : decode cX3_mayBeBase 23 = .ok (.ireturn, 1) := by decide +kernel
theorem dX3_mayBeBase_24 : decode cX3_mayBeBase 24 = .ok (.aload_n 0, 1) := by decide +kernel
theorem dX3_mayBeBase_25 : decode cX3_mayBeBase 25 = .ok (.getfield 35, 3) := by decide +kernel
theorem dX3_mayBeBase_28 : decode cX3_mayBeBase 28 = .ok (.iconst 3, 1) := by decide +kernel
theorem dX3_mayBeBase_29 : decode cX3_mayBeBase 29 = .ok (.if_icmp .eq 5, 3) := by decide +kernel
theorem dX3_mayBeBase_32 : decode cX3_mayBeBase 32 = .ok (.iconst 1, 1) := by decide +kernel
theorem dX3_mayBeBase_33 : decode cX3_mayBeBase 33 = .ok (.ireturn, 1) := by decide +kernel
theorem dX3_mayBeBase_34 : decode cX3_mayBeBase 34 = .ok (.aload_n 0, 1) := by decide +kernel
theorem dX3_mayBeBase_35 : decode cX3_mayBeBase 35 = .ok (.getfield 9, 3) := by decide +kernel
theorem dX3_mayBeBase_38 : decode cX3_mayBeBase 38 = .ok (.iload_n 2, 1) := by decide +kernel
theorem dX3_mayBeBase_39 : decode cX3_mayBeBase 39 = .ok (.iaload, 1) := by decide +kernel
theorem dX3_mayBeBase_40 : decode cX3_mayBeBase 40 = .ok (.istore_n 3, 1) := by decide +kernel
theorem dX3_mayBeBase_41 : decode cX3_mayBeBase 41 = .ok (.aload_n 0, 1) := by decide +kernel
theorem dX3_mayBeBase_42 : decode cX3_mayBeBase 42 = .ok (.getfield 9, 3) := by decide +kernel
theorem dX3_mayBeBase_45 : decode cX3_mayBeBase 45 = .ok (.iload_n 1, 1) := by decide +kernel
theorem dX3_mayBeBase_46 : decode cX3_mayBeBase 46 = .ok (.iaload, 1) := by decide +kernel
theorem dX3_mayBeBase_47 : decode cX3_mayBeBase 47 = .ok (.istore 4, 2) := by decide +kernel
theorem dX3_mayBeBase_49 : decode cX3_mayBeBase 49 = .ok (.aload_n 0, 1) := by decide +kernel
theorem dX3_mayBeBase_50 : decode cX3_mayBeBase 50 = .ok (.getfield 31, 3) := by decide +kernel
theorem dX3_mayBeBase_53 : decode cX3_mayBeBase 53 = .ok (.getfield 77, 3) := by decide +kernel
theorem dX3_mayBeBase_56 : decode cX3_mayBeBase 56 = .ok (.iload_n 3, 1) := by decide +kernel
theorem dX3_mayBeBase_57 : decode cX3_mayBeBase 57 = .ok (.aaload, 1) := by decide +kernel
theorem dX3_mayBeBase_58 : decode cX3_mayBeBase 58 = .ok (.iload 4, 2) := by decide +kernel
theorem dX3_mayBeBase_60 : decode cX3_mayBeBase 60 = .ok (.invokevirtual 115, 3) := by decide +kernel
theorem dX3_mayBeBase_63 : decode cX3_mayBeBase 63 = .ok (.ifCond .ne 20, 3) := by decide +kernel
theorem dX3_mayBeBase_66 : decode cX3_mayBeBase 66 = .ok (.aload_n 0, 1) := by decide +kernel
theorem dX3_mayBeBase_67 : decode cX3_mayBeBase 67 = .ok (.getfield 31, 3) := by decide +kernel
theorem dX3_mayBeBase_70 : decode cX3_mayBeBase 70 = .ok (.getfield 77, 3) := by decide +kernel
theorem dX3_mayBeBase_73 : decode cX3_mayBeBase 73 = .ok (.iload 4, 2) := by decide +kernel
theorem dX3_mayBeBase_75 : decode cX3_mayBeBase 75 = .ok (.aaload, 1) := by decide +kernel
theorem dX3_mayBeBase_76 : decode cX3_mayBeBase 76 = .ok (.iload_n 3, 1) := by decide +kernel
theorem dX3_mayBeBase_77 : decode cX3_mayBeBase 77 = .ok (.invokevirtual 115, 3) := by decide +kernel
theorem dX3_mayBeBase_80 : decode cX3_mayBeBase 80 = .ok (.ifCond .eq 7, 3) := by decide +kernel
theorem dX3_mayBeBase_83 : decode cX3_mayBeBase 83 = .ok (.iconst 1, 1) := by decide +kernel
theorem dX3_mayBeBase_84 : decode cX3_mayBeBase 84 = .ok (.goto 4, 3) := by decide +kernel
theorem dX3_mayBeBase_87 : decode cX3_mayBeBase 87 = .ok (.iconst 0, 1) := by decide +kernel
theorem dX3_mayBeBase_88 : decode cX3_mayBeBase 88 = .ok (.ireturn, 1) := by decide +kernel
theorem dX3_savings_0 : decode cX3_savings 0 = .ok (.aload_n 0, 1) := by decide +kernel
theorem dX3_savings_1 : decode cX3_savings 1 = .ok (.getfield 35, 3) := by decide +kernel
theorem dX3_savings_4 : decode cX3_savings 4 = .ok (.iconst 4, 1) := by decide +kernel
theorem dX3_savings_5 : decode cX3_savings 5 = .ok (.if_icmp .ne 12, 3) := by decide +kernel
theorem dX3_savings_8 : decode cX3_savings 8 = .ok (.aload_n 0, 1) := by decide +kernel
theorem dX3_savings_9 : decode cX3_savings 9 = .ok (.getfield 39, 3) := by decide +kernel
theorem dX3_savings_12 : decode cX3_savings 12 = .ok (.iconst 1, 1) := by decide +kernel
theorem dX3_savings_13 : decode cX3_savings 13 = .ok (.iadd, 1) := by decide +kernel
theorem dX3_savings_14 : decode cX3_savings 14 = .ok (.goto 4, 3) := by decide +kernel
theorem dX3_savings_17 : decode cX3_savings 17 = .ok (.iconst 1, 1) := by decide +kernel
theorem dX3_savings_18 : decode cX3_savings 18 = .ok (.ireturn, 1) := by decide +kernel
theorem dX3_settle_0 : decode cX3_settle 0 = .ok (.aload_n 0, 1) := by decide +kernel
theorem dX3_settle_1 : decode cX3_settle 1 = .ok (.getfield 15, 3) := by decide +kernel
theorem dX3_settle_4 : decode cX3_settle 4 = .ok (.iload_n 1, 1) := by decide +kernel
theorem dX3_settle_5 : decode cX3_settle 5 = .ok (.iload_n 2, 1) := by decide +kernel
theorem dX3_settle_6 : decode cX3_settle 6 = .ok (.iastore, 1) := by decide +kernel
theorem dX3_settle_7 : decode cX3_settle 7 = .ok (.aload_n 0, 1) := by decide +kernel
theorem dX3_settle_8 : decode cX3_settle 8 = .ok (.getfield 18, 3) := by decide +kernel
theorem dX3_settle_11 : decode cX3_settle 11 = .ok (.iload_n 1, 1) := by decide +kernel
theorem dX3_settle_12 : decode cX3_settle 12 = .ok (.iload_n 3, 1) := by decide +kernel
theorem dX3_settle_13 : decode cX3_settle 13 = .ok (.iastore, 1) := by decide +kernel
theorem dX3_settle_14 : decode cX3_settle 14 = .ok (.aload_n 0, 1) := by decide +kernel
theorem dX3_settle_15 : decode cX3_settle 15 = .ok (.dup, 1) := by decide +kernel
theorem dX3_settle_16 : decode cX3_settle 16 = .ok (.getfield 48, 3) := by decide +kernel
theorem dX3_settle_19 : decode cX3_settle 19 = .ok (.iload 4, 2) := by decide +kernel
theorem dX3_settle_21 : decode cX3_settle 21 = .ok (.iadd, 1) := by decide +kernel
theorem dX3_settle_22 : decode cX3_settle 22 = .ok (.putfield 48, 3) := by decide +kernel
theorem dX3_settle_25 : decode cX3_settle 25 = .ok (.aload_n 0, 1) := by decide +kernel
theorem dX3_settle_26 : decode cX3_settle 26 = .ok (.aload_n 0, 1) := by decide +kernel
theorem dX3_settle_27 : decode cX3_settle 27 = .ok (.getfield 51, 3) := by decide +kernel
theorem dX3_settle_30 : decode cX3_settle 30 = .ok (.iload_n 3, 1) := by decide +kernel
theorem dX3_settle_31 : decode cX3_settle 31 = .ok (.invokestatic 118, 3) := by decide +kernel
theorem dX3_settle_34 : decode cX3_settle 34 = .ok (.putfield 51, 3) := by decide +kernel
theorem dX3_settle_37 : decode cX3_settle 37 = .ok (.return_, 1) := by decide +kernel
theorem dX3_baseOf_0 : decode cX3_baseOf 0 = .ok (.iload_n 1, 1) := by decide +kernel
theorem dX3_baseOf_1 : decode cX3_baseOf 1 = .ok (.ifCond .lt 29, 3) := by decide +kernel
theorem dX3_baseOf_4 : decode cX3_baseOf 4 = .ok (.iload_n 1, 1) := by decide +kernel
theorem dX3_baseOf_5 : decode cX3_baseOf 5 = .ok (.bipush 10, 2) := by decide +kernel
theorem dX3_baseOf_7 : decode cX3_baseOf 7 = .ok (.if_icmp .ge 23, 3) := by decide +kernel
theorem dX3_baseOf_10 : decode cX3_baseOf 10 = .ok (.aload_n 0, 1) := by decide +kernel
theorem dX3_baseOf_11 : decode cX3_baseOf 11 = .ok (.getfield 15, 3) := by decide +kernel
theorem dX3_baseOf_14 : decode cX3_baseOf 14 = .ok (.iload_n 1, 1) := by decide +kernel
theorem dX3_baseOf_15 : decode cX3_baseOf 15 = .ok (.iaload, 1) := by decide +kernel
theorem dX3_baseOf_16 : decode cX3_baseOf 16 = .ok (.bipush 10, 2) := by decide +kernel
theorem dX3_baseOf_18 : decode cX3_baseOf 18 = .ok (.if_icmp .ge 12, 3) := by decide +kernel
theorem dX3_baseOf_21 : decode cX3_baseOf 21 = .ok (.aload_n 0, 1) := by decide +kernel
theorem dX3_baseOf_22 : decode cX3_baseOf 22 = .ok (.getfield 15, 3) := by decide +kernel
theorem dX3_baseOf_25 : decode cX3_baseOf 25 = .ok (.iload_n 1, 1) := by decide +kernel
theorem dX3_baseOf_26 : decode cX3_baseOf 26 = .ok (.iaload, 1) := by decide +kernel
theorem dX3_baseOf_27 : decode cX3_baseOf 27 = .ok (.goto 4, 3) := by decide +kernel
theorem dX3_baseOf_30 : decode cX3_baseOf 30 = .ok (.iconst (-1), 1) := by decide +kernel
theorem dX3_baseOf_31 : decode cX3_baseOf 31 = .ok (.ireturn, 1) := by decide +kernel
theorem dX3_isTold_0 : decode cX3_isTold 0 = .ok (.iconst 0, 1) := by decide +kernel
theorem dX3_isTold_1 : decode cX3_isTold 1 = .ok (.istore_n 2, 1) := by decide +kernel
theorem dX3_isTold_2 : decode cX3_isTold 2 = .ok (.iload_n 2, 1) := by decide +kernel
theorem dX3_isTold_3 : decode cX3_isTold 3 = .ok (.aload_n 1, 1) := by decide +kernel
theorem dX3_isTold_4 : decode cX3_isTold 4 = .ok (.getfield 87, 3) := by decide +kernel
theorem dX3_isTold_7 : decode cX3_isTold 7 = .ok (.if_icmp .ge 38, 3) := by decide +kernel
theorem dX3_isTold_10 : decode cX3_isTold 10 = .ok (.iload_n 2, 1) := by decide +kernel
theorem dX3_isTold_11 : decode cX3_isTold 11 = .ok (.bipush 10, 2) := by decide +kernel
theorem dX3_isTold_13 : decode cX3_isTold 13 = .ok (.if_icmp .ge 12, 3) := by decide +kernel
theorem dX3_isTold_16 : decode cX3_isTold 16 = .ok (.aload_n 0, 1) := by decide +kernel
theorem dX3_isTold_17 : decode cX3_isTold 17 = .ok (.getfield 15, 3) := by decide +kernel
theorem dX3_isTold_20 : decode cX3_isTold 20 = .ok (.iload_n 2, 1) := by decide +kernel
theorem dX3_isTold_21 : decode cX3_isTold 21 = .ok (.iaload, 1) := by decide +kernel
theorem dX3_isTold_22 : decode cX3_isTold 22 = .ok (.goto 5, 3) := by decide +kernel
theorem dX3_isTold_25 : decode cX3_isTold 25 = .ok (.bipush 11, 2) := by decide +kernel
theorem dX3_isTold_27 : decode cX3_isTold 27 = .ok (.istore_n 3, 1) := by decide +kernel
theorem dX3_isTold_28 : decode cX3_isTold 28 = .ok (.aload_n 1, 1) := by decide +kernel
theorem dX3_isTold_29 : decode cX3_isTold 29 = .ok (.iload_n 2, 1) := by decide +kernel
theorem dX3_isTold_30 : decode cX3_isTold 30 = .ok (.invokevirtual 124, 3) := by decide +kernel
theorem dX3_isTold_33 : decode cX3_isTold 33 = .ok (.iload_n 3, 1) := by decide +kernel
theorem dX3_isTold_34 : decode cX3_isTold 34 = .ok (.if_icmp .eq 5, 3) := by decide +kernel
theorem dX3_isTold_37 : decode cX3_isTold 37 = .ok (.iconst 0, 1) := by decide +kernel
theorem dX3_isTold_38 : decode cX3_isTold 38 = .ok (.ireturn, 1) := by decide +kernel
theorem dX3_isTold_39 : decode cX3_isTold 39 = .ok (.iinc 2 1, 3) := by decide +kernel
theorem dX3_isTold_42 : decode cX3_isTold 42 = .ok (.goto (-40), 3) := by decide +kernel
theorem dX3_isTold_45 : decode cX3_isTold 45 = .ok (.iconst 1, 1) := by decide +kernel
theorem dX3_isTold_46 : decode cX3_isTold 46 = .ok (.ireturn, 1) := by decide +kernel
theorem dX4_init_0 : decode cX4_init 0 = .ok (.aload_n 0, 1) := by decide +kernel
theorem dX4_init_1 : decode cX4_init 1 = .ok (.invokespecial 3, 3) := by decide +kernel
theorem dX4_init_4 : decode cX4_init 4 = .ok (.aload_n 0, 1) := by decide +kernel
theorem dX4_init_5 : decode cX4_init 5 = .ok (.bipush 10, 2) := by decide +kernel
theorem dX4_init_7 : decode cX4_init 7 = .ok (.anewarray 9, 3) := by decide +kernel
theorem dX4_init_10 : decode cX4_init 10 = .ok (.putfield 11, 3) := by decide +kernel
theorem dX4_init_13 : decode cX4_init 13 = .ok (.iconst 0, 1) := by decide +kernel
theorem dX4_init_14 : decode cX4_init 14 = .ok (.istore_n 1, 1) := by decide +kernel
theorem dX4_init_15 : decode cX4_init 15 = .ok (.iload_n 1, 1) := by decide +kernel
theorem dX4_init_16 : decode cX4_init 16 = .ok (.bipush 10, 2) := by decide +kernel
theorem dX4_init_18 : decode cX4_init 18 = .ok (.if_icmp .ge 22, 3) := by decide +kernel
theorem dX4_init_21 : decode cX4_init 21 = .ok (.aload_n 0, 1) := by decide +kernel
theorem dX4_init_22 : decode cX4_init 22 = .ok (.getfield 11, 3) := by decide +kernel
theorem dX4_init_25 : decode cX4_init 25 = .ok (.iload_n 1, 1) := by decide +kernel
theorem dX4_init_26 : decode cX4_init 26 = .ok (.new 9, 3) := by decide +kernel
theorem dX4_init_29 : decode cX4_init 29 = .ok (.dup, 1) := by decide +kernel
theorem dX4_init_30 : decode cX4_init 30 = .ok (.invokespecial 17, 3) := by decide +kernel
theorem dX4_init_33 : decode cX4_init 33 = .ok (.aastore, 1) := by decide +kernel
theorem dX4_init_34 : decode cX4_init 34 = .ok (.iinc 1 1, 3) := by decide +kernel
theorem dX4_init_37 : decode cX4_init 37 = .ok (.goto (-22), 3) := by decide +kernel
theorem dX4_init_40 : decode cX4_init 40 = .ok (.aload_n 0, 1) := by decide +kernel
theorem dX4_init_41 : decode cX4_init 41 = .ok (.iconst 4, 1) := by decide +kernel
theorem dX4_init_42 : decode cX4_init 42 = .ok (.newarray .int, 2) := by decide +kernel
theorem dX4_init_44 : decode cX4_init 44 = .ok (.putfield 18, 3) := by decide +kernel
theorem dX4_init_47 : decode cX4_init 47 = .ok (.iconst 0, 1) := by decide +kernel
theorem dX4_init_48 : decode cX4_init 48 = .ok (.istore_n 1, 1) := by decide +kernel
theorem dX4_init_49 : decode cX4_init 49 = .ok (.iload_n 1, 1) := by decide +kernel
theorem dX4_init_50 : decode cX4_init 50 = .ok (.iconst 4, 1) := by decide +kernel
theorem dX4_init_51 : decode cX4_init 51 = .ok (.if_icmp .ge 16, 3) := by decide +kernel
theorem dX4_init_54 : decode cX4_init 54 = .ok (.aload_n 0, 1) := by decide +kernel
theorem dX4_init_55 : decode cX4_init 55 = .ok (.getfield 18, 3) := by decide +kernel
theorem dX4_init_58 : decode cX4_init 58 = .ok (.iload_n 1, 1) := by decide +kernel
theorem dX4_init_59 : decode cX4_init 59 = .ok (.iconst (-1), 1) := by decide +kernel
theorem dX4_init_60 : decode cX4_init 60 = .ok (.iastore, 1) := by decide +kernel
theorem dX4_init_61 : decode cX4_init 61 = .ok (.iinc 1 1, 3) := by decide +kernel
theorem dX4_init_64 : decode cX4_init 64 = .ok (.goto (-15), 3) := by decide +kernel
theorem dX4_init_67 : decode cX4_init 67 = .ok (.aload_n 0, 1) := by decide +kernel
theorem dX4_init_68 : decode cX4_init 68 = .ok (.new 22, 3) := by decide +kernel
theorem dX4_init_71 : decode cX4_init 71 = .ok (.dup, 1) := by decide +kernel
theorem dX4_init_72 : decode cX4_init 72 = .ok (.bipush 12, 2) := by decide +kernel
theorem dX4_init_74 : decode cX4_init 74 = .ok (.invokespecial 24, 3) := by decide +kernel
theorem dX4_init_77 : decode cX4_init 77 = .ok (.putfield 27, 3) := by decide +kernel
theorem dX4_init_80 : decode cX4_init 80 = .ok (.aload_n 0, 1) := by decide +kernel
theorem dX4_init_81 : decode cX4_init 81 = .ok (.iconst 0, 1) := by decide +kernel
theorem dX4_init_82 : decode cX4_init 82 = .ok (.putfield 31, 3) := by decide +kernel
theorem dX4_init_85 : decode cX4_init 85 = .ok (.aload_n 0, 1) := by decide +kernel
theorem dX4_init_86 : decode cX4_init 86 = .ok (.iconst 0, 1) := by decide +kernel
theorem dX4_init_87 : decode cX4_init 87 = .ok (.putfield 35, 3) := by decide +kernel
theorem dX4_init_90 : decode cX4_init 90 = .ok (.aload_n 0, 1) := by decide +kernel
theorem dX4_init_91 : decode cX4_init 91 = .ok (.iconst 0, 1) := by decide +kernel
theorem dX4_init_92 : decode cX4_init 92 = .ok (.putfield 38, 3) := by decide +kernel
theorem dX4_init_95 : decode cX4_init 95 = .ok (.aload_n 0, 1) := by decide +kernel
theorem dX4_init_96 : decode cX4_init 96 = .ok (.iconst 0, 1) := by decide +kernel
theorem dX4_init_97 : decode cX4_init 97 = .ok (.putfield 41, 3) := by decide +kernel
theorem dX4_init_100 : decode cX4_init 100 = .ok (.aload_n 0, 1) := by decide +kernel
theorem dX4_init_101 : decode cX4_init 101 = .ok (.iconst 4, 1) := by decide +kernel
theorem dX4_init_102 : decode cX4_init 102 = .ok (.putfield 44, 3) := by decide +kernel
theorem dX4_init_105 : decode cX4_init 105 = .ok (.return_, 1) := by decide +kernel
theorem dX4_copyFrom_0 : decode cX4_copyFrom 0 = .ok (.iconst 0, 1) := by decide +kernel
theorem dX4_copyFrom_1 : decode cX4_copyFrom 1 = .ok (.istore_n 2, 1) := by decide +kernel
theorem dX4_copyFrom_2 : decode cX4_copyFrom 2 = .ok (.iload_n 2, 1) := by decide +kernel
theorem dX4_copyFrom_3 : decode cX4_copyFrom 3 = .ok (.aload_n 1, 1) := by decide +kernel
theorem dX4_copyFrom_4 : decode cX4_copyFrom 4 = .ok (.getfield 31, 3) := by decide +kernel
theorem dX4_copyFrom_7 : decode cX4_copyFrom 7 = .ok (.if_icmp .ge 30, 3) := by decide +kernel
theorem dX4_copyFrom_10 : decode cX4_copyFrom 10 = .ok (.iload_n 2, 1) := by decide +kernel
theorem dX4_copyFrom_11 : decode cX4_copyFrom 11 = .ok (.bipush 10, 2) := by decide +kernel
theorem dX4_copyFrom_13 : decode cX4_copyFrom 13 = .ok (.if_icmp .ge 24, 3) := by decide +kernel
theorem dX4_copyFrom_16 : decode cX4_copyFrom 16 = .ok (.aload_n 0, 1) := by decide +kernel
theorem dX4_copyFrom_17 : decode cX4_copyFrom 17 = .ok (.getfield 11, 3) := by decide +kernel
theorem dX4_copyFrom_20 : decode cX4_copyFrom 20 = .ok (.iload_n 2, 1) := by decide +kernel
theorem dX4_copyFrom_21 : decode cX4_copyFrom 21 = .ok (.aaload, 1) := by decide +kernel
theorem dX4_copyFrom_22 : decode cX4_copyFrom 22 = .ok (.aload_n 1, 1) := by decide +kernel
theorem dX4_copyFrom_23 : decode cX4_copyFrom 23 = .ok (.getfield 11, 3) := by decide +kernel
theorem dX4_copyFrom_26 : decode cX4_copyFrom 26 = .ok (.iload_n 2, 1) := by decide +kernel
theorem dX4_copyFrom_27 : decode cX4_copyFrom 27 = .ok (.aaload, 1) := by decide +kernel
theorem dX4_copyFrom_28 : decode cX4_copyFrom 28 = .ok (.invokevirtual 47, 3) := by decide +kernel
theorem dX4_copyFrom_31 : decode cX4_copyFrom 31 = .ok (.iinc 2 1, 3) := by decide +kernel
theorem dX4_copyFrom_34 : decode cX4_copyFrom 34 = .ok (.goto (-32), 3) := by decide +kernel
theorem dX4_copyFrom_37 : decode cX4_copyFrom 37 = .ok (.aload_n 1, 1) := by decide +kernel
theorem dX4_copyFrom_38 : decode cX4_copyFrom 38 = .ok (.getfield 18, 3) := by decide +kernel
theorem dX4_copyFrom_41 : decode cX4_copyFrom 41 = .ok (.iconst 0, 1) := by decide +kernel
theorem dX4_copyFrom_42 : decode cX4_copyFrom 42 = .ok (.aload_n 0, 1) := by decide +kernel
theorem dX4_copyFrom_43 : decode cX4_copyFrom 43 = .ok (.getfield 18, 3) := by decide +kernel
theorem dX4_copyFrom_46 : decode cX4_copyFrom 46 = .ok (.iconst 0, 1) := by decide +kernel
theorem dX4_copyFrom_47 : decode cX4_copyFrom 47 = .ok (.iconst 4, 1) := by decide +kernel
theorem dX4_copyFrom_48 : decode cX4_copyFrom 48 = .ok (.invokestatic 51, 3) := by decide +kernel
theorem dX4_copyFrom_51 : decode cX4_copyFrom 51 = .ok (.aload_n 0, 1) := by decide +kernel
theorem dX4_copyFrom_52 : decode cX4_copyFrom 52 = .ok (.aload_n 1, 1) := by decide +kernel
theorem dX4_copyFrom_53 : decode cX4_copyFrom 53 = .ok (.getfield 31, 3) := by decide +kernel
theorem dX4_copyFrom_56 : decode cX4_copyFrom 56 = .ok (.putfield 31, 3) := by decide +kernel
theorem dX4_copyFrom_59 : decode cX4_copyFrom 59 = .ok (.aload_n 0, 1) := by decide +kernel
theorem dX4_copyFrom_60 : decode cX4_copyFrom 60 = .ok (.aload_n 1, 1) := by decide +kernel
theorem dX4_copyFrom_61 : decode cX4_copyFrom 61 = .ok (.getfield 35, 3) := by decide +kernel
theorem dX4_copyFrom_64 : decode cX4_copyFrom 64 = .ok (.putfield 35, 3) := by decide +kernel
theorem dX4_copyFrom_67 : decode cX4_copyFrom 67 = .ok (.aload_n 0, 1) := by decide +kernel
theorem dX4_copyFrom_68 : decode cX4_copyFrom 68 = .ok (.aload_n 1, 1) := by decide +kernel
theorem dX4_copyFrom_69 : decode cX4_copyFrom 69 = .ok (.getfield 38, 3) := by decide +kernel
theorem dX4_copyFrom_72 : decode cX4_copyFrom 72 = .ok (.putfield 38, 3) := by decide +kernel
theorem dX4_copyFrom_75 : decode cX4_copyFrom 75 = .ok (.aload_n 0, 1) := by decide +kernel
theorem dX4_copyFrom_76 : decode cX4_copyFrom 76 = .ok (.aload_n 1, 1) := by decide +kernel
theorem dX4_copyFrom_77 : decode cX4_copyFrom 77 = .ok (.getfield 41, 3) := by decide +kernel
theorem dX4_copyFrom_80 : decode cX4_copyFrom 80 = .ok (.putfield 41, 3) := by decide +kernel
theorem dX4_copyFrom_83 : decode cX4_copyFrom 83 = .ok (.aload_n 0, 1) := by decide +kernel
theorem dX4_copyFrom_84 : decode cX4_copyFrom 84 = .ok (.aload_n 1, 1) := by decide +kernel
theorem dX4_copyFrom_85 : decode cX4_copyFrom 85 = .ok (.getfield 44, 3) := by decide +kernel
theorem dX4_copyFrom_88 : decode cX4_copyFrom 88 = .ok (.putfield 44, 3) := by decide +kernel
theorem dX4_copyFrom_91 : decode cX4_copyFrom 91 = .ok (.return_, 1) := by decide +kernel
theorem dX4_holds_0 : decode cX4_holds 0 = .ok (.iload_n 1, 1) := by decide +kernel
theorem dX4_holds_1 : decode cX4_holds 1 = .ok (.ifCond .lt 33, 3) := by decide +kernel
theorem dX4_holds_4 : decode cX4_holds 4 = .ok (.iload_n 1, 1) := by decide +kernel
theorem dX4_holds_5 : decode cX4_holds 5 = .ok (.aload_n 0, 1) := by decide +kernel
theorem dX4_holds_6 : decode cX4_holds 6 = .ok (.getfield 31, 3) := by decide +kernel
theorem dX4_holds_9 : decode cX4_holds 9 = .ok (.if_icmp .ge 25, 3) := by decide +kernel
theorem dX4_holds_12 : decode cX4_holds 12 = .ok (.iload_n 1, 1) := by decide +kernel
theorem dX4_holds_13 : decode cX4_holds 13 = .ok (.bipush 10, 2) := by decide +kernel
theorem dX4_holds_15 : decode cX4_holds 15 = .ok (.if_icmp .ge 19, 3) := by decide +kernel
theorem dX4_holds_18 : decode cX4_holds 18 = .ok (.aload_n 0, 1) := by decide +kernel
theorem dX4_holds_19 : decode cX4_holds 19 = .ok (.getfield 35, 3) := by decide +kernel
theorem dX4_holds_22 : decode cX4_holds 22 = .ok (.iload_n 1, 1) := by decide +kernel
theorem dX4_holds_23 : decode cX4_holds 23 = .ok (.ishr, 1) := by decide +kernel
theorem dX4_holds_24 : decode cX4_holds 24 = .ok (.iconst 1, 1) := by decide +kernel
theorem dX4_holds_25 : decode cX4_holds 25 = .ok (.iand, 1) := by decide +kernel
theorem dX4_holds_26 : decode cX4_holds 26 = .ok (.iconst 1, 1) := by decide +kernel
theorem dX4_holds_27 : decode cX4_holds 27 = .ok (.if_icmp .ne 7, 3) := by decide +kernel
theorem dX4_holds_30 : decode cX4_holds 30 = .ok (.iconst 1, 1) := by decide +kernel
theorem dX4_holds_31 : decode cX4_holds 31 = .ok (.goto 4, 3) := by decide +kernel
theorem dX4_holds_34 : decode cX4_holds 34 = .ok (.iconst 0, 1) := by decide +kernel
theorem dX4_holds_35 : decode cX4_holds 35 = .ok (.ireturn, 1) := by decide +kernel
theorem dX4_hasRoom_0 : decode cX4_hasRoom 0 = .ok (.aload_n 0, 1) := by decide +kernel
theorem dX4_hasRoom_1 : decode cX4_hasRoom 1 = .ok (.getfield 31, 3) := by decide +kernel
theorem dX4_hasRoom_4 : decode cX4_hasRoom 4 = .ok (.bipush 10, 2) := by decide +kernel
theorem dX4_hasRoom_6 : decode cX4_hasRoom 6 = .ok (.if_icmp .ge 7, 3) := by decide +kernel
theorem dX4_hasRoom_9 : decode cX4_hasRoom 9 = .ok (.iconst 1, 1) := by decide +kernel
theorem dX4_hasRoom_10 : decode cX4_hasRoom 10 = .ok (.goto 4, 3) := by decide +kernel
theorem dX4_hasRoom_13 : decode cX4_hasRoom 13 = .ok (.iconst 0, 1) := by decide +kernel
theorem dX4_hasRoom_14 : decode cX4_hasRoom 14 = .ok (.ireturn, 1) := by decide +kernel
theorem dX4_heldAt_0 : decode cX4_heldAt 0 = .ok (.iconst 0, 1) := by decide +kernel
theorem dX4_heldAt_1 : decode cX4_heldAt 1 = .ok (.istore_n 2, 1) := by decide +kernel
theorem dX4_heldAt_2 : decode cX4_heldAt 2 = .ok (.iconst 0, 1) := by decide +kernel
theorem dX4_heldAt_3 : decode cX4_heldAt 3 = .ok (.istore_n 3, 1) := by decide +kernel
theorem dX4_heldAt_4 : decode cX4_heldAt 4 = .ok (.iload_n 3, 1) := by decide +kernel
theorem dX4_heldAt_5 : decode cX4_heldAt 5 = .ok (.aload_n 0, 1) := by decide +kernel
theorem dX4_heldAt_6 : decode cX4_heldAt 6 = .ok (.getfield 31, 3) := by decide +kernel
theorem dX4_heldAt_9 : decode cX4_heldAt 9 = .ok (.if_icmp .ge 27, 3) := by decide +kernel
theorem dX4_heldAt_12 : decode cX4_heldAt 12 = .ok (.aload_n 0, 1) := by decide +kernel
theorem dX4_heldAt_13 : decode cX4_heldAt 13 = .ok (.iload_n 3, 1) := by decide +kernel
theorem dX4_heldAt_14 : decode cX4_heldAt 14 = .ok (.invokevirtual 57, 3) := by decide +kernel
theorem dX4_heldAt_17 : decode cX4_heldAt 17 = .ok (.ifCond .eq 13, 3) := by decide +kernel
theorem dX4_heldAt_20 : decode cX4_heldAt 20 = .ok (.iload_n 2, 1) := by decide +kernel
theorem dX4_heldAt_21 : decode cX4_heldAt 21 = .ok (.iload_n 1, 1) := by decide +kernel
theorem dX4_heldAt_22 : decode cX4_heldAt 22 = .ok (.if_icmp .ne 5, 3) := by decide +kernel
theorem dX4_heldAt_25 : decode cX4_heldAt 25 = .ok (.iload_n 3, 1) := by decide +kernel
theorem dX4_heldAt_26 : decode cX4_heldAt 26 = .ok (.ireturn, 1) := by decide +kernel
theorem dX4_heldAt_27 : decode cX4_heldAt 27 = .ok (.iinc 2 1, 3) := by decide +kernel
theorem dX4_heldAt_30 : decode cX4_heldAt 30 = .ok (.iinc 3 1, 3) := by decide +kernel
theorem dX4_heldAt_33 : decode cX4_heldAt 33 = .ok (.goto (-29), 3) := by decide +kernel
theorem dX4_heldAt_36 : decode cX4_heldAt 36 = .ok (.iconst 0, 1) := by decide +kernel
theorem dX4_heldAt_37 : decode cX4_heldAt 37 = .ok (.ireturn, 1) := by decide +kernel
theorem dX4_comes_0 : decode cX4_comes 0 = .ok (.aload_n 0, 1) := by decide +kernel
theorem dX4_comes_1 : decode cX4_comes 1 = .ok (.getfield 31, 3) := by decide +kernel
theorem dX4_comes_4 : decode cX4_comes 4 = .ok (.ifCond .lt 12, 3) := by decide +kernel
theorem dX4_comes_7 : decode cX4_comes 7 = .ok (.aload_n 0, 1) := by decide +kernel
theorem dX4_comes_8 : decode cX4_comes 8 = .ok (.getfield 31, 3) := by decide +kernel
theorem dX4_comes_11 : decode cX4_comes 11 = .ok (.bipush 10, 2) := by decide +kernel
theorem dX4_comes_13 : decode cX4_comes 13 = .ok (.if_icmp .lt 5, 3) := by decide +kernel
theorem dX4_comes_16 : decode cX4_comes 16 = .ok (.iconst (-1), 1) := by decide +kernel
theorem dX4_comes_17 : decode cX4_comes 17 = .ok (.ireturn, 1) := by decide +kernel
theorem dX4_comes_18 : decode cX4_comes 18 = .ok (.aload_n 0, 1) := by decide +kernel
theorem dX4_comes_19 : decode cX4_comes 19 = .ok (.getfield 11, 3) := by decide +kernel
theorem dX4_comes_22 : decode cX4_comes 22 = .ok (.aload_n 0, 1) := by decide +kernel
theorem dX4_comes_23 : decode cX4_comes 23 = .ok (.getfield 31, 3) := by decide +kernel
theorem dX4_comes_26 : decode cX4_comes 26 = .ok (.aaload, 1) := by decide +kernel
theorem dX4_comes_27 : decode cX4_comes 27 = .ok (.astore 4, 2) := by decide +kernel
theorem dX4_comes_29 : decode cX4_comes 29 = .ok (.aload 4, 2) := by decide +kernel
theorem dX4_comes_31 : decode cX4_comes 31 = .ok (.getfield 61, 3) := by decide +kernel
theorem dX4_comes_34 : decode cX4_comes 34 = .ok (.aload_n 3, 1) := by decide +kernel
theorem dX4_comes_35 : decode cX4_comes 35 = .ok (.invokevirtual 64, 3) := by decide +kernel
theorem dX4_comes_38 : decode cX4_comes 38 = .ok (.aload 4, 2) := by decide +kernel
theorem dX4_comes_40 : decode cX4_comes 40 = .ok (.aload_n 3, 1) := by decide +kernel
theorem dX4_comes_41 : decode cX4_comes 41 = .ok (.invokevirtual 67, 3) := by decide +kernel
theorem dX4_comes_44 : decode cX4_comes 44 = .ok (.putfield 71, 3) := by decide +kernel
theorem dX4_comes_47 : decode cX4_comes 47 = .ok (.aload 4, 2) := by decide +kernel
theorem dX4_comes_49 : decode cX4_comes 49 = .ok (.iload_n 1, 1) := by decide +kernel
theorem dX4_comes_50 : decode cX4_comes 50 = .ok (.putfield 74, 3) := by decide +kernel
theorem dX4_comes_53 : decode cX4_comes 53 = .ok (.aload 4, 2) := by decide +kernel
theorem dX4_comes_55 : decode cX4_comes 55 = .ok (.iload_n 2, 1) := by decide +kernel
theorem dX4_comes_56 : decode cX4_comes 56 = .ok (.putfield 77, 3) := by decide +kernel
theorem dX4_comes_59 : decode cX4_comes 59 = .ok (.aload 4, 2) := by decide +kernel
theorem dX4_comes_61 : decode cX4_comes 61 = .ok (.iconst 1, 1) := by decide +kernel
theorem dX4_comes_62 : decode cX4_comes 62 = .ok (.aload_n 0, 1) := by decide +kernel
theorem dX4_comes_63 : decode cX4_comes 63 = .ok (.getfield 31, 3) := by decide +kernel
theorem dX4_comes_66 : decode cX4_comes 66 = .ok (.ishl, 1) := by decide +kernel
theorem dX4_comes_67 : decode cX4_comes 67 = .ok (.aload_n 0, 1) := by decide +kernel
theorem dX4_comes_68 : decode cX4_comes 68 = .ok (.iload_n 1, 1) := by decide +kernel
theorem dX4_comes_69 : decode cX4_comes 69 = .ok (.invokevirtual 80, 3) := by decide +kernel
theorem dX4_comes_72 : decode cX4_comes 72 = .ok (.ior, 1) := by decide +kernel
theorem dX4_comes_73 : decode cX4_comes 73 = .ok (.aload_n 0, 1) := by decide +kernel
theorem dX4_comes_74 : decode cX4_comes 74 = .ok (.iload_n 2, 1) := by decide +kernel
theorem dX4_comes_75 : decode cX4_comes 75 = .ok (.invokevirtual 80, 3) := by decide +kernel
theorem dX4_comes_78 : decode cX4_comes 78 = .ok (.ior, 1) := by decide +kernel
theorem dX4_comes_79 : decode cX4_comes 79 = .ok (.putfield 84, 3) := by decide +kernel
theorem dX4_comes_82 : decode cX4_comes 82 = .ok (.aload 4, 2) := by decide +kernel
theorem dX4_comes_84 : decode cX4_comes 84 = .ok (.iconst (-1), 1) := by decide +kernel
theorem dX4_comes_85 : decode cX4_comes 85 = .ok (.putfield 87, 3) := by decide +kernel
theorem dX4_comes_88 : decode cX4_comes 88 = .ok (.aload_n 0, 1) := by decide +kernel
theorem dX4_comes_89 : decode cX4_comes 89 = .ok (.dup, 1) := by decide +kernel
theorem dX4_comes_90 : decode cX4_comes 90 = .ok (.getfield 35, 3) := by decide +kernel
theorem dX4_comes_93 : decode cX4_comes 93 = .ok (.iconst 1, 1) := by decide +kernel
theorem dX4_comes_94 : decode cX4_comes 94 = .ok (.aload_n 0, 1) := by decide +kernel
theorem dX4_comes_95 : decode cX4_comes 95 = .ok (.getfield 31, 3) := by decide +kernel
theorem dX4_comes_98 : decode cX4_comes 98 = .ok (.ishl, 1) := by decide +kernel
theorem dX4_comes_99 : decode cX4_comes 99 = .ok (.ior, 1) := by decide +kernel
theorem dX4_comes_100 : decode cX4_comes 100 = .ok (.putfield 35, 3) := by decide +kernel
theorem dX4_comes_103 : decode cX4_comes 103 = .ok (.aload_n 0, 1) := by decide +kernel
theorem dX4_comes_104 : decode cX4_comes 104 = .ok (.dup, 1) := by decide +kernel
theorem dX4_comes_105 : decode cX4_comes 105 = .ok (.getfield 31, 3) := by decide +kernel
theorem dX4_comes_108 : decode cX4_comes 108 = .ok (.iconst 1, 1) := by decide +kernel
theorem dX4_comes_109 : decode cX4_comes 109 = .ok (.iadd, 1) := by decide +kernel
theorem dX4_comes_110 : decode cX4_comes 110 = .ok (.putfield 31, 3) := by decide +kernel
theorem dX4_comes_113 : decode cX4_comes 113 = .ok (.aload_n 0, 1) := by decide +kernel
theorem dX4_comes_114 : decode cX4_comes 114 = .ok (.getfield 31, 3) := by decide +kernel
theorem dX4_comes_117 : decode cX4_comes 117 = .ok (.iconst 1, 1) := by decide +kernel
theorem dX4_comes_118 : decode cX4_comes 118 = .ok (.isub, 1) := by decide +kernel
theorem dX4_comes_119 : decode cX4_comes 119 = .ok (.ireturn, 1) := by decide +kernel
theorem dX4_comesAlone_0 : decode cX4_comesAlone 0 = .ok (.aload_n 0, 1) := by decide +kernel
theorem dX4_comesAlone_1 : decode cX4_comesAlone 1 = .ok (.getfield 27, 3) := by decide +kernel
theorem dX4_comesAlone_4 : decode cX4_comesAlone 4 = .ok (.invokevirtual 90, 3) := by decide +kernel
theorem dX4_comesAlone_7 : decode cX4_comesAlone 7 = .ok (.aload_n 0, 1) := by decide +kernel
theorem dX4_comesAlone_8 : decode cX4_comesAlone 8 = .ok (.getfield 27, 3) := by decide +kernel
theorem dX4_comesAlone_11 : decode cX4_comesAlone 11 = .ok (.iconst 0, 1) := by decide +kernel
theorem dX4_comesAlone_12 : decode cX4_comesAlone 12 = .ok (.invokevirtual 93, 3) := by decide +kernel
theorem dX4_comesAlone_15 : decode cX4_comesAlone 15 = .ok (.aload_n 0, 1) := by decide +kernel
theorem dX4_comesAlone_16 : decode cX4_comesAlone 16 = .ok (.iconst (-1), 1) := by decide +kernel
theorem dX4_comesAlone_17 : decode cX4_comesAlone 17 = .ok (.iconst (-1), 1) := by decide +kernel
theorem dX4_comesAlone_18 : decode cX4_comesAlone 18 = .ok (.aload_n 0, 1) := by decide +kernel
theorem dX4_comesAlone_19 : decode cX4_comesAlone 19 = .ok (.getfield 27, 3) := by decide +kernel
theorem dX4_comesAlone_22 : decode cX4_comesAlone 22 = .ok (.invokevirtual 96, 3) := by decide +kernel
theorem dX4_comesAlone_25 : decode cX4_comesAlone 25 = .ok (.ireturn, 1) := by decide +kernel
theorem dX4_comesEdited_0 : decode cX4_comesEdited 0 = .ok (.aload_n 0, 1) := by decide +kernel
theorem dX4_comesEdited_1 : decode cX4_comesEdited 1 = .ok (.iload_n 1, 1) := by decide +kernel
theorem dX4_comesEdited_2 : decode cX4_comesEdited 2 = .ok (.invokevirtual 57, 3) := by decide +kernel
theorem dX4_comesEdited_5 : decode cX4_comesEdited 5 = .ok (.ifCond .ne 5, 3) := by decide +kernel
theorem dX4_comesEdited_8 : decode cX4_comesEdited 8 = .ok (.iconst (-1), 1) := by decide +kernel
theorem dX4_comesEdited_9 : decode cX4_comesEdited 9 = .ok (.ireturn, 1) := by decide +kernel
theorem dX4_comesEdited_10 : decode cX4_comesEdited 10 = .ok (.aload_n 0, 1) := by decide +kernel
theorem dX4_comesEdited_11 : decode cX4_comesEdited 11 = .ok (.getfield 11, 3) := by decide +kernel
theorem dX4_comesEdited_14 : decode cX4_comesEdited 14 = .ok (.iload_n 1, 1) := by decide +kernel
theorem dX4_comesEdited_15 : decode cX4_comesEdited 15 = .ok (.aaload, 1) := by decide +kernel
theorem dX4_comesEdited_16 : decode cX4_comesEdited 16 = .ok (.getfield 61, 3) := by decide +kernel
theorem dX4_comesEdited_19 : decode cX4_comesEdited 19 = .ok (.astore 4, 2) := by decide +kernel
theorem dX4_comesEdited_21 : decode cX4_comesEdited 21 = .ok (.aload_n 0, 1) := by decide +kernel
theorem dX4_comesEdited_22 : decode cX4_comesEdited 22 = .ok (.getfield 27, 3) := by decide +kernel
theorem dX4_comesEdited_25 : decode cX4_comesEdited 25 = .ok (.invokevirtual 90, 3) := by decide +kernel
theorem dX4_comesEdited_28 : decode cX4_comesEdited 28 = .ok (.iconst 0, 1) := by decide +kernel
theorem dX4_comesEdited_29 : decode cX4_comesEdited 29 = .ok (.istore 5, 2) := by decide +kernel
theorem dX4_comesEdited_31 : decode cX4_comesEdited 31 = .ok (.iload 5, 2) := by decide +kernel
theorem dX4_comesEdited_33 : decode cX4_comesEdited 33 = .ok (.aload 4, 2) := by decide +kernel
theorem dX4_comesEdited_35 : decode cX4_comesEdited 35 = .ok (.getfield 100, 3) := by decide +kernel
theorem dX4_comesEdited_38 : decode cX4_comesEdited 38 = .ok (.if_icmp .ge 46, 3) := by decide +kernel
theorem dX4_comesEdited_41 : decode cX4_comesEdited 41 = .ok (.iload 5, 2) := by decide +kernel
theorem dX4_comesEdited_43 : decode cX4_comesEdited 43 = .ok (.iload_n 2, 1) := by decide +kernel
theorem dX4_comesEdited_44 : decode cX4_comesEdited 44 = .ok (.if_icmp .eq 20, 3) := by decide +kernel
theorem dX4_comesEdited_47 : decode cX4_comesEdited 47 = .ok (.aload_n 0, 1) := by decide +kernel
theorem dX4_comesEdited_48 : decode cX4_comesEdited 48 = .ok (.getfield 27, 3) := by decide +kernel
theorem dX4_comesEdited_51 : decode cX4_comesEdited 51 = .ok (.aload 4, 2) := by decide +kernel
theorem dX4_comesEdited_53 : decode cX4_comesEdited 53 = .ok (.iload 5, 2) := by decide +kernel
theorem dX4_comesEdited_55 : decode cX4_comesEdited 55 = .ok (.invokevirtual 103, 3) := by decide +kernel
theorem dX4_comesEdited_58 : decode cX4_comesEdited 58 = .ok (.invokevirtual 93, 3) := by decide +kernel
theorem dX4_comesEdited_61 : decode cX4_comesEdited 61 = .ok (.goto 17, 3) := by decide +kernel
theorem dX4_comesEdited_64 : decode cX4_comesEdited 64 = .ok (.iload_n 3, 1) := by decide +kernel
theorem dX4_comesEdited_65 : decode cX4_comesEdited 65 = .ok (.bipush 8, 2) := by decide +kernel
theorem dX4_comesEdited_67 : decode cX4_comesEdited 67 = .ok (.if_icmp .eq 11, 3) := by decide +kernel
theorem dX4_comesEdited_70 : decode cX4_comesEdited 70 = .ok (.aload_n 0, 1) := by decide +kernel
theorem dX4_comesEdited_71 : decode cX4_comesEdited 71 = .ok (.getfield 27, 3) := by decide +kernel
theorem dX4_comesEdited_74 : decode cX4_comesEdited 74 = .ok (.iload_n 3, 1) := by decide +kernel
theorem dX4_comesEdited_75 : decode cX4_comesEdited 75 = .ok (.invokevirtual 93, 3) := by decide +kernel
theorem dX4_comesEdited_78 : decode cX4_comesEdited 78 = .ok (.iinc 5 1, 3) := by decide +kernel
theorem dX4_comesEdited_81 : decode cX4_comesEdited 81 = .ok (.goto (-50), 3) := by decide +kernel
theorem dX4_comesEdited_84 : decode cX4_comesEdited 84 = .ok (.iload_n 2, 1) := by decide +kernel
theorem dX4_comesEdited_85 : decode cX4_comesEdited 85 = .ok (.aload 4, 2) := by decide +kernel
theorem dX4_comesEdited_87 : decode cX4_comesEdited 87 = .ok (.getfield 100, 3) := by decide +kernel
theorem dX4_comesEdited_90 : decode cX4_comesEdited 90 = .ok (.if_icmp .ne 11, 3) := by decide +kernel
theorem dX4_comesEdited_93 : decode cX4_comesEdited 93 = .ok (.aload_n 0, 1) := by decide +kernel
theorem dX4_comesEdited_94 : decode cX4_comesEdited 94 = .ok (.getfield 27, 3) := by decide +kernel
theorem dX4_comesEdited_97 : decode cX4_comesEdited 97 = .ok (.iload_n 3, 1) := by decide +kernel
theorem dX4_comesEdited_98 : decode cX4_comesEdited 98 = .ok (.invokevirtual 93, 3) := by decide +kernel
theorem dX4_comesEdited_101 : decode cX4_comesEdited 101 = .ok (.aload_n 0, 1) := by decide +kernel
theorem dX4_comesEdited_102 : decode cX4_comesEdited 102 = .ok (.iload_n 1, 1) := by decide +kernel
theorem dX4_comesEdited_103 : decode cX4_comesEdited 103 = .ok (.iconst (-1), 1) := by decide +kernel
theorem dX4_comesEdited_104 : decode cX4_comesEdited 104 = .ok (.aload_n 0, 1) := by decide +kernel
theorem dX4_comesEdited_105 : decode cX4_comesEdited 105 = .ok (.getfield 27, 3) := by decide +kernel
theorem dX4_comesEdited_108 : decode cX4_comesEdited 108 = .ok (.invokevirtual 96, 3) := by decide +kernel
theorem dX4_comesEdited_111 : decode cX4_comesEdited 111 = .ok (.ireturn, 1) := by decide +kernel
theorem dX4_damageAt_0 : decode cX4_damageAt 0 = .ok (.aload_n 0, 1) := by decide +kernel
theorem dX4_damageAt_1 : decode cX4_damageAt 1 = .ok (.iload_n 1, 1) := by decide +kernel
theorem dX4_damageAt_2 : decode cX4_damageAt 2 = .ok (.invokevirtual 57, 3) := by decide +kernel
theorem dX4_damageAt_5 : decode cX4_damageAt 5 = .ok (.ifCond .ne 4, 3) := by decide +kernel
theorem dX4_damageAt_8 : decode cX4_damageAt 8 = .ok (.return_, 1) := by decide +kernel
theorem dX4_damageAt_9 : decode cX4_damageAt 9 = .ok (.aload_n 0, 1) := by decide +kernel
theorem dX4_damageAt_10 : decode cX4_damageAt 10 = .ok (.getfield 11, 3) := by decide +kernel
theorem dX4_damageAt_13 : decode cX4_damageAt 13 = .ok (.iload_n 1, 1) := by decide +kernel
theorem dX4_damageAt_14 : decode cX4_damageAt 14 = .ok (.aaload, 1) := by decide +kernel
theorem dX4_damageAt_15 : decode cX4_damageAt 15 = .ok (.getfield 61, 3) := by decide +kernel
theorem dX4_damageAt_18 : decode cX4_damageAt 18 = .ok (.iload_n 2, 1) := by decide +kernel
theorem dX4_damageAt_19 : decode cX4_damageAt 19 = .ok (.iload_n 3, 1) := by decide +kernel
theorem dX4_damageAt_20 : decode cX4_damageAt 20 = .ok (.invokevirtual 106, 3) := by decide +kernel
theorem dX4_damageAt_23 : decode cX4_damageAt 23 = .ok (.iconst 1, 1) := by decide +kernel
theorem dX4_damageAt_24 : decode cX4_damageAt 24 = .ok (.istore 4, 2) := by decide +kernel
theorem dX4_damageAt_26 : decode cX4_damageAt 26 = .ok (.iload 4, 2) := by decide +kernel
theorem dX4_damageAt_28 : decode cX4_damageAt 28 = .ok (.bipush 10, 2) := by decide +kernel
theorem dX4_damageAt_30 : decode cX4_damageAt 30 = .ok (.if_icmp .ge 58, 3) := by decide +kernel
theorem dX4_damageAt_33 : decode cX4_damageAt 33 = .ok (.iconst 0, 1) := by decide +kernel
theorem dX4_damageAt_34 : decode cX4_damageAt 34 = .ok (.istore 5, 2) := by decide +kernel
theorem dX4_damageAt_36 : decode cX4_damageAt 36 = .ok (.iload 5, 2) := by decide +kernel
theorem dX4_damageAt_38 : decode cX4_damageAt 38 = .ok (.aload_n 0, 1) := by decide +kernel
theorem dX4_damageAt_39 : decode cX4_damageAt 39 = .ok (.getfield 31, 3) := by decide +kernel
theorem dX4_damageAt_42 : decode cX4_damageAt 42 = .ok (.if_icmp .ge 40, 3) := by decide +kernel
theorem dX4_damageAt_45 : decode cX4_damageAt 45 = .ok (.aload_n 0, 1) := by decide +kernel
theorem dX4_damageAt_46 : decode cX4_damageAt 46 = .ok (.iload 5, 2) := by decide +kernel
theorem dX4_damageAt_48 : decode cX4_damageAt 48 = .ok (.invokevirtual 57, 3) := by decide +kernel
theorem dX4_damageAt_51 : decode cX4_damageAt 51 = .ok (.ifCond .eq 25, 3) := by decide +kernel
theorem dX4_damageAt_54 : decode cX4_damageAt 54 = .ok (.aload_n 0, 1) := by decide +kernel
theorem dX4_damageAt_55 : decode cX4_damageAt 55 = .ok (.iload 5, 2) := by decide +kernel
theorem dX4_damageAt_57 : decode cX4_damageAt 57 = .ok (.invokevirtual 110, 3) := by decide +kernel
theorem dX4_damageAt_60 : decode cX4_damageAt 60 = .ok (.iload 4, 2) := by decide +kernel
theorem dX4_damageAt_62 : decode cX4_damageAt 62 = .ok (.if_icmp .ne 14, 3) := by decide +kernel
theorem dX4_damageAt_65 : decode cX4_damageAt 65 = .ok (.aload_n 0, 1) := by decide +kernel
theorem dX4_damageAt_66 : decode cX4_damageAt 66 = .ok (.aload_n 0, 1) := by decide +kernel
theorem dX4_damageAt_67 : decode cX4_damageAt 67 = .ok (.getfield 11, 3) := by decide +kernel
theorem dX4_damageAt_70 : decode cX4_damageAt 70 = .ok (.iload 5, 2) := by decide +kernel
theorem dX4_damageAt_72 : decode cX4_damageAt 72 = .ok (.aaload, 1) := by decide +kernel
theorem dX4_damageAt_73 : decode cX4_damageAt 73 = .ok (.invokevirtual 113, 3) := by decide +kernel
theorem dX4_damageAt_76 : decode cX4_damageAt 76 = .ok (.iinc 5 1, 3) := by decide +kernel
theorem dX4_damageAt_79 : decode cX4_damageAt 79 = .ok (.goto (-43), 3) := by decide +kernel
theorem dX4_damageAt_82 : decode cX4_damageAt 82 = .ok (.iinc 4 1, 3) := by decide +kernel
theorem dX4_damageAt_85 : decode cX4_damageAt 85 = .ok (.goto (-59), 3) := by decide +kernel
theorem dX4_damageAt_88 : decode cX4_damageAt 88 = .ok (.return_, 1) := by decide +kernel
theorem dX4_restore_0 : decode cX4_restore 0 = .ok (.aload_n 0, 1) := by decide +kernel
theorem dX4_restore_1 : decode cX4_restore 1 = .ok (.aload_n 1, 1) := by decide +kernel
theorem dX4_restore_2 : decode cX4_restore 2 = .ok (.getfield 87, 3) := by decide +kernel
theorem dX4_restore_5 : decode cX4_restore 5 = .ok (.invokevirtual 57, 3) := by decide +kernel
theorem dX4_restore_8 : decode cX4_restore 8 = .ok (.ifCond .eq 26, 3) := by decide +kernel
theorem dX4_restore_11 : decode cX4_restore 11 = .ok (.aload_n 1, 1) := by decide +kernel
theorem dX4_restore_12 : decode cX4_restore 12 = .ok (.getfield 116, 3) := by decide +kernel
theorem dX4_restore_15 : decode cX4_restore 15 = .ok (.aload_n 0, 1) := by decide +kernel
theorem dX4_restore_16 : decode cX4_restore 16 = .ok (.getfield 11, 3) := by decide +kernel
theorem dX4_restore_19 : decode cX4_restore 19 = .ok (.aload_n 1, 1) := by decide +kernel
theorem dX4_restore_20 : decode cX4_restore 20 = .ok (.getfield 87, 3) := by decide +kernel
theorem dX4_restore_23 : decode cX4_restore 23 = .ok (.aaload, 1) := by decide +kernel
theorem dX4_restore_24 : decode cX4_restore 24 = .ok (.getfield 61, 3) := by decide +kernel
theorem dX4_restore_27 : decode cX4_restore 27 = .ok (.aload_n 1, 1) := by decide +kernel
theorem dX4_restore_28 : decode cX4_restore 28 = .ok (.getfield 61, 3) := by decide +kernel
theorem dX4_restore_31 : decode cX4_restore 31 = .ok (.invokevirtual 120, 3) := by decide +kernel
theorem dX4_restore_34 : decode cX4_restore 34 = .ok (.return_, 1) := by decide +kernel
theorem dX4_storeBy_0 : decode cX4_storeBy 0 = .ok (.iconst 0, 1) := by decide +kernel
theorem dX4_storeBy_1 : decode cX4_storeBy 1 = .ok (.istore_n 2, 1) := by decide +kernel
theorem dX4_storeBy_2 : decode cX4_storeBy 2 = .ok (.iload_n 2, 1) := by decide +kernel
theorem dX4_storeBy_3 : decode cX4_storeBy 3 = .ok (.aload_n 0, 1) := by decide +kernel
theorem dX4_storeBy_4 : decode cX4_storeBy 4 = .ok (.getfield 31, 3) := by decide +kernel
theorem dX4_storeBy_7 : decode cX4_storeBy 7 = .ok (.if_icmp .ge 67, 3) := by decide +kernel
theorem dX4_storeBy_10 : decode cX4_storeBy 10 = .ok (.aload_n 0, 1) := by decide +kernel
theorem dX4_storeBy_11 : decode cX4_storeBy 11 = .ok (.iload_n 2, 1) := by decide +kernel
theorem dX4_storeBy_12 : decode cX4_storeBy 12 = .ok (.invokevirtual 57, 3) := by decide +kernel
theorem dX4_storeBy_15 : decode cX4_storeBy 15 = .ok (.ifCond .eq 53, 3) := by decide +kernel
theorem dX4_storeBy_18 : decode cX4_storeBy 18 = .ok (.aload_n 0, 1) := by decide +kernel
theorem dX4_storeBy_19 : decode cX4_storeBy 19 = .ok (.getfield 11, 3) := by decide +kernel
theorem dX4_storeBy_22 : decode cX4_storeBy 22 = .ok (.iload_n 2, 1) := by decide +kernel
theorem dX4_storeBy_23 : decode cX4_storeBy 23 = .ok (.aaload, 1) := by decide +kernel
theorem dX4_storeBy_24 : decode cX4_storeBy 24 = .ok (.astore_n 3, 1) := by decide +kernel
theorem dX4_storeBy_25 : decode cX4_storeBy 25 = .ok (.aload_n 3, 1) := by decide +kernel
theorem dX4_storeBy_26 : decode cX4_storeBy 26 = .ok (.aload_n 1, 1) := by decide +kernel
theorem dX4_storeBy_27 : decode cX4_storeBy 27 = .ok (.iload_n 2, 1) := by decide +kernel
theorem dX4_storeBy_28 : decode cX4_storeBy 28 = .ok (.invokevirtual 126, 3) := by decide +kernel
theorem dX4_storeBy_31 : decode cX4_storeBy 31 = .ok (.putfield 87, 3) := by decide +kernel
theorem dX4_storeBy_34 : decode cX4_storeBy 34 = .ok (.aload_n 0, 1) := by decide +kernel
theorem dX4_storeBy_35 : decode cX4_storeBy 35 = .ok (.aload_n 3, 1) := by decide +kernel
theorem dX4_storeBy_36 : decode cX4_storeBy 36 = .ok (.getfield 87, 3) := by decide +kernel
theorem dX4_storeBy_39 : decode cX4_storeBy 39 = .ok (.invokevirtual 57, 3) := by decide +kernel
theorem dX4_storeBy_42 : decode cX4_storeBy 42 = .ok (.ifCond .eq 26, 3) := by decide +kernel
theorem dX4_storeBy_45 : decode cX4_storeBy 45 = .ok (.aload_n 3, 1) := by decide +kernel
theorem dX4_storeBy_46 : decode cX4_storeBy 46 = .ok (.getfield 116, 3) := by decide +kernel
theorem dX4_storeBy_49 : decode cX4_storeBy 49 = .ok (.aload_n 0, 1) := by decide +kernel
theorem dX4_storeBy_50 : decode cX4_storeBy 50 = .ok (.getfield 11, 3) := by decide +kernel
theorem dX4_storeBy_53 : decode cX4_storeBy 53 = .ok (.aload_n 3, 1) := by decide +kernel
theorem dX4_storeBy_54 : decode cX4_storeBy 54 = .ok (.getfield 87, 3) := by decide +kernel
theorem dX4_storeBy_57 : decode cX4_storeBy 57 = .ok (.aaload, 1) := by decide +kernel
theorem dX4_storeBy_58 : decode cX4_storeBy 58 = .ok (.getfield 61, 3) := by decide +kernel
theorem dX4_storeBy_61 : decode cX4_storeBy 61 = .ok (.aload_n 3, 1) := by decide +kernel
theorem dX4_storeBy_62 : decode cX4_storeBy 62 = .ok (.getfield 61, 3) := by decide +kernel
theorem dX4_storeBy_65 : decode cX4_storeBy 65 = .ok (.invokevirtual 131, 3) := by decide +kernel
theorem dX4_storeBy_68 : decode cX4_storeBy 68 = .ok (.iinc 2 1, 3) := by decide +kernel
theorem dX4_storeBy_71 : decode cX4_storeBy 71 = .ok (.goto (-69), 3) := by decide +kernel
theorem dX4_storeBy_74 : decode cX4_storeBy 74 = .ok (.return_, 1) := by decide +kernel
theorem dX4_dropGarbage_0 : decode cX4_dropGarbage 0 = .ok (.aload_n 0, 1) := by decide +kernel
theorem dX4_dropGarbage_1 : decode cX4_dropGarbage 1 = .ok (.invokevirtual 134, 3) := by decide +kernel
theorem dX4_dropGarbage_4 : decode cX4_dropGarbage 4 = .ok (.aload_n 0, 1) := by decide +kernel
theorem dX4_dropGarbage_5 : decode cX4_dropGarbage 5 = .ok (.getfield 35, 3) := by decide +kernel
theorem dX4_dropGarbage_8 : decode cX4_dropGarbage 8 = .ok (.iand, 1) := by decide +kernel
theorem dX4_dropGarbage_9 : decode cX4_dropGarbage 9 = .ok (.istore_n 1, 1) := by decide +kernel
theorem dX4_dropGarbage_10 : decode cX4_dropGarbage 10 = .ok (.aload_n 0, 1) := by decide +kernel
theorem dX4_dropGarbage_11 : decode cX4_dropGarbage 11 = .ok (.getfield 35, 3) := by decide +kernel
theorem dX4_dropGarbage_14 : decode cX4_dropGarbage 14 = .ok (.iload_n 1, 1) := by decide +kernel
theorem dX4_dropGarbage_15 : decode cX4_dropGarbage 15 = .ok (.iconst (-1), 1) := by decide +kernel
theorem dX4_dropGarbage_16 : decode cX4_dropGarbage 16 = .ok (.ixor, 1) := by decide +kernel
theorem dX4_dropGarbage_17 : decode cX4_dropGarbage 17 = .ok (.iand, 1) := by decide +kernel
theorem dX4_dropGarbage_18 : decode cX4_dropGarbage 18 = .ok (.istore_n 2, 1) := by decide +kernel
theorem dX4_dropGarbage_19 : decode cX4_dropGarbage 19 = .ok (.iconst 0, 1) := by decide +kernel
theorem dX4_dropGarbage_20 : decode cX4_dropGarbage 20 = .ok (.istore_n 3, 1) := by decide +kernel
theorem dX4_dropGarbage_21 : decode cX4_dropGarbage 21 = .ok (.iload_n 3, 1) := by decide +kernel
theorem dX4_dropGarbage_22 : decode cX4_dropGarbage 22 = .ok (.aload_n 0, 1) := by decide +kernel
theorem dX4_dropGarbage_23 : decode cX4_dropGarbage 23 = .ok (.getfield 31, 3) := by decide +kernel
theorem dX4_dropGarbage_26 : decode cX4_dropGarbage 26 = .ok (.if_icmp .ge 36, 3) := by decide +kernel
theorem dX4_dropGarbage_29 : decode cX4_dropGarbage 29 = .ok (.aload_n 0, 1) := by decide +kernel
theorem dX4_dropGarbage_30 : decode cX4_dropGarbage 30 = .ok (.iload_n 3, 1) := by decide +kernel
theorem dX4_dropGarbage_31 : decode cX4_dropGarbage 31 = .ok (.invokevirtual 57, 3) := by decide +kernel
theorem dX4_dropGarbage_34 : decode cX4_dropGarbage 34 = .ok (.ifCond .eq 22, 3) := by decide +kernel
theorem dX4_dropGarbage_37 : decode cX4_dropGarbage 37 = .ok (.iload_n 1, 1) := by decide +kernel
theorem dX4_dropGarbage_38 : decode cX4_dropGarbage 38 = .ok (.iload_n 3, 1) := by decide +kernel
theorem dX4_dropGarbage_39 : decode cX4_dropGarbage 39 = .ok (.ishr, 1) := by decide +kernel
theorem dX4_dropGarbage_40 : decode cX4_dropGarbage 40 = .ok (.iconst 1, 1) := by decide +kernel
theorem dX4_dropGarbage_41 : decode cX4_dropGarbage 41 = .ok (.iand, 1) := by decide +kernel
theorem dX4_dropGarbage_42 : decode cX4_dropGarbage 42 = .ok (.iconst 1, 1) := by decide +kernel
theorem dX4_dropGarbage_43 : decode cX4_dropGarbage 43 = .ok (.if_icmp .ne 13, 3) := by decide +kernel
theorem dX4_dropGarbage_46 : decode cX4_dropGarbage 46 = .ok (.aload_n 0, 1) := by decide +kernel
theorem dX4_dropGarbage_47 : decode cX4_dropGarbage 47 = .ok (.getfield 11, 3) := by decide +kernel
theorem dX4_dropGarbage_50 : decode cX4_dropGarbage 50 = .ok (.iload_n 3, 1) := by decide +kernel
theorem dX4_dropGarbage_51 : decode cX4_dropGarbage 51 = .ok (.aaload, 1) := by decide +kernel
theorem dX4_dropGarbage_52 : decode cX4_dropGarbage 52 = .ok (.iload_n 2, 1) := by decide +kernel
theorem dX4_dropGarbage_53 : decode cX4_dropGarbage 53 = .ok (.invokevirtual 137, 3) := by decide +kernel
theorem dX4_dropGarbage_56 : decode cX4_dropGarbage 56 = .ok (.iinc 3 1, 3) := by decide +kernel
theorem dX4_dropGarbage_59 : decode cX4_dropGarbage 59 = .ok (.goto (-38), 3) := by decide +kernel
theorem dX4_dropGarbage_62 : decode cX4_dropGarbage 62 = .ok (.aload_n 0, 1) := by decide +kernel
theorem dX4_dropGarbage_63 : decode cX4_dropGarbage 63 = .ok (.iload_n 1, 1) := by decide +kernel
theorem dX4_dropGarbage_64 : decode cX4_dropGarbage 64 = .ok (.putfield 35, 3) := by decide +kernel
theorem dX4_dropGarbage_67 : decode cX4_dropGarbage 67 = .ok (.iload_n 2, 1) := by decide +kernel
theorem dX4_dropGarbage_68 : decode cX4_dropGarbage 68 = .ok (.invokestatic 140, 3) := by decide +kernel
theorem dX4_dropGarbage_71 : decode cX4_dropGarbage 71 = .ok (.ireturn, 1) := by decide +kernel
theorem dX4_reachOf_0 : decode cX4_reachOf 0 = .ok (.iload_n 1, 1) := by decide +kernel
theorem dX4_reachOf_1 : decode cX4_reachOf 1 = .ok (.ifCond .lt 29, 3) := by decide +kernel
theorem dX4_reachOf_4 : decode cX4_reachOf 4 = .ok (.iload_n 1, 1) := by decide +kernel
theorem dX4_reachOf_5 : decode cX4_reachOf 5 = .ok (.aload_n 0, 1) := by decide +kernel
theorem dX4_reachOf_6 : decode cX4_reachOf 6 = .ok (.getfield 31, 3) := by decide +kernel
theorem dX4_reachOf_9 : decode cX4_reachOf 9 = .ok (.if_icmp .ge 21, 3) := by decide +kernel
theorem dX4_reachOf_12 : decode cX4_reachOf 12 = .ok (.iload_n 1, 1) := by decide +kernel
theorem dX4_reachOf_13 : decode cX4_reachOf 13 = .ok (.bipush 10, 2) := by decide +kernel
theorem dX4_reachOf_15 : decode cX4_reachOf 15 = .ok (.if_icmp .ge 15, 3) := by decide +kernel
theorem dX4_reachOf_18 : decode cX4_reachOf 18 = .ok (.aload_n 0, 1) := by decide +kernel
theorem dX4_reachOf_19 : decode cX4_reachOf 19 = .ok (.getfield 11, 3) := by decide +kernel
theorem dX4_reachOf_22 : decode cX4_reachOf 22 = .ok (.iload_n 1, 1) := by decide +kernel
theorem dX4_reachOf_23 : decode cX4_reachOf 23 = .ok (.aaload, 1) := by decide +kernel
theorem dX4_reachOf_24 : decode cX4_reachOf 24 = .ok (.getfield 84, 3) := by decide +kernel
theorem dX4_reachOf_27 : decode cX4_reachOf 27 = .ok (.goto 4, 3) := by decide +kernel
theorem dX4_reachOf_30 : decode cX4_reachOf 30 = .ok (.iconst 0, 1) := by decide +kernel
theorem dX4_reachOf_31 : decode cX4_reachOf 31 = .ok (.ireturn, 1) := by decide +kernel
theorem dX4_reachedFrom_0 : decode cX4_reachedFrom 0 = .ok (.iconst 0, 1) := by decide +kernel
theorem dX4_reachedFrom_1 : decode cX4_reachedFrom 1 = .ok (.istore_n 2, 1) := by decide +kernel
theorem dX4_reachedFrom_2 : decode cX4_reachedFrom 2 = .ok (.iconst 0, 1) := by decide +kernel
theorem dX4_reachedFrom_3 : decode cX4_reachedFrom 3 = .ok (.istore_n 3, 1) := by decide +kernel
theorem dX4_reachedFrom_4 : decode cX4_reachedFrom 4 = .ok (.iload_n 3, 1) := by decide +kernel
theorem dX4_reachedFrom_5 : decode cX4_reachedFrom 5 = .ok (.aload_n 0, 1) := by decide +kernel
theorem dX4_reachedFrom_6 : decode cX4_reachedFrom 6 = .ok (.getfield 31, 3) := by decide +kernel
theorem dX4_reachedFrom_9 : decode cX4_reachedFrom 9 = .ok (.if_icmp .ge 26, 3) := by decide +kernel
theorem dX4_reachedFrom_12 : decode cX4_reachedFrom 12 = .ok (.iload_n 1, 1) := by decide +kernel
theorem dX4_reachedFrom_13 : decode cX4_reachedFrom 13 = .ok (.iload_n 3, 1) := by decide +kernel
theorem dX4_reachedFrom_14 : decode cX4_reachedFrom 14 = .ok (.ishr, 1) := by decide +kernel
theorem dX4_reachedFrom_15 : decode cX4_reachedFrom 15 = .ok (.iconst 1, 1) := by decide +kernel
theorem dX4_reachedFrom_16 : decode cX4_reachedFrom 16 = .ok (.iand, 1) := by decide +kernel
theorem dX4_reachedFrom_17 : decode cX4_reachedFrom 17 = .ok (.iconst 1, 1) := by decide +kernel
theorem dX4_reachedFrom_18 : decode cX4_reachedFrom 18 = .ok (.if_icmp .ne 11, 3) := by decide +kernel
theorem dX4_reachedFrom_21 : decode cX4_reachedFrom 21 = .ok (.iload_n 2, 1) := by decide +kernel
theorem dX4_reachedFrom_22 : decode cX4_reachedFrom 22 = .ok (.aload_n 0, 1) := by decide +kernel
theorem dX4_reachedFrom_23 : decode cX4_reachedFrom 23 = .ok (.iload_n 3, 1) := by decide +kernel
theorem dX4_reachedFrom_24 : decode cX4_reachedFrom 24 = .ok (.invokevirtual 80, 3) := by decide +kernel
theorem dX4_reachedFrom_27 : decode cX4_reachedFrom 27 = .ok (.ior, 1) := by decide +kernel
theorem dX4_reachedFrom_28 : decode cX4_reachedFrom 28 = .ok (.istore_n 2, 1) := by decide +kernel
theorem dX4_reachedFrom_29 : decode cX4_reachedFrom 29 = .ok (.iinc 3 1, 3) := by decide +kernel
theorem dX4_reachedFrom_32 : decode cX4_reachedFrom 32 = .ok (.goto (-28), 3) := by decide +kernel
theorem dX4_reachedFrom_35 : decode cX4_reachedFrom 35 = .ok (.iload_n 2, 1) := by decide +kernel
theorem dX4_reachedFrom_36 : decode cX4_reachedFrom 36 = .ok (.ireturn, 1) := by decide +kernel
theorem dX4_reachedFromHeads_0 : decode cX4_reachedFromHeads 0 = .ok (.iconst 0, 1) := by decide +kernel
theorem dX4_reachedFromHeads_1 : decode cX4_reachedFromHeads 1 = .ok (.istore_n 1, 1) := by decide +kernel
theorem dX4_reachedFromHeads_2 : decode cX4_reachedFromHeads 2 = .ok (.iconst 0, 1) := by decide +kernel
theorem dX4_reachedFromHeads_3 : decode cX4_reachedFromHeads 3 = .ok (.istore_n 2, 1) := by decide +kernel
theorem dX4_reachedFromHeads_4 : decode cX4_reachedFromHeads 4 = .ok (.iload_n 2, 1) := by decide +kernel
theorem dX4_reachedFromHeads_5 : decode cX4_reachedFromHeads 5 = .ok (.iconst 4, 1) := by decide +kernel
theorem dX4_reachedFromHeads_6 : decode cX4_reachedFromHeads 6 = .ok (.if_icmp .ge 22, 3) := by decide +kernel
theorem dX4_reachedFromHeads_9 : decode cX4_reachedFromHeads 9 = .ok (.iload_n 1, 1) := by decide +kernel
theorem dX4_reachedFromHeads_10 : decode cX4_reachedFromHeads 10 = .ok (.aload_n 0, 1) := by decide +kernel
theorem dX4_reachedFromHeads_11 : decode cX4_reachedFromHeads 11 = .ok (.aload_n 0, 1) := by decide +kernel
theorem dX4_reachedFromHeads_12 : decode cX4_reachedFromHeads 12 = .ok (.getfield 18, 3) := by decide +kernel
theorem dX4_reachedFromHeads_15 : decode cX4_reachedFromHeads 15 = .ok (.iload_n 2, 1) := by decide +kernel
theorem dX4_reachedFromHeads_16 : decode cX4_reachedFromHeads 16 = .ok (.iaload, 1) := by decide +kernel
theorem dX4_reachedFromHeads_17 : decode cX4_reachedFromHeads 17 = .ok (.invokevirtual 80, 3) := by decide +kernel
theorem dX4_reachedFromHeads_20 : decode cX4_reachedFromHeads 20 = .ok (.ior, 1) := by decide +kernel
theorem dX4_reachedFromHeads_21 : decode cX4_reachedFromHeads 21 = .ok (.istore_n 1, 1) := by decide +kernel
theorem dX4_reachedFromHeads_22 : decode cX4_reachedFromHeads 22 = .ok (.iinc 2 1, 3) := by decide +kernel
theorem dX4_reachedFromHeads_25 : decode cX4_reachedFromHeads 25 = .ok (.goto (-21), 3) := by decide +kernel
theorem dX4_reachedFromHeads_28 : decode cX4_reachedFromHeads 28 = .ok (.iload_n 1, 1) := by decide +kernel
theorem dX4_reachedFromHeads_29 : decode cX4_reachedFromHeads 29 = .ok (.ireturn, 1) := by decide +kernel
theorem dX4_parentsOf_0 : decode cX4_parentsOf 0 = .ok (.iconst 0, 1) := by decide +kernel
theorem dX4_parentsOf_1 : decode cX4_parentsOf 1 = .ok (.istore_n 2, 1) := by decide +kernel
theorem dX4_parentsOf_2 : decode cX4_parentsOf 2 = .ok (.iconst 0, 1) := by decide +kernel
theorem dX4_parentsOf_3 : decode cX4_parentsOf 3 = .ok (.istore_n 3, 1) := by decide +kernel
theorem dX4_parentsOf_4 : decode cX4_parentsOf 4 = .ok (.iload_n 3, 1) := by decide +kernel
theorem dX4_parentsOf_5 : decode cX4_parentsOf 5 = .ok (.aload_n 0, 1) := by decide +kernel
theorem dX4_parentsOf_6 : decode cX4_parentsOf 6 = .ok (.getfield 31, 3) := by decide +kernel
theorem dX4_parentsOf_9 : decode cX4_parentsOf 9 = .ok (.if_icmp .ge 52, 3) := by decide +kernel
theorem dX4_parentsOf_12 : decode cX4_parentsOf 12 = .ok (.iload_n 3, 1) := by decide +kernel
theorem dX4_parentsOf_13 : decode cX4_parentsOf 13 = .ok (.bipush 10, 2) := by decide +kernel
theorem dX4_parentsOf_15 : decode cX4_parentsOf 15 = .ok (.if_icmp .ge 46, 3) := by decide +kernel
theorem dX4_parentsOf_18 : decode cX4_parentsOf 18 = .ok (.iload_n 1, 1) := by decide +kernel
theorem dX4_parentsOf_19 : decode cX4_parentsOf 19 = .ok (.iload_n 3, 1) := by decide +kernel
theorem dX4_parentsOf_20 : decode cX4_parentsOf 20 = .ok (.ishr, 1) := by decide +kernel
theorem dX4_parentsOf_21 : decode cX4_parentsOf 21 = .ok (.iconst 1, 1) := by decide +kernel
theorem dX4_parentsOf_22 : decode cX4_parentsOf 22 = .ok (.iand, 1) := by decide +kernel
theorem dX4_parentsOf_23 : decode cX4_parentsOf 23 = .ok (.iconst 1, 1) := by decide +kernel
theorem dX4_parentsOf_24 : decode cX4_parentsOf 24 = .ok (.if_icmp .ne 31, 3) := by decide +kernel
theorem dX4_parentsOf_27 : decode cX4_parentsOf 27 = .ok (.iload_n 2, 1) := by decide +kernel
theorem dX4_parentsOf_28 : decode cX4_parentsOf 28 = .ok (.aload_n 0, 1) := by decide +kernel
theorem dX4_parentsOf_29 : decode cX4_parentsOf 29 = .ok (.getfield 11, 3) := by decide +kernel
theorem dX4_parentsOf_32 : decode cX4_parentsOf 32 = .ok (.iload_n 3, 1) := by decide +kernel
theorem dX4_parentsOf_33 : decode cX4_parentsOf 33 = .ok (.aaload, 1) := by decide +kernel
theorem dX4_parentsOf_34 : decode cX4_parentsOf 34 = .ok (.getfield 74, 3) := by decide +kernel
theorem dX4_parentsOf_37 : decode cX4_parentsOf 37 = .ok (.invokestatic 145, 3) := by decide +kernel
theorem dX4_parentsOf_40 : decode cX4_parentsOf 40 = .ok (.aload_n 0, 1) := by decide +kernel
theorem dX4_parentsOf_41 : decode cX4_parentsOf 41 = .ok (.getfield 11, 3) := by decide +kernel
theorem dX4_parentsOf_44 : decode cX4_parentsOf 44 = .ok (.iload_n 3, 1) := by decide +kernel
theorem dX4_parentsOf_45 : decode cX4_parentsOf 45 = .ok (.aaload, 1) := by decide +kernel
theorem dX4_parentsOf_46 : decode cX4_parentsOf 46 = .ok (.getfield 77, 3) := by decide +kernel
theorem dX4_parentsOf_49 : decode cX4_parentsOf 49 = .ok (.invokestatic 145, 3) := by decide +kernel
theorem dX4_parentsOf_52 : decode cX4_parentsOf 52 = .ok (.ior, 1) := by decide +kernel
theorem dX4_parentsOf_53 : decode cX4_parentsOf 53 = .ok (.ior, 1) := by decide +kernel
theorem dX4_parentsOf_54 : decode cX4_parentsOf 54 = .ok (.istore_n 2, 1) := by decide +kernel
theorem dX4_parentsOf_55 : decode cX4_parentsOf 55 = .ok (.iinc 3 1, 3) := by decide +kernel
theorem dX4_parentsOf_58 : decode cX4_parentsOf 58 = .ok (.goto (-54), 3) := by decide +kernel
theorem dX4_parentsOf_61 : decode cX4_parentsOf 61 = .ok (.iload_n 2, 1) := by decide +kernel
theorem dX4_parentsOf_62 : decode cX4_parentsOf 62 = .ok (.ireturn, 1) := by decide +kernel
theorem dX4_bitOf_0 : decode cX4_bitOf 0 = .ok (.iload_n 0, 1) := by decide +kernel
theorem dX4_bitOf_1 : decode cX4_bitOf 1 = .ok (.iconst (-1), 1) := by decide +kernel
theorem dX4_bitOf_2 : decode cX4_bitOf 2 = .ok (.if_icmp .ne 7, 3) := by decide +kernel
theorem dX4_bitOf_5 : decode cX4_bitOf 5 = .ok (.iconst 0, 1) := by decide +kernel
theorem dX4_bitOf_6 : decode cX4_bitOf 6 = .ok (.goto 6, 3) := by decide +kernel
theorem dX4_bitOf_9 : decode cX4_bitOf 9 = .ok (.iconst 1, 1) := by decide +kernel
theorem dX4_bitOf_10 : decode cX4_bitOf 10 = .ok (.iload_n 0, 1) := by decide +kernel
theorem dX4_bitOf_11 : decode cX4_bitOf 11 = .ok (.ishl, 1) := by decide +kernel
theorem dX4_bitOf_12 : decode cX4_bitOf 12 = .ok (.ireturn, 1) := by decide +kernel
theorem dX4_neededBy_0 : decode cX4_neededBy 0 = .ok (.iconst 0, 1) := by decide +kernel
theorem dX4_neededBy_1 : decode cX4_neededBy 1 = .ok (.istore_n 2, 1) := by decide +kernel
theorem dX4_neededBy_2 : decode cX4_neededBy 2 = .ok (.iload_n 1, 1) := by decide +kernel
theorem dX4_neededBy_3 : decode cX4_neededBy 3 = .ok (.istore_n 3, 1) := by decide +kernel
theorem dX4_neededBy_4 : decode cX4_neededBy 4 = .ok (.iconst 0, 1) := by decide +kernel
theorem dX4_neededBy_5 : decode cX4_neededBy 5 = .ok (.istore 4, 2) := by decide +kernel
theorem dX4_neededBy_7 : decode cX4_neededBy 7 = .ok (.iload 4, 2) := by decide +kernel
theorem dX4_neededBy_9 : decode cX4_neededBy 9 = .ok (.bipush 10, 2) := by decide +kernel
theorem dX4_neededBy_11 : decode cX4_neededBy 11 = .ok (.if_icmp .ge 33, 3) := by decide +kernel
theorem dX4_neededBy_14 : decode cX4_neededBy 14 = .ok (.aload_n 0, 1) := by decide +kernel
theorem dX4_neededBy_15 : decode cX4_neededBy 15 = .ok (.iload_n 3, 1) := by decide +kernel
theorem dX4_neededBy_16 : decode cX4_neededBy 16 = .ok (.invokevirtual 57, 3) := by decide +kernel
theorem dX4_neededBy_19 : decode cX4_neededBy 19 = .ok (.ifCond .eq 25, 3) := by decide +kernel
theorem dX4_neededBy_22 : decode cX4_neededBy 22 = .ok (.iload_n 2, 1) := by decide +kernel
theorem dX4_neededBy_23 : decode cX4_neededBy 23 = .ok (.iconst 1, 1) := by decide +kernel
theorem dX4_neededBy_24 : decode cX4_neededBy 24 = .ok (.iload_n 3, 1) := by decide +kernel
theorem dX4_neededBy_25 : decode cX4_neededBy 25 = .ok (.ishl, 1) := by decide +kernel
theorem dX4_neededBy_26 : decode cX4_neededBy 26 = .ok (.ior, 1) := by decide +kernel
theorem dX4_neededBy_27 : decode cX4_neededBy 27 = .ok (.istore_n 2, 1) := by decide +kernel
theorem dX4_neededBy_28 : decode cX4_neededBy 28 = .ok (.aload_n 0, 1) := by decide +kernel
theorem dX4_neededBy_29 : decode cX4_neededBy 29 = .ok (.getfield 11, 3) := by decide +kernel
theorem dX4_neededBy_32 : decode cX4_neededBy 32 = .ok (.iload_n 3, 1) := by decide +kernel
theorem dX4_neededBy_33 : decode cX4_neededBy 33 = .ok (.aaload, 1) := by decide +kernel
theorem dX4_neededBy_34 : decode cX4_neededBy 34 = .ok (.getfield 87, 3) := by decide +kernel
theorem dX4_neededBy_37 : decode cX4_neededBy 37 = .ok (.istore_n 3, 1) := by decide +kernel
theorem dX4_neededBy_38 : decode cX4_neededBy 38 = .ok (.iinc 4 1, 3) := by decide +kernel
theorem dX4_neededBy_41 : decode cX4_neededBy 41 = .ok (.goto (-34), 3) := by decide +kernel
theorem dX4_neededBy_44 : decode cX4_neededBy 44 = .ok (.iload_n 2, 1) := by decide +kernel
theorem dX4_neededBy_45 : decode cX4_neededBy 45 = .ok (.ireturn, 1) := by decide +kernel
theorem dX4_depthOf_0 : decode cX4_depthOf 0 = .ok (.aload_n 0, 1) := by decide +kernel
theorem dX4_depthOf_1 : decode cX4_depthOf 1 = .ok (.iload_n 1, 1) := by decide +kernel
theorem dX4_depthOf_2 : decode cX4_depthOf 2 = .ok (.invokevirtual 148, 3) := by decide +kernel
theorem dX4_depthOf_5 : decode cX4_depthOf 5 = .ok (.invokestatic 140, 3) := by decide +kernel
theorem dX4_depthOf_8 : decode cX4_depthOf 8 = .ok (.iconst 1, 1) := by decide +kernel
theorem dX4_depthOf_9 : decode cX4_depthOf 9 = .ok (.isub, 1) := by decide +kernel
theorem dX4_depthOf_10 : decode cX4_depthOf 10 = .ok (.ireturn, 1) := by decide +kernel
theorem dX4_greatestDepth_0 : decode cX4_greatestDepth 0 = .ok (.iconst 0, 1) := by decide +kernel
theorem dX4_greatestDepth_1 : decode cX4_greatestDepth 1 = .ok (.istore_n 1, 1) := by decide +kernel
theorem dX4_greatestDepth_2 : decode cX4_greatestDepth 2 = .ok (.iconst 0, 1) := by decide +kernel
theorem dX4_greatestDepth_3 : decode cX4_greatestDepth 3 = .ok (.istore_n 2, 1) := by decide +kernel
theorem dX4_greatestDepth_4 : decode cX4_greatestDepth 4 = .ok (.iload_n 2, 1) := by decide +kernel
theorem dX4_greatestDepth_5 : decode cX4_greatestDepth 5 = .ok (.aload_n 0, 1) := by decide +kernel
theorem dX4_greatestDepth_6 : decode cX4_greatestDepth 6 = .ok (.getfield 31, 3) := by decide +kernel
theorem dX4_greatestDepth_9 : decode cX4_greatestDepth 9 = .ok (.if_icmp .ge 27, 3) := by decide +kernel
theorem dX4_greatestDepth_12 : decode cX4_greatestDepth 12 = .ok (.aload_n 0, 1) := by decide +kernel
theorem dX4_greatestDepth_13 : decode cX4_greatestDepth 13 = .ok (.iload_n 2, 1) := by decide +kernel
theorem dX4_greatestDepth_14 : decode cX4_greatestDepth 14 = .ok (.invokevirtual 57, 3) := by decide +kernel
theorem dX4_greatestDepth_17 : decode cX4_greatestDepth 17 = .ok (.ifCond .eq 13, 3) := by decide +kernel
theorem dX4_greatestDepth_20 : decode cX4_greatestDepth 20 = .ok (.iload_n 1, 1) := by decide +kernel
theorem dX4_greatestDepth_21 : decode cX4_greatestDepth 21 = .ok (.aload_n 0, 1) := by decide +kernel
theorem dX4_greatestDepth_22 : decode cX4_greatestDepth 22 = .ok (.iload_n 2, 1) := by decide +kernel
theorem dX4_greatestDepth_23 : decode cX4_greatestDepth 23 = .ok (.invokevirtual 110, 3) := by decide +kernel
theorem dX4_greatestDepth_26 : decode cX4_greatestDepth 26 = .ok (.invokestatic 151, 3) := by decide +kernel
theorem dX4_greatestDepth_29 : decode cX4_greatestDepth 29 = .ok (.istore_n 1, 1) := by decide +kernel
theorem dX4_greatestDepth_30 : decode cX4_greatestDepth 30 = .ok (.iinc 2 1, 3) := by decide +kernel
theorem dX4_greatestDepth_33 : decode cX4_greatestDepth 33 = .ok (.goto (-29), 3) := by decide +kernel
theorem dX4_greatestDepth_36 : decode cX4_greatestDepth 36 = .ok (.iload_n 1, 1) := by decide +kernel
theorem dX4_greatestDepth_37 : decode cX4_greatestDepth 37 = .ok (.ireturn, 1) := by decide +kernel
theorem dX4_costOfAll_0 : decode cX4_costOfAll 0 = .ok (.iconst 0, 1) := by decide +kernel
theorem dX4_costOfAll_1 : decode cX4_costOfAll 1 = .ok (.istore_n 1, 1) := by decide +kernel
theorem dX4_costOfAll_2 : decode cX4_costOfAll 2 = .ok (.iconst 0, 1) := by decide +kernel
theorem dX4_costOfAll_3 : decode cX4_costOfAll 3 = .ok (.istore_n 2, 1) := by decide +kernel
theorem dX4_costOfAll_4 : decode cX4_costOfAll 4 = .ok (.iload_n 2, 1) := by decide +kernel
theorem dX4_costOfAll_5 : decode cX4_costOfAll 5 = .ok (.aload_n 0, 1) := by decide +kernel
theorem dX4_costOfAll_6 : decode cX4_costOfAll 6 = .ok (.getfield 31, 3) := by decide +kernel
theorem dX4_costOfAll_9 : decode cX4_costOfAll 9 = .ok (.if_icmp .ge 29, 3) := by decide +kernel
theorem dX4_costOfAll_12 : decode cX4_costOfAll 12 = .ok (.aload_n 0, 1) := by decide +kernel
theorem dX4_costOfAll_13 : decode cX4_costOfAll 13 = .ok (.iload_n 2, 1) := by decide +kernel
theorem dX4_costOfAll_14 : decode cX4_costOfAll 14 = .ok (.invokevirtual 57, 3) := by decide +kernel
theorem dX4_costOfAll_17 : decode cX4_costOfAll 17 = .ok (.ifCond .eq 15, 3) := by decide +kernel
theorem dX4_costOfAll_20 : decode cX4_costOfAll 20 = .ok (.iload_n 1, 1) := by decide +kernel
theorem dX4_costOfAll_21 : decode cX4_costOfAll 21 = .ok (.aload_n 0, 1) := by decide +kernel
theorem dX4_costOfAll_22 : decode cX4_costOfAll 22 = .ok (.getfield 11, 3) := by decide +kernel
theorem dX4_costOfAll_25 : decode cX4_costOfAll 25 = .ok (.iload_n 2, 1) := by decide +kernel
theorem dX4_costOfAll_26 : decode cX4_costOfAll 26 = .ok (.aaload, 1) := by decide +kernel
theorem dX4_costOfAll_27 : decode cX4_costOfAll 27 = .ok (.invokevirtual 157, 3) := by decide +kernel
theorem dX4_costOfAll_30 : decode cX4_costOfAll 30 = .ok (.iadd, 1) := by decide +kernel
theorem dX4_costOfAll_31 : decode cX4_costOfAll 31 = .ok (.istore_n 1, 1) := by decide +kernel
theorem dX4_costOfAll_32 : decode cX4_costOfAll 32 = .ok (.iinc 2 1, 3) := by decide +kernel
theorem dX4_costOfAll_35 : decode cX4_costOfAll 35 = .ok (.goto (-31), 3) := by decide +kernel
theorem dX4_costOfAll_38 : decode cX4_costOfAll 38 = .ok (.iload_n 1, 1) := by decide +kernel
theorem dX4_costOfAll_39 : decode cX4_costOfAll 39 = .ok (.ireturn, 1) := by decide +kernel
theorem dX4_wholes_0 : decode cX4_wholes 0 = .ok (.iconst 0, 1) := by decide +kernel
theorem dX4_wholes_1 : decode cX4_wholes 1 = .ok (.istore_n 1, 1) := by decide +kernel
theorem dX4_wholes_2 : decode cX4_wholes 2 = .ok (.iconst 0, 1) := by decide +kernel
theorem dX4_wholes_3 : decode cX4_wholes 3 = .ok (.istore_n 2, 1) := by decide +kernel
theorem dX4_wholes_4 : decode cX4_wholes 4 = .ok (.iload_n 2, 1) := by decide +kernel
theorem dX4_wholes_5 : decode cX4_wholes 5 = .ok (.aload_n 0, 1) := by decide +kernel
theorem dX4_wholes_6 : decode cX4_wholes 6 = .ok (.getfield 31, 3) := by decide +kernel
theorem dX4_wholes_9 : decode cX4_wholes 9 = .ok (.if_icmp .ge 35, 3) := by decide +kernel
theorem dX4_wholes_12 : decode cX4_wholes 12 = .ok (.aload_n 0, 1) := by decide +kernel
theorem dX4_wholes_13 : decode cX4_wholes 13 = .ok (.iload_n 2, 1) := by decide +kernel
theorem dX4_wholes_14 : decode cX4_wholes 14 = .ok (.invokevirtual 57, 3) := by decide +kernel
theorem dX4_wholes_17 : decode cX4_wholes 17 = .ok (.ifCond .eq 21, 3) := by decide +kernel
theorem dX4_wholes_20 : decode cX4_wholes 20 = .ok (.aload_n 0, 1) := by decide +kernel
theorem dX4_wholes_21 : decode cX4_wholes 21 = .ok (.getfield 11, 3) := by decide +kernel
theorem dX4_wholes_24 : decode cX4_wholes 24 = .ok (.iload_n 2, 1) := by decide +kernel
theorem dX4_wholes_25 : decode cX4_wholes 25 = .ok (.aaload, 1) := by decide +kernel
theorem dX4_wholes_26 : decode cX4_wholes 26 = .ok (.invokevirtual 160, 3) := by decide +kernel
theorem dX4_wholes_29 : decode cX4_wholes 29 = .ok (.ifCond .eq 9, 3) := by decide +kernel
theorem dX4_wholes_32 : decode cX4_wholes 32 = .ok (.iload_n 1, 1) := by decide +kernel
theorem dX4_wholes_33 : decode cX4_wholes 33 = .ok (.iconst 1, 1) := by decide +kernel
theorem dX4_wholes_34 : decode cX4_wholes 34 = .ok (.iload_n 2, 1) := by decide +kernel
theorem dX4_wholes_35 : decode cX4_wholes 35 = .ok (.ishl, 1) := by decide +kernel
theorem dX4_wholes_36 : decode cX4_wholes 36 = .ok (.ior, 1) := by decide +kernel
theorem dX4_wholes_37 : decode cX4_wholes 37 = .ok (.istore_n 1, 1) := by decide +kernel
end
section
theorem dX4_wholes_38 : decode cX4_wholes 38 = .ok (.iinc 2 1, 3) := by decide +kernel
theorem dX4_wholes_41 : decode cX4_wholes 41 = .ok (.goto (-37), 3) := by decide +kernel
theorem dX4_wholes_44 : decode cX4_wholes 44 = .ok (.iload_n 1, 1) := by decide +kernel
theorem dX4_wholes_45 : decode cX4_wholes 45 = .ok (.ireturn, 1) := by decide +kernel
theorem dX4_leastTwin_0 : decode cX4_leastTwin 0 = .ok (.iconst 0, 1) := by decide +kernel
theorem dX4_leastTwin_1 : decode cX4_leastTwin 1 = .ok (.istore_n 2, 1) := by decide +kernel
theorem dX4_leastTwin_2 : decode cX4_leastTwin 2 = .ok (.iload_n 2, 1) := by decide +kernel
theorem dX4_leastTwin_3 : decode cX4_leastTwin 3 = .ok (.iload_n 1, 1) := by decide +kernel
theorem dX4_leastTwin_4 : decode cX4_leastTwin 4 = .ok (.if_icmp .ge 43, 3) := by decide +kernel
theorem dX4_leastTwin_7 : decode cX4_leastTwin 7 = .ok (.aload_n 0, 1) := by decide +kernel
theorem dX4_leastTwin_8 : decode cX4_leastTwin 8 = .ok (.iload_n 2, 1) := by decide +kernel
theorem dX4_leastTwin_9 : decode cX4_leastTwin 9 = .ok (.invokevirtual 57, 3) := by decide +kernel
theorem dX4_leastTwin_12 : decode cX4_leastTwin 12 = .ok (.ifCond .eq 29, 3) := by decide +kernel
theorem dX4_leastTwin_15 : decode cX4_leastTwin 15 = .ok (.aload_n 0, 1) := by decide +kernel
theorem dX4_leastTwin_16 : decode cX4_leastTwin 16 = .ok (.getfield 11, 3) := by decide +kernel
theorem dX4_leastTwin_19 : decode cX4_leastTwin 19 = .ok (.iload_n 2, 1) := by decide +kernel
theorem dX4_leastTwin_20 : decode cX4_leastTwin 20 = .ok (.aaload, 1) := by decide +kernel
theorem dX4_leastTwin_21 : decode cX4_leastTwin 21 = .ok (.getfield 61, 3) := by decide +kernel
theorem dX4_leastTwin_24 : decode cX4_leastTwin 24 = .ok (.aload_n 0, 1) := by decide +kernel
theorem dX4_leastTwin_25 : decode cX4_leastTwin 25 = .ok (.getfield 11, 3) := by decide +kernel
theorem dX4_leastTwin_28 : decode cX4_leastTwin 28 = .ok (.iload_n 1, 1) := by decide +kernel
theorem dX4_leastTwin_29 : decode cX4_leastTwin 29 = .ok (.aaload, 1) := by decide +kernel
theorem dX4_leastTwin_30 : decode cX4_leastTwin 30 = .ok (.getfield 61, 3) := by decide +kernel
theorem dX4_leastTwin_33 : decode cX4_leastTwin 33 = .ok (.invokevirtual 164, 3) := by decide +kernel
theorem dX4_leastTwin_36 : decode cX4_leastTwin 36 = .ok (.ifCond .eq 5, 3) := by decide +kernel
theorem dX4_leastTwin_39 : decode cX4_leastTwin 39 = .ok (.iload_n 2, 1) := by decide +kernel
theorem dX4_leastTwin_40 : decode cX4_leastTwin 40 = .ok (.ireturn, 1) := by decide +kernel
theorem dX4_leastTwin_41 : decode cX4_leastTwin 41 = .ok (.iinc 2 1, 3) := by decide +kernel
theorem dX4_leastTwin_44 : decode cX4_leastTwin 44 = .ok (.goto (-42), 3) := by decide +kernel
theorem dX4_leastTwin_47 : decode cX4_leastTwin 47 = .ok (.iload_n 1, 1) := by decide +kernel
theorem dX4_leastTwin_48 : decode cX4_leastTwin 48 = .ok (.ireturn, 1) := by decide +kernel
theorem dX4_contents_0 : decode cX4_contents 0 = .ok (.iconst 0, 1) := by decide +kernel
theorem dX4_contents_1 : decode cX4_contents 1 = .ok (.istore_n 1, 1) := by decide +kernel
theorem dX4_contents_2 : decode cX4_contents 2 = .ok (.iconst 0, 1) := by decide +kernel
theorem dX4_contents_3 : decode cX4_contents 3 = .ok (.istore_n 2, 1) := by decide +kernel
theorem dX4_contents_4 : decode cX4_contents 4 = .ok (.iload_n 2, 1) := by decide +kernel
theorem dX4_contents_5 : decode cX4_contents 5 = .ok (.aload_n 0, 1) := by decide +kernel
theorem dX4_contents_6 : decode cX4_contents 6 = .ok (.getfield 31, 3) := by decide +kernel
theorem dX4_contents_9 : decode cX4_contents 9 = .ok (.if_icmp .ge 29, 3) := by decide +kernel
theorem dX4_contents_12 : decode cX4_contents 12 = .ok (.aload_n 0, 1) := by decide +kernel
theorem dX4_contents_13 : decode cX4_contents 13 = .ok (.iload_n 2, 1) := by decide +kernel
theorem dX4_contents_14 : decode cX4_contents 14 = .ok (.invokevirtual 57, 3) := by decide +kernel
theorem dX4_contents_17 : decode cX4_contents 17 = .ok (.ifCond .eq 15, 3) := by decide +kernel
theorem dX4_contents_20 : decode cX4_contents 20 = .ok (.aload_n 0, 1) := by decide +kernel
theorem dX4_contents_21 : decode cX4_contents 21 = .ok (.iload_n 2, 1) := by decide +kernel
theorem dX4_contents_22 : decode cX4_contents 22 = .ok (.invokevirtual 168, 3) := by decide +kernel
theorem dX4_contents_25 : decode cX4_contents 25 = .ok (.iload_n 2, 1) := by decide +kernel
theorem dX4_contents_26 : decode cX4_contents 26 = .ok (.if_icmp .ne 6, 3) := by decide +kernel
theorem dX4_contents_29 : decode cX4_contents 29 = .ok (.iinc 1 1, 3) := by decide +kernel
theorem dX4_contents_32 : decode cX4_contents 32 = .ok (.iinc 2 1, 3) := by decide +kernel
theorem dX4_contents_35 : decode cX4_contents 35 = .ok (.goto (-31), 3) := by decide +kernel
theorem dX4_contents_38 : decode cX4_contents 38 = .ok (.iload_n 1, 1) := by decide +kernel
theorem dX4_contents_39 : decode cX4_contents 39 = .ok (.ireturn, 1) := by decide +kernel
theorem dX4_sentWhole_0 : decode cX4_sentWhole 0 = .ok (.iconst 0, 1) := by decide +kernel
theorem dX4_sentWhole_1 : decode cX4_sentWhole 1 = .ok (.istore_n 3, 1) := by decide +kernel
theorem dX4_sentWhole_2 : decode cX4_sentWhole 2 = .ok (.iconst 0, 1) := by decide +kernel
theorem dX4_sentWhole_3 : decode cX4_sentWhole 3 = .ok (.istore 4, 2) := by decide +kernel
theorem dX4_sentWhole_5 : decode cX4_sentWhole 5 = .ok (.iload 4, 2) := by decide +kernel
theorem dX4_sentWhole_7 : decode cX4_sentWhole 7 = .ok (.aload_n 0, 1) := by decide +kernel
theorem dX4_sentWhole_8 : decode cX4_sentWhole 8 = .ok (.getfield 31, 3) := by decide +kernel
theorem dX4_sentWhole_11 : decode cX4_sentWhole 11 = .ok (.if_icmp .ge 62, 3) := by decide +kernel
theorem dX4_sentWhole_14 : decode cX4_sentWhole 14 = .ok (.iload_n 1, 1) := by decide +kernel
theorem dX4_sentWhole_15 : decode cX4_sentWhole 15 = .ok (.iload 4, 2) := by decide +kernel
theorem dX4_sentWhole_17 : decode cX4_sentWhole 17 = .ok (.ishr, 1) := by decide +kernel
theorem dX4_sentWhole_18 : decode cX4_sentWhole 18 = .ok (.iconst 1, 1) := by decide +kernel
theorem dX4_sentWhole_19 : decode cX4_sentWhole 19 = .ok (.iand, 1) := by decide +kernel
theorem dX4_sentWhole_20 : decode cX4_sentWhole 20 = .ok (.iconst 1, 1) := by decide +kernel
theorem dX4_sentWhole_21 : decode cX4_sentWhole 21 = .ok (.if_icmp .ne 46, 3) := by decide +kernel
theorem dX4_sentWhole_24 : decode cX4_sentWhole 24 = .ok (.aload_n 0, 1) := by decide +kernel
theorem dX4_sentWhole_25 : decode cX4_sentWhole 25 = .ok (.iload 4, 2) := by decide +kernel
theorem dX4_sentWhole_27 : decode cX4_sentWhole 27 = .ok (.invokevirtual 57, 3) := by decide +kernel
theorem dX4_sentWhole_30 : decode cX4_sentWhole 30 = .ok (.ifCond .eq 37, 3) := by decide +kernel
theorem dX4_sentWhole_33 : decode cX4_sentWhole 33 = .ok (.aload_n 0, 1) := by decide +kernel
theorem dX4_sentWhole_34 : decode cX4_sentWhole 34 = .ok (.getfield 11, 3) := by decide +kernel
theorem dX4_sentWhole_37 : decode cX4_sentWhole 37 = .ok (.iload 4, 2) := by decide +kernel
theorem dX4_sentWhole_39 : decode cX4_sentWhole 39 = .ok (.aaload, 1) := by decide +kernel
theorem dX4_sentWhole_40 : decode cX4_sentWhole 40 = .ok (.getfield 87, 3) := by decide +kernel
theorem dX4_sentWhole_43 : decode cX4_sentWhole 43 = .ok (.istore 5, 2) := by decide +kernel
theorem dX4_sentWhole_45 : decode cX4_sentWhole 45 = .ok (.iload 5, 2) := by decide +kernel
theorem dX4_sentWhole_47 : decode cX4_sentWhole 47 = .ok (.iconst (-1), 1) := by decide +kernel
theorem dX4_sentWhole_48 : decode cX4_sentWhole 48 = .ok (.if_icmp .eq 19, 3) := by decide +kernel
theorem dX4_sentWhole_51 : decode cX4_sentWhole 51 = .ok (.iload_n 2, 1) := by decide +kernel
theorem dX4_sentWhole_52 : decode cX4_sentWhole 52 = .ok (.iload 5, 2) := by decide +kernel
theorem dX4_sentWhole_54 : decode cX4_sentWhole 54 = .ok (.ishr, 1) := by decide +kernel
theorem dX4_sentWhole_55 : decode cX4_sentWhole 55 = .ok (.iconst 1, 1) := by decide +kernel
theorem dX4_sentWhole_56 : decode cX4_sentWhole 56 = .ok (.iand, 1) := by decide +kernel
theorem dX4_sentWhole_57 : decode cX4_sentWhole 57 = .ok (.ifCond .ne 10, 3) := by decide +kernel
theorem dX4_sentWhole_60 : decode cX4_sentWhole 60 = .ok (.iload_n 3, 1) := by decide +kernel
theorem dX4_sentWhole_61 : decode cX4_sentWhole 61 = .ok (.iconst 1, 1) := by decide +kernel
theorem dX4_sentWhole_62 : decode cX4_sentWhole 62 = .ok (.iload 4, 2) := by decide +kernel
theorem dX4_sentWhole_64 : decode cX4_sentWhole 64 = .ok (.ishl, 1) := by decide +kernel
theorem dX4_sentWhole_65 : decode cX4_sentWhole 65 = .ok (.ior, 1) := by decide +kernel
theorem dX4_sentWhole_66 : decode cX4_sentWhole 66 = .ok (.istore_n 3, 1) := by decide +kernel
theorem dX4_sentWhole_67 : decode cX4_sentWhole 67 = .ok (.iinc 4 1, 3) := by decide +kernel
theorem dX4_sentWhole_70 : decode cX4_sentWhole 70 = .ok (.goto (-65), 3) := by decide +kernel
theorem dX4_sentWhole_73 : decode cX4_sentWhole 73 = .ok (.iload_n 3, 1) := by decide +kernel
theorem dX4_sentWhole_74 : decode cX4_sentWhole 74 = .ok (.ireturn, 1) := by decide +kernel
theorem dX4_costOfSending_0 : decode cX4_costOfSending 0 = .ok (.aload_n 0, 1) := by decide +kernel
theorem dX4_costOfSending_1 : decode cX4_costOfSending 1 = .ok (.iload_n 1, 1) := by decide +kernel
theorem dX4_costOfSending_2 : decode cX4_costOfSending 2 = .ok (.iload_n 2, 1) := by decide +kernel
theorem dX4_costOfSending_3 : decode cX4_costOfSending 3 = .ok (.invokevirtual 171, 3) := by decide +kernel
theorem dX4_costOfSending_6 : decode cX4_costOfSending 6 = .ok (.istore_n 3, 1) := by decide +kernel
theorem dX4_costOfSending_7 : decode cX4_costOfSending 7 = .ok (.iconst 0, 1) := by decide +kernel
theorem dX4_costOfSending_8 : decode cX4_costOfSending 8 = .ok (.istore 4, 2) := by decide +kernel
theorem dX4_costOfSending_10 : decode cX4_costOfSending 10 = .ok (.iconst 0, 1) := by decide +kernel
theorem dX4_costOfSending_11 : decode cX4_costOfSending 11 = .ok (.istore 5, 2) := by decide +kernel
theorem dX4_costOfSending_13 : decode cX4_costOfSending 13 = .ok (.iload 5, 2) := by decide +kernel
theorem dX4_costOfSending_15 : decode cX4_costOfSending 15 = .ok (.aload_n 0, 1) := by decide +kernel
theorem dX4_costOfSending_16 : decode cX4_costOfSending 16 = .ok (.getfield 31, 3) := by decide +kernel
theorem dX4_costOfSending_19 : decode cX4_costOfSending 19 = .ok (.if_icmp .ge 66, 3) := by decide +kernel
theorem dX4_costOfSending_22 : decode cX4_costOfSending 22 = .ok (.iload_n 1, 1) := by decide +kernel
theorem dX4_costOfSending_23 : decode cX4_costOfSending 23 = .ok (.iload 5, 2) := by decide +kernel
theorem dX4_costOfSending_25 : decode cX4_costOfSending 25 = .ok (.ishr, 1) := by decide +kernel
theorem dX4_costOfSending_26 : decode cX4_costOfSending 26 = .ok (.iconst 1, 1) := by decide +kernel
theorem dX4_costOfSending_27 : decode cX4_costOfSending 27 = .ok (.iand, 1) := by decide +kernel
theorem dX4_costOfSending_28 : decode cX4_costOfSending 28 = .ok (.iconst 1, 1) := by decide +kernel
theorem dX4_costOfSending_29 : decode cX4_costOfSending 29 = .ok (.if_icmp .ne 50, 3) := by decide +kernel
theorem dX4_costOfSending_32 : decode cX4_costOfSending 32 = .ok (.aload_n 0, 1) := by decide +kernel
theorem dX4_costOfSending_33 : decode cX4_costOfSending 33 = .ok (.iload 5, 2) := by decide +kernel
theorem dX4_costOfSending_35 : decode cX4_costOfSending 35 = .ok (.invokevirtual 57, 3) := by decide +kernel
theorem dX4_costOfSending_38 : decode cX4_costOfSending 38 = .ok (.ifCond .eq 41, 3) := by decide +kernel
theorem dX4_costOfSending_41 : decode cX4_costOfSending 41 = .ok (.iload 4, 2) := by decide +kernel
theorem dX4_costOfSending_43 : decode cX4_costOfSending 43 = .ok (.iload_n 3, 1) := by decide +kernel
theorem dX4_costOfSending_44 : decode cX4_costOfSending 44 = .ok (.iload 5, 2) := by decide +kernel
theorem dX4_costOfSending_46 : decode cX4_costOfSending 46 = .ok (.ishr, 1) := by decide +kernel
theorem dX4_costOfSending_47 : decode cX4_costOfSending 47 = .ok (.iconst 1, 1) := by decide +kernel
theorem dX4_costOfSending_48 : decode cX4_costOfSending 48 = .ok (.iand, 1) := by decide +kernel
theorem dX4_costOfSending_49 : decode cX4_costOfSending 49 = .ok (.iconst 1, 1) := by decide +kernel
theorem dX4_costOfSending_50 : decode cX4_costOfSending 50 = .ok (.if_icmp .ne 16, 3) := by decide +kernel
theorem dX4_costOfSending_53 : decode cX4_costOfSending 53 = .ok (.aload_n 0, 1) := by decide +kernel
theorem dX4_costOfSending_54 : decode cX4_costOfSending 54 = .ok (.getfield 11, 3) := by decide +kernel
theorem dX4_costOfSending_57 : decode cX4_costOfSending 57 = .ok (.iload 5, 2) := by decide +kernel
theorem dX4_costOfSending_59 : decode cX4_costOfSending 59 = .ok (.aaload, 1) := by decide +kernel
theorem dX4_costOfSending_60 : decode cX4_costOfSending 60 = .ok (.invokevirtual 174, 3) := by decide +kernel
theorem dX4_costOfSending_63 : decode cX4_costOfSending 63 = .ok (.goto 13, 3) := by decide +kernel
theorem dX4_costOfSending_66 : decode cX4_costOfSending 66 = .ok (.aload_n 0, 1) := by decide +kernel
theorem dX4_costOfSending_67 : decode cX4_costOfSending 67 = .ok (.getfield 11, 3) := by decide +kernel
theorem dX4_costOfSending_70 : decode cX4_costOfSending 70 = .ok (.iload 5, 2) := by decide +kernel
theorem dX4_costOfSending_72 : decode cX4_costOfSending 72 = .ok (.aaload, 1) := by decide +kernel
theorem dX4_costOfSending_73 : decode cX4_costOfSending 73 = .ok (.invokevirtual 157, 3) := by decide +kernel
theorem dX4_costOfSending_76 : decode cX4_costOfSending 76 = .ok (.iadd, 1) := by decide +kernel
theorem dX4_costOfSending_77 : decode cX4_costOfSending 77 = .ok (.istore 4, 2) := by decide +kernel
theorem dX4_costOfSending_79 : decode cX4_costOfSending 79 = .ok (.iinc 5 1, 3) := by decide +kernel
theorem dX4_costOfSending_82 : decode cX4_costOfSending 82 = .ok (.goto (-69), 3) := by decide +kernel
theorem dX4_costOfSending_85 : decode cX4_costOfSending 85 = .ok (.iload 4, 2) := by decide +kernel
theorem dX4_costOfSending_87 : decode cX4_costOfSending 87 = .ok (.ireturn, 1) := by decide +kernel
theorem dX5_init_0 : decode cX5_init 0 = .ok (.aload_n 0, 1) := by decide +kernel
theorem dX5_init_1 : decode cX5_init 1 = .ok (.invokespecial 3, 3) := by decide +kernel
theorem dX5_init_4 : decode cX5_init 4 = .ok (.aload_n 0, 1) := by decide +kernel
theorem dX5_init_5 : decode cX5_init 5 = .ok (.new 9, 3) := by decide +kernel
theorem dX5_init_8 : decode cX5_init 8 = .ok (.dup, 1) := by decide +kernel
theorem dX5_init_9 : decode cX5_init 9 = .ok (.bipush 96, 2) := by decide +kernel
theorem dX5_init_11 : decode cX5_init 11 = .ok (.invokespecial 11, 3) := by decide +kernel
theorem dX5_init_14 : decode cX5_init 14 = .ok (.putfield 14, 3) := by decide +kernel
theorem dX5_init_17 : decode cX5_init 17 = .ok (.aload_n 0, 1) := by decide +kernel
theorem dX5_init_18 : decode cX5_init 18 = .ok (.new 9, 3) := by decide +kernel
theorem dX5_init_21 : decode cX5_init 21 = .ok (.dup, 1) := by decide +kernel
theorem dX5_init_22 : decode cX5_init 22 = .ok (.bipush 12, 2) := by decide +kernel
theorem dX5_init_24 : decode cX5_init 24 = .ok (.invokespecial 11, 3) := by decide +kernel
theorem dX5_init_27 : decode cX5_init 27 = .ok (.putfield 20, 3) := by decide +kernel
theorem dX5_init_30 : decode cX5_init 30 = .ok (.return_, 1) := by decide +kernel
theorem dX5_placeOfFault_0 : decode cX5_placeOfFault 0 = .ok (.iconst 0, 1) := by decide +kernel
theorem dX5_placeOfFault_1 : decode cX5_placeOfFault 1 = .ok (.istore_n 1, 1) := by decide +kernel
theorem dX5_placeOfFault_2 : decode cX5_placeOfFault 2 = .ok (.iconst 0, 1) := by decide +kernel
theorem dX5_placeOfFault_3 : decode cX5_placeOfFault 3 = .ok (.istore_n 2, 1) := by decide +kernel
theorem dX5_placeOfFault_4 : decode cX5_placeOfFault 4 = .ok (.iload_n 2, 1) := by decide +kernel
theorem dX5_placeOfFault_5 : decode cX5_placeOfFault 5 = .ok (.aload_n 0, 1) := by decide +kernel
theorem dX5_placeOfFault_6 : decode cX5_placeOfFault 6 = .ok (.getfield 14, 3) := by decide +kernel
theorem dX5_placeOfFault_9 : decode cX5_placeOfFault 9 = .ok (.getfield 23, 3) := by decide +kernel
theorem dX5_placeOfFault_12 : decode cX5_placeOfFault 12 = .ok (.if_icmp .gt 41, 3) := by decide +kernel
theorem dX5_placeOfFault_15 : decode cX5_placeOfFault 15 = .ok (.aload_n 0, 1) := by decide +kernel
theorem dX5_placeOfFault_16 : decode cX5_placeOfFault 16 = .ok (.iload_n 1, 1) := by decide +kernel
theorem dX5_placeOfFault_17 : decode cX5_placeOfFault 17 = .ok (.invokevirtual 27, 3) := by decide +kernel
theorem dX5_placeOfFault_20 : decode cX5_placeOfFault 20 = .ok (.istore_n 3, 1) := by decide +kernel
theorem dX5_placeOfFault_21 : decode cX5_placeOfFault 21 = .ok (.iload_n 3, 1) := by decide +kernel
theorem dX5_placeOfFault_22 : decode cX5_placeOfFault 22 = .ok (.iconst (-1), 1) := by decide +kernel
theorem dX5_placeOfFault_23 : decode cX5_placeOfFault 23 = .ok (.if_icmp .eq 5, 3) := by decide +kernel
theorem dX5_placeOfFault_26 : decode cX5_placeOfFault 26 = .ok (.iload_n 3, 1) := by decide +kernel
theorem dX5_placeOfFault_27 : decode cX5_placeOfFault 27 = .ok (.ireturn, 1) := by decide +kernel
theorem dX5_placeOfFault_28 : decode cX5_placeOfFault 28 = .ok (.aload_n 0, 1) := by decide +kernel
theorem dX5_placeOfFault_29 : decode cX5_placeOfFault 29 = .ok (.iload_n 1, 1) := by decide +kernel
theorem dX5_placeOfFault_30 : decode cX5_placeOfFault 30 = .ok (.invokevirtual 31, 3) := by decide +kernel
theorem dX5_placeOfFault_33 : decode cX5_placeOfFault 33 = .ok (.istore_n 1, 1) := by decide +kernel
theorem dX5_placeOfFault_34 : decode cX5_placeOfFault 34 = .ok (.iload_n 1, 1) := by decide +kernel
theorem dX5_placeOfFault_35 : decode cX5_placeOfFault 35 = .ok (.aload_n 0, 1) := by decide +kernel
theorem dX5_placeOfFault_36 : decode cX5_placeOfFault 36 = .ok (.getfield 14, 3) := by decide +kernel
theorem dX5_placeOfFault_39 : decode cX5_placeOfFault 39 = .ok (.getfield 23, 3) := by decide +kernel
theorem dX5_placeOfFault_42 : decode cX5_placeOfFault 42 = .ok (.if_icmp .lt 5, 3) := by decide +kernel
theorem dX5_placeOfFault_45 : decode cX5_placeOfFault 45 = .ok (.iconst (-1), 1) := by decide +kernel
theorem dX5_placeOfFault_46 : decode cX5_placeOfFault 46 = .ok (.ireturn, 1) := by decide +kernel
theorem dX5_placeOfFault_47 : decode cX5_placeOfFault 47 = .ok (.iinc 2 1, 3) := by decide +kernel
theorem dX5_placeOfFault_50 : decode cX5_placeOfFault 50 = .ok (.goto (-46), 3) := by decide +kernel
theorem dX5_placeOfFault_53 : decode cX5_placeOfFault 53 = .ok (.iconst (-1), 1) := by decide +kernel
theorem dX5_placeOfFault_54 : decode cX5_placeOfFault 54 = .ok (.ireturn, 1) := by decide +kernel
theorem dX5_placeBehind_0 : decode cX5_placeBehind 0 = .ok (.iload_n 1, 1) := by decide +kernel
theorem dX5_placeBehind_1 : decode cX5_placeBehind 1 = .ok (.istore_n 2, 1) := by decide +kernel
theorem dX5_placeBehind_2 : decode cX5_placeBehind 2 = .ok (.iload_n 2, 1) := by decide +kernel
theorem dX5_placeBehind_3 : decode cX5_placeBehind 3 = .ok (.aload_n 0, 1) := by decide +kernel
theorem dX5_placeBehind_4 : decode cX5_placeBehind 4 = .ok (.getfield 14, 3) := by decide +kernel
theorem dX5_placeBehind_7 : decode cX5_placeBehind 7 = .ok (.getfield 23, 3) := by decide +kernel
theorem dX5_placeBehind_10 : decode cX5_placeBehind 10 = .ok (.if_icmp .ge 22, 3) := by decide +kernel
theorem dX5_placeBehind_13 : decode cX5_placeBehind 13 = .ok (.aload_n 0, 1) := by decide +kernel
theorem dX5_placeBehind_14 : decode cX5_placeBehind 14 = .ok (.getfield 14, 3) := by decide +kernel
theorem dX5_placeBehind_17 : decode cX5_placeBehind 17 = .ok (.iload_n 2, 1) := by decide +kernel
theorem dX5_placeBehind_18 : decode cX5_placeBehind 18 = .ok (.invokevirtual 34, 3) := by decide +kernel
theorem dX5_placeBehind_21 : decode cX5_placeBehind 21 = .ok (.bipush 59, 2) := by decide +kernel
theorem dX5_placeBehind_23 : decode cX5_placeBehind 23 = .ok (.if_icmp .eq 9, 3) := by decide +kernel
theorem dX5_placeBehind_26 : decode cX5_placeBehind 26 = .ok (.iinc 2 1, 3) := by decide +kernel
theorem dX5_placeBehind_29 : decode cX5_placeBehind 29 = .ok (.goto (-27), 3) := by decide +kernel
theorem dX5_placeBehind_32 : decode cX5_placeBehind 32 = .ok (.iload_n 2, 1) := by decide +kernel
theorem dX5_placeBehind_33 : decode cX5_placeBehind 33 = .ok (.iconst 1, 1) := by decide +kernel
theorem dX5_placeBehind_34 : decode cX5_placeBehind 34 = .ok (.iadd, 1) := by decide +kernel
theorem dX5_placeBehind_35 : decode cX5_placeBehind 35 = .ok (.ireturn, 1) := by decide +kernel
theorem dX5_faultIn_0 : decode cX5_faultIn 0 = .ok (.aload_n 0, 1) := by decide +kernel
theorem dX5_faultIn_1 : decode cX5_faultIn 1 = .ok (.getfield 14, 3) := by decide +kernel
theorem dX5_faultIn_4 : decode cX5_faultIn 4 = .ok (.iload_n 1, 1) := by decide +kernel
theorem dX5_faultIn_5 : decode cX5_faultIn 5 = .ok (.invokevirtual 34, 3) := by decide +kernel
theorem dX5_faultIn_8 : decode cX5_faultIn 8 = .ok (.invokestatic 37, 3) := by decide +kernel
theorem dX5_faultIn_11 : decode cX5_faultIn 11 = .ok (.astore_n 2, 1) := by decide +kernel
theorem dX5_faultIn_12 : decode cX5_faultIn 12 = .ok (.iload_n 1, 1) := by decide +kernel
theorem dX5_faultIn_13 : decode cX5_faultIn 13 = .ok (.iconst 1, 1) := by decide +kernel
theorem dX5_faultIn_14 : decode cX5_faultIn 14 = .ok (.iadd, 1) := by decide +kernel
theorem dX5_faultIn_15 : decode cX5_faultIn 15 = .ok (.istore_n 3, 1) := by decide +kernel
theorem dX5_faultIn_16 : decode cX5_faultIn 16 = .ok (.iconst 0, 1) := by decide +kernel
theorem dX5_faultIn_17 : decode cX5_faultIn 17 = .ok (.istore 4, 2) := by decide +kernel
theorem dX5_faultIn_19 : decode cX5_faultIn 19 = .ok (.iload 4, 2) := by decide +kernel
theorem dX5_faultIn_21 : decode cX5_faultIn 21 = .ok (.aload_n 2, 1) := by decide +kernel
theorem dX5_faultIn_22 : decode cX5_faultIn 22 = .ok (.invokevirtual 41, 3) := by decide +kernel
theorem dX5_faultIn_25 : decode cX5_faultIn 25 = .ok (.if_icmp .ge 34, 3) := by decide +kernel
theorem dX5_faultIn_28 : decode cX5_faultIn 28 = .ok (.aload_n 0, 1) := by decide +kernel
theorem dX5_faultIn_29 : decode cX5_faultIn 29 = .ok (.aload_n 2, 1) := by decide +kernel
theorem dX5_faultIn_30 : decode cX5_faultIn 30 = .ok (.iload 4, 2) := by decide +kernel
theorem dX5_faultIn_32 : decode cX5_faultIn 32 = .ok (.invokevirtual 47, 3) := by decide +kernel
theorem dX5_faultIn_35 : decode cX5_faultIn 35 = .ok (.iload_n 3, 1) := by decide +kernel
theorem dX5_faultIn_36 : decode cX5_faultIn 36 = .ok (.invokevirtual 51, 3) := by decide +kernel
theorem dX5_faultIn_39 : decode cX5_faultIn 39 = .ok (.istore 5, 2) := by decide +kernel
theorem dX5_faultIn_41 : decode cX5_faultIn 41 = .ok (.iload 5, 2) := by decide +kernel
theorem dX5_faultIn_43 : decode cX5_faultIn 43 = .ok (.ifCond .ne 5, 3) := by decide +kernel
theorem dX5_faultIn_46 : decode cX5_faultIn 46 = .ok (.iload_n 3, 1) := by decide +kernel
theorem dX5_faultIn_47 : decode cX5_faultIn 47 = .ok (.ireturn, 1) := by decide +kernel
theorem dX5_faultIn_48 : decode cX5_faultIn 48 = .ok (.iload_n 3, 1) := by decide +kernel
theorem dX5_faultIn_49 : decode cX5_faultIn 49 = .ok (.iload 5, 2) := by decide +kernel
theorem dX5_faultIn_51 : decode cX5_faultIn 51 = .ok (.iadd, 1) := by decide +kernel
theorem dX5_faultIn_52 : decode cX5_faultIn 52 = .ok (.istore_n 3, 1) := by decide +kernel
theorem dX5_faultIn_53 : decode cX5_faultIn 53 = .ok (.iinc 4 1, 3) := by decide +kernel
theorem dX5_faultIn_56 : decode cX5_faultIn 56 = .ok (.goto (-37), 3) := by decide +kernel
theorem dX5_faultIn_59 : decode cX5_faultIn 59 = .ok (.aload_n 2, 1) := by decide +kernel
theorem dX5_faultIn_60 : decode cX5_faultIn 60 = .ok (.invokevirtual 55, 3) := by decide +kernel
theorem dX5_faultIn_63 : decode cX5_faultIn 63 = .ok (.ifCond .eq 7, 3) := by decide +kernel
theorem dX5_faultIn_66 : decode cX5_faultIn 66 = .ok (.iload_n 1, 1) := by decide +kernel
theorem dX5_faultIn_67 : decode cX5_faultIn 67 = .ok (.goto 4, 3) := by decide +kernel
theorem dX5_faultIn_70 : decode cX5_faultIn 70 = .ok (.iconst (-1), 1) := by decide +kernel
theorem dX5_faultIn_71 : decode cX5_faultIn 71 = .ok (.ireturn, 1) := by decide +kernel
theorem dX5_formOf_0 : decode cX5_formOf 0 = .ok (.iload_n 0, 1) := by decide +kernel
theorem dX5_formOf_1 : decode cX5_formOf 1 = .ok (.tableswitch 124 99 120 #[118, 112, 124, 124, 124, 106, 124, 124, 109, 124, 124, 124, 124, 124, 124, 115, 124, 124, 124, 103, 124, 121], 103) := by decide +kernel
theorem dX5_formOf_104 : decode cX5_formOf 104 = .ok (.ldc 59, 2) := by decide +kernel
theorem dX5_formOf_106 : decode cX5_formOf 106 = .ok (.areturn, 1) := by decide +kernel
theorem dX5_formOf_107 : decode cX5_formOf 107 = .ok (.ldc 61, 2) := by decide +kernel
theorem dX5_formOf_109 : decode cX5_formOf 109 = .ok (.areturn, 1) := by decide +kernel
theorem dX5_formOf_110 : decode cX5_formOf 110 = .ok (.ldc 63, 2) := by decide +kernel
theorem dX5_formOf_112 : decode cX5_formOf 112 = .ok (.areturn, 1) := by decide +kernel
theorem dX5_formOf_113 : decode cX5_formOf 113 = .ok (.ldc 65, 2) := by decide +kernel
theorem dX5_formOf_115 : decode cX5_formOf 115 = .ok (.areturn, 1) := by decide +kernel
theorem dX5_formOf_116 : decode cX5_formOf 116 = .ok (.ldc 67, 2) := by decide +kernel
theorem dX5_formOf_118 : decode cX5_formOf 118 = .ok (.areturn, 1) := by decide +kernel
theorem dX5_formOf_119 : decode cX5_formOf 119 = .ok (.ldc 67, 2) := by decide +kernel
theorem dX5_formOf_121 : decode cX5_formOf 121 = .ok (.areturn, 1) := by decide +kernel
theorem dX5_formOf_122 : decode cX5_formOf 122 = .ok (.ldc 69, 2) := by decide +kernel
theorem dX5_formOf_124 : decode cX5_formOf 124 = .ok (.areturn, 1) := by decide +kernel
theorem dX5_formOf_125 : decode cX5_formOf 125 = .ok (.ldc 71, 2) := by decide +kernel
theorem dX5_formOf_127 : decode cX5_formOf 127 = .ok (.areturn, 1) := by decide +kernel
theorem dX5_fitting_0 : decode cX5_fitting 0 = .ok (.aload_n 0, 1) := by decide +kernel
theorem dX5_fitting_1 : decode cX5_fitting 1 = .ok (.getfield 14, 3) := by decide +kernel
theorem dX5_fitting_4 : decode cX5_fitting 4 = .ok (.iload_n 2, 1) := by decide +kernel
theorem dX5_fitting_5 : decode cX5_fitting 5 = .ok (.invokevirtual 34, 3) := by decide +kernel
theorem dX5_fitting_8 : decode cX5_fitting 8 = .ok (.istore_n 3, 1) := by decide +kernel
theorem dX5_fitting_9 : decode cX5_fitting 9 = .ok (.iload_n 1, 1) := by decide +kernel
theorem dX5_fitting_10 : decode cX5_fitting 10 = .ok (.lookupswitch 93 #[(100, 42), (108, 74), (112, 55), (115, 87)], 42) := by decide +kernel
theorem dX5_fitting_52 : decode cX5_fitting 52 = .ok (.iload_n 3, 1) := by decide +kernel
theorem dX5_fitting_53 : decode cX5_fitting 53 = .ok (.invokestatic 73, 3) := by decide +kernel
theorem dX5_fitting_56 : decode cX5_fitting 56 = .ok (.ifCond .eq 7, 3) := by decide +kernel
theorem dX5_fitting_59 : decode cX5_fitting 59 = .ok (.iconst 1, 1) := by decide +kernel
theorem dX5_fitting_60 : decode cX5_fitting 60 = .ok (.goto 4, 3) := by decide +kernel
theorem dX5_fitting_63 : decode cX5_fitting 63 = .ok (.iconst 0, 1) := by decide +kernel
theorem dX5_fitting_64 : decode cX5_fitting 64 = .ok (.ireturn, 1) := by decide +kernel
theorem dX5_fitting_65 : decode cX5_fitting 65 = .ok (.iload_n 3, 1) := by decide +kernel
theorem dX5_fitting_66 : decode cX5_fitting 66 = .ok (.invokestatic 73, 3) := by decide +kernel
theorem dX5_fitting_69 : decode cX5_fitting 69 = .ok (.ifCond .ne 9, 3) := by decide +kernel
theorem dX5_fitting_72 : decode cX5_fitting 72 = .ok (.iload_n 3, 1) := by decide +kernel
theorem dX5_fitting_73 : decode cX5_fitting 73 = .ok (.bipush 46, 2) := by decide +kernel
theorem dX5_fitting_75 : decode cX5_fitting 75 = .ok (.if_icmp .ne 7, 3) := by decide +kernel
theorem dX5_fitting_78 : decode cX5_fitting 78 = .ok (.iconst 1, 1) := by decide +kernel
theorem dX5_fitting_79 : decode cX5_fitting 79 = .ok (.goto 4, 3) := by decide +kernel
theorem dX5_fitting_82 : decode cX5_fitting 82 = .ok (.iconst 0, 1) := by decide +kernel
theorem dX5_fitting_83 : decode cX5_fitting 83 = .ok (.ireturn, 1) := by decide +kernel
theorem dX5_fitting_84 : decode cX5_fitting 84 = .ok (.iload_n 3, 1) := by decide +kernel
theorem dX5_fitting_85 : decode cX5_fitting 85 = .ok (.invokestatic 77, 3) := by decide +kernel
theorem dX5_fitting_88 : decode cX5_fitting 88 = .ok (.ifCond .eq 7, 3) := by decide +kernel
theorem dX5_fitting_91 : decode cX5_fitting 91 = .ok (.iconst 1, 1) := by decide +kernel
theorem dX5_fitting_92 : decode cX5_fitting 92 = .ok (.goto 4, 3) := by decide +kernel
theorem dX5_fitting_95 : decode cX5_fitting 95 = .ok (.iconst 0, 1) := by decide +kernel
theorem dX5_fitting_96 : decode cX5_fitting 96 = .ok (.ireturn, 1) := by decide +kernel
theorem dX5_fitting_97 : decode cX5_fitting 97 = .ok (.aload_n 0, 1) := by decide +kernel
theorem dX5_fitting_98 : decode cX5_fitting 98 = .ok (.iload_n 2, 1) := by decide +kernel
theorem dX5_fitting_99 : decode cX5_fitting 99 = .ok (.invokevirtual 80, 3) := by decide +kernel
theorem dX5_fitting_102 : decode cX5_fitting 102 = .ok (.ireturn, 1) := by decide +kernel
theorem dX5_fitting_103 : decode cX5_fitting 103 = .ok (.iload_n 3, 1) := by decide +kernel
theorem dX5_fitting_104 : decode cX5_fitting 104 = .ok (.iload_n 1, 1) := by decide +kernel
theorem dX5_fitting_105 : decode cX5_fitting 105 = .ok (.if_icmp .ne 7, 3) := by decide +kernel
theorem dX5_fitting_108 : decode cX5_fitting 108 = .ok (.iconst 1, 1) := by decide +kernel
theorem dX5_fitting_109 : decode cX5_fitting 109 = .ok (.goto 4, 3) := by decide +kernel
theorem dX5_fitting_112 : decode cX5_fitting 112 = .ok (.iconst 0, 1) := by decide +kernel
theorem dX5_fitting_113 : decode cX5_fitting 113 = .ok (.ireturn, 1) := by decide +kernel
theorem dX5_lettersFrom_0 : decode cX5_lettersFrom 0 = .ok (.iconst 0, 1) := by decide +kernel
theorem dX5_lettersFrom_1 : decode cX5_lettersFrom 1 = .ok (.istore_n 2, 1) := by decide +kernel
theorem dX5_lettersFrom_2 : decode cX5_lettersFrom 2 = .ok (.iload_n 2, 1) := by decide +kernel
theorem dX5_lettersFrom_3 : decode cX5_lettersFrom 3 = .ok (.bipush 12, 2) := by decide +kernel
theorem dX5_lettersFrom_5 : decode cX5_lettersFrom 5 = .ok (.if_icmp .ge 25, 3) := by decide +kernel
theorem dX5_lettersFrom_8 : decode cX5_lettersFrom 8 = .ok (.aload_n 0, 1) := by decide +kernel
theorem dX5_lettersFrom_9 : decode cX5_lettersFrom 9 = .ok (.getfield 14, 3) := by decide +kernel
theorem dX5_lettersFrom_12 : decode cX5_lettersFrom 12 = .ok (.iload_n 1, 1) := by decide +kernel
theorem dX5_lettersFrom_13 : decode cX5_lettersFrom 13 = .ok (.iload_n 2, 1) := by decide +kernel
theorem dX5_lettersFrom_14 : decode cX5_lettersFrom 14 = .ok (.iadd, 1) := by decide +kernel
theorem dX5_lettersFrom_15 : decode cX5_lettersFrom 15 = .ok (.invokevirtual 34, 3) := by decide +kernel
theorem dX5_lettersFrom_18 : decode cX5_lettersFrom 18 = .ok (.invokestatic 77, 3) := by decide +kernel
theorem dX5_lettersFrom_21 : decode cX5_lettersFrom 21 = .ok (.ifCond .eq 9, 3) := by decide +kernel
theorem dX5_lettersFrom_24 : decode cX5_lettersFrom 24 = .ok (.iinc 2 1, 3) := by decide +kernel
theorem dX5_lettersFrom_27 : decode cX5_lettersFrom 27 = .ok (.goto (-25), 3) := by decide +kernel
theorem dX5_lettersFrom_30 : decode cX5_lettersFrom 30 = .ok (.iload_n 2, 1) := by decide +kernel
theorem dX5_lettersFrom_31 : decode cX5_lettersFrom 31 = .ok (.ireturn, 1) := by decide +kernel
theorem dX5_isDigit_0 : decode cX5_isDigit 0 = .ok (.iload_n 0, 1) := by decide +kernel
theorem dX5_isDigit_1 : decode cX5_isDigit 1 = .ok (.bipush 48, 2) := by decide +kernel
theorem dX5_isDigit_3 : decode cX5_isDigit 3 = .ok (.if_icmp .lt 13, 3) := by decide +kernel
theorem dX5_isDigit_6 : decode cX5_isDigit 6 = .ok (.iload_n 0, 1) := by decide +kernel
theorem dX5_isDigit_7 : decode cX5_isDigit 7 = .ok (.bipush 57, 2) := by decide +kernel
theorem dX5_isDigit_9 : decode cX5_isDigit 9 = .ok (.if_icmp .gt 7, 3) := by decide +kernel
theorem dX5_isDigit_12 : decode cX5_isDigit 12 = .ok (.iconst 1, 1) := by decide +kernel
theorem dX5_isDigit_13 : decode cX5_isDigit 13 = .ok (.goto 4, 3) := by decide +kernel
theorem dX5_isDigit_16 : decode cX5_isDigit 16 = .ok (.iconst 0, 1) := by decide +kernel
theorem dX5_isDigit_17 : decode cX5_isDigit 17 = .ok (.ireturn, 1) := by decide +kernel
theorem dX5_isLetter_0 : decode cX5_isLetter 0 = .ok (.iload_n 0, 1) := by decide +kernel
theorem dX5_isLetter_1 : decode cX5_isLetter 1 = .ok (.bipush 97, 2) := by decide +kernel
theorem dX5_isLetter_3 : decode cX5_isLetter 3 = .ok (.if_icmp .lt 13, 3) := by decide +kernel
theorem dX5_isLetter_6 : decode cX5_isLetter 6 = .ok (.iload_n 0, 1) := by decide +kernel
theorem dX5_isLetter_7 : decode cX5_isLetter 7 = .ok (.bipush 104, 2) := by decide +kernel
theorem dX5_isLetter_9 : decode cX5_isLetter 9 = .ok (.if_icmp .gt 7, 3) := by decide +kernel
theorem dX5_isLetter_12 : decode cX5_isLetter 12 = .ok (.iconst 1, 1) := by decide +kernel
theorem dX5_isLetter_13 : decode cX5_isLetter 13 = .ok (.goto 4, 3) := by decide +kernel
theorem dX5_isLetter_16 : decode cX5_isLetter 16 = .ok (.iconst 0, 1) := by decide +kernel
theorem dX5_isLetter_17 : decode cX5_isLetter 17 = .ok (.ireturn, 1) := by decide +kernel
theorem dX5_digitAt_0 : decode cX5_digitAt 0 = .ok (.aload_n 0, 1) := by decide +kernel
theorem dX5_digitAt_1 : decode cX5_digitAt 1 = .ok (.getfield 14, 3) := by decide +kernel
theorem dX5_digitAt_4 : decode cX5_digitAt 4 = .ok (.iload_n 1, 1) := by decide +kernel
theorem dX5_digitAt_5 : decode cX5_digitAt 5 = .ok (.invokevirtual 34, 3) := by decide +kernel
theorem dX5_digitAt_8 : decode cX5_digitAt 8 = .ok (.istore_n 2, 1) := by decide +kernel
theorem dX5_digitAt_9 : decode cX5_digitAt 9 = .ok (.iload_n 2, 1) := by decide +kernel
theorem dX5_digitAt_10 : decode cX5_digitAt 10 = .ok (.invokestatic 73, 3) := by decide +kernel
theorem dX5_digitAt_13 : decode cX5_digitAt 13 = .ok (.ifCond .eq 10, 3) := by decide +kernel
theorem dX5_digitAt_16 : decode cX5_digitAt 16 = .ok (.iload_n 2, 1) := by decide +kernel
theorem dX5_digitAt_17 : decode cX5_digitAt 17 = .ok (.bipush 48, 2) := by decide +kernel
theorem dX5_digitAt_19 : decode cX5_digitAt 19 = .ok (.isub, 1) := by decide +kernel
theorem dX5_digitAt_20 : decode cX5_digitAt 20 = .ok (.goto 4, 3) := by decide +kernel
theorem dX5_digitAt_23 : decode cX5_digitAt 23 = .ok (.iconst (-1), 1) := by decide +kernel
theorem dX5_digitAt_24 : decode cX5_digitAt 24 = .ok (.ireturn, 1) := by decide +kernel
theorem dX5_runsAt_0 : decode cX5_runsAt 0 = .ok (.aload_n 0, 1) := by decide +kernel
theorem dX5_runsAt_1 : decode cX5_runsAt 1 = .ok (.iload_n 1, 1) := by decide +kernel
theorem dX5_runsAt_2 : decode cX5_runsAt 2 = .ok (.iconst 1, 1) := by decide +kernel
theorem dX5_runsAt_3 : decode cX5_runsAt 3 = .ok (.iadd, 1) := by decide +kernel
theorem dX5_runsAt_4 : decode cX5_runsAt 4 = .ok (.invokevirtual 83, 3) := by decide +kernel
theorem dX5_runsAt_7 : decode cX5_runsAt 7 = .ok (.istore 4, 2) := by decide +kernel
theorem dX5_runsAt_9 : decode cX5_runsAt 9 = .ok (.aload_n 0, 1) := by decide +kernel
theorem dX5_runsAt_10 : decode cX5_runsAt 10 = .ok (.iload_n 1, 1) := by decide +kernel
theorem dX5_runsAt_11 : decode cX5_runsAt 11 = .ok (.iconst 2, 1) := by decide +kernel
theorem dX5_runsAt_12 : decode cX5_runsAt 12 = .ok (.iadd, 1) := by decide +kernel
theorem dX5_runsAt_13 : decode cX5_runsAt 13 = .ok (.invokevirtual 83, 3) := by decide +kernel
theorem dX5_runsAt_16 : decode cX5_runsAt 16 = .ok (.istore 5, 2) := by decide +kernel
theorem dX5_runsAt_18 : decode cX5_runsAt 18 = .ok (.aload_n 0, 1) := by decide +kernel
theorem dX5_runsAt_19 : decode cX5_runsAt 19 = .ok (.getfield 14, 3) := by decide +kernel
theorem dX5_runsAt_22 : decode cX5_runsAt 22 = .ok (.iload_n 1, 1) := by decide +kernel
theorem dX5_runsAt_23 : decode cX5_runsAt 23 = .ok (.invokevirtual 34, 3) := by decide +kernel
theorem dX5_runsAt_26 : decode cX5_runsAt 26 = .ok (.tableswitch 202 99 120 #[171, 135, 202, 202, 202, 115, 202, 202, 125, 202, 202, 202, 202, 202, 202, 143, 202, 202, 202, 102, 202, 178], 102) := by decide +kernel
theorem dX5_runsAt_128 : decode cX5_runsAt 128 = .ok (.aload_n 0, 1) := by decide +kernel
theorem dX5_runsAt_129 : decode cX5_runsAt 129 = .ok (.iload_n 1, 1) := by decide +kernel
theorem dX5_runsAt_130 : decode cX5_runsAt 130 = .ok (.iconst 3, 1) := by decide +kernel
theorem dX5_runsAt_131 : decode cX5_runsAt 131 = .ok (.iadd, 1) := by decide +kernel
theorem dX5_runsAt_132 : decode cX5_runsAt 132 = .ok (.aload_n 2, 1) := by decide +kernel
theorem dX5_runsAt_133 : decode cX5_runsAt 133 = .ok (.iload 4, 2) := by decide +kernel
theorem dX5_runsAt_135 : decode cX5_runsAt 135 = .ok (.iload 5, 2) := by decide +kernel
theorem dX5_runsAt_137 : decode cX5_runsAt 137 = .ok (.invokevirtual 86, 3) := by decide +kernel
theorem dX5_runsAt_140 : decode cX5_runsAt 140 = .ok (.ireturn, 1) := by decide +kernel
theorem dX5_runsAt_141 : decode cX5_runsAt 141 = .ok (.aload_n 0, 1) := by decide +kernel
theorem dX5_runsAt_142 : decode cX5_runsAt 142 = .ok (.aload_n 2, 1) := by decide +kernel
theorem dX5_runsAt_143 : decode cX5_runsAt 143 = .ok (.iload 4, 2) := by decide +kernel
theorem dX5_runsAt_145 : decode cX5_runsAt 145 = .ok (.iload 5, 2) := by decide +kernel
theorem dX5_runsAt_147 : decode cX5_runsAt 147 = .ok (.invokevirtual 90, 3) := by decide +kernel
theorem dX5_runsAt_150 : decode cX5_runsAt 150 = .ok (.ireturn, 1) := by decide +kernel
theorem dX5_runsAt_151 : decode cX5_runsAt 151 = .ok (.aload_n 0, 1) := by decide +kernel
theorem dX5_runsAt_152 : decode cX5_runsAt 152 = .ok (.aload_n 2, 1) := by decide +kernel
theorem dX5_runsAt_153 : decode cX5_runsAt 153 = .ok (.iload 4, 2) := by decide +kernel
theorem dX5_runsAt_155 : decode cX5_runsAt 155 = .ok (.iload 5, 2) := by decide +kernel
theorem dX5_runsAt_157 : decode cX5_runsAt 157 = .ok (.invokevirtual 94, 3) := by decide +kernel
theorem dX5_runsAt_160 : decode cX5_runsAt 160 = .ok (.ireturn, 1) := by decide +kernel
theorem dX5_runsAt_161 : decode cX5_runsAt 161 = .ok (.aload_n 0, 1) := by decide +kernel
theorem dX5_runsAt_162 : decode cX5_runsAt 162 = .ok (.aload_n 2, 1) := by decide +kernel
theorem dX5_runsAt_163 : decode cX5_runsAt 163 = .ok (.iload 4, 2) := by decide +kernel
theorem dX5_runsAt_165 : decode cX5_runsAt 165 = .ok (.invokevirtual 97, 3) := by decide +kernel
theorem dX5_runsAt_168 : decode cX5_runsAt 168 = .ok (.ireturn, 1) := by decide +kernel
theorem dX5_runsAt_169 : decode cX5_runsAt 169 = .ok (.aload_n 3, 1) := by decide +kernel
theorem dX5_runsAt_170 : decode cX5_runsAt 170 = .ok (.aload_n 2, 1) := by decide +kernel
theorem dX5_runsAt_171 : decode cX5_runsAt 171 = .ok (.invokevirtual 101, 3) := by decide +kernel
theorem dX5_runsAt_174 : decode cX5_runsAt 174 = .ok (.aload_n 3, 1) := by decide +kernel
theorem dX5_runsAt_175 : decode cX5_runsAt 175 = .ok (.aload_n 2, 1) := by decide +kernel
theorem dX5_runsAt_176 : decode cX5_runsAt 176 = .ok (.getfield 107, 3) := by decide +kernel
theorem dX5_runsAt_179 : decode cX5_runsAt 179 = .ok (.aload_n 2, 1) := by decide +kernel
theorem dX5_runsAt_180 : decode cX5_runsAt 180 = .ok (.getfield 112, 3) := by decide +kernel
theorem dX5_runsAt_183 : decode cX5_runsAt 183 = .ok (.aload_n 2, 1) := by decide +kernel
theorem dX5_runsAt_184 : decode cX5_runsAt 184 = .ok (.getfield 115, 3) := by decide +kernel
theorem dX5_runsAt_187 : decode cX5_runsAt 187 = .ok (.invokevirtual 118, 3) := by decide +kernel
theorem dX5_runsAt_190 : decode cX5_runsAt 190 = .ok (.aload_n 2, 1) := by decide +kernel
theorem dX5_runsAt_191 : decode cX5_runsAt 191 = .ok (.aload_n 3, 1) := by decide +kernel
theorem dX5_runsAt_192 : decode cX5_runsAt 192 = .ok (.invokevirtual 122, 3) := by decide +kernel
theorem dX5_runsAt_195 : decode cX5_runsAt 195 = .ok (.iconst 1, 1) := by decide +kernel
theorem dX5_runsAt_196 : decode cX5_runsAt 196 = .ok (.ireturn, 1) := by decide +kernel
theorem dX5_runsAt_197 : decode cX5_runsAt 197 = .ok (.aload_n 2, 1) := by decide +kernel
theorem dX5_runsAt_198 : decode cX5_runsAt 198 = .ok (.invokevirtual 126, 3) := by decide +kernel
theorem dX5_runsAt_201 : decode cX5_runsAt 201 = .ok (.pop, 1) := by decide +kernel
theorem dX5_runsAt_202 : decode cX5_runsAt 202 = .ok (.iconst 1, 1) := by decide +kernel
theorem dX5_runsAt_203 : decode cX5_runsAt 203 = .ok (.ireturn, 1) := by decide +kernel
theorem dX5_runsAt_204 : decode cX5_runsAt 204 = .ok (.aload_n 0, 1) := by decide +kernel
theorem dX5_runsAt_205 : decode cX5_runsAt 205 = .ok (.iload_n 1, 1) := by decide +kernel
theorem dX5_runsAt_206 : decode cX5_runsAt 206 = .ok (.iconst 4, 1) := by decide +kernel
theorem dX5_runsAt_207 : decode cX5_runsAt 207 = .ok (.iadd, 1) := by decide +kernel
theorem dX5_runsAt_208 : decode cX5_runsAt 208 = .ok (.aload_n 2, 1) := by decide +kernel
theorem dX5_runsAt_209 : decode cX5_runsAt 209 = .ok (.iload 4, 2) := by decide +kernel
theorem dX5_runsAt_211 : decode cX5_runsAt 211 = .ok (.bipush 10, 2) := by decide +kernel
theorem dX5_runsAt_213 : decode cX5_runsAt 213 = .ok (.iload 5, 2) := by decide +kernel
theorem dX5_runsAt_215 : decode cX5_runsAt 215 = .ok (.imul, 1) := by decide +kernel
theorem dX5_runsAt_216 : decode cX5_runsAt 216 = .ok (.aload_n 0, 1) := by decide +kernel
theorem dX5_runsAt_217 : decode cX5_runsAt 217 = .ok (.iload_n 1, 1) := by decide +kernel
theorem dX5_runsAt_218 : decode cX5_runsAt 218 = .ok (.iconst 3, 1) := by decide +kernel
theorem dX5_runsAt_219 : decode cX5_runsAt 219 = .ok (.iadd, 1) := by decide +kernel
theorem dX5_runsAt_220 : decode cX5_runsAt 220 = .ok (.invokevirtual 83, 3) := by decide +kernel
theorem dX5_runsAt_223 : decode cX5_runsAt 223 = .ok (.iadd, 1) := by decide +kernel
theorem dX5_runsAt_224 : decode cX5_runsAt 224 = .ok (.invokevirtual 129, 3) := by decide +kernel
theorem dX5_runsAt_227 : decode cX5_runsAt 227 = .ok (.ireturn, 1) := by decide +kernel
theorem dX5_runsAt_228 : decode cX5_runsAt 228 = .ok (.iconst 0, 1) := by decide +kernel
theorem dX5_runsAt_229 : decode cX5_runsAt 229 = .ok (.ireturn, 1) := by decide +kernel
theorem dX5_comes_0 : decode cX5_comes 0 = .ok (.iload_n 3, 1) := by decide +kernel
theorem dX5_comes_1 : decode cX5_comes 1 = .ok (.iconst (-1), 1) := by decide +kernel
theorem dX5_comes_2 : decode cX5_comes 2 = .ok (.if_icmp .eq 11, 3) := by decide +kernel
theorem dX5_comes_5 : decode cX5_comes 5 = .ok (.aload_n 2, 1) := by decide +kernel
theorem dX5_comes_6 : decode cX5_comes 6 = .ok (.iload_n 3, 1) := by decide +kernel
theorem dX5_comes_7 : decode cX5_comes 7 = .ok (.invokevirtual 132, 3) := by decide +kernel
theorem dX5_comes_10 : decode cX5_comes 10 = .ok (.ifCond .eq 7, 3) := by decide +kernel
theorem dX5_comes_13 : decode cX5_comes 13 = .ok (.iconst 1, 1) := by decide +kernel
theorem dX5_comes_14 : decode cX5_comes 14 = .ok (.goto 4, 3) := by decide +kernel
theorem dX5_comes_17 : decode cX5_comes 17 = .ok (.iconst 0, 1) := by decide +kernel
theorem dX5_comes_18 : decode cX5_comes 18 = .ok (.istore 5, 2) := by decide +kernel
theorem dX5_comes_20 : decode cX5_comes 20 = .ok (.iload 4, 2) := by decide +kernel
theorem dX5_comes_22 : decode cX5_comes 22 = .ok (.iconst (-1), 1) := by decide +kernel
theorem dX5_comes_23 : decode cX5_comes 23 = .ok (.if_icmp .eq 23, 3) := by decide +kernel
theorem dX5_comes_26 : decode cX5_comes 26 = .ok (.iload_n 3, 1) := by decide +kernel
theorem dX5_comes_27 : decode cX5_comes 27 = .ok (.iconst (-1), 1) := by decide +kernel
theorem dX5_comes_28 : decode cX5_comes 28 = .ok (.if_icmp .eq 22, 3) := by decide +kernel
theorem dX5_comes_31 : decode cX5_comes 31 = .ok (.iload_n 3, 1) := by decide +kernel
theorem dX5_comes_32 : decode cX5_comes 32 = .ok (.iload 4, 2) := by decide +kernel
theorem dX5_comes_34 : decode cX5_comes 34 = .ok (.if_icmp .eq 16, 3) := by decide +kernel
theorem dX5_comes_37 : decode cX5_comes 37 = .ok (.aload_n 2, 1) := by decide +kernel
theorem dX5_comes_38 : decode cX5_comes 38 = .ok (.iload 4, 2) := by decide +kernel
theorem dX5_comes_40 : decode cX5_comes 40 = .ok (.invokevirtual 132, 3) := by decide +kernel
theorem dX5_comes_43 : decode cX5_comes 43 = .ok (.ifCond .eq 7, 3) := by decide +kernel
theorem dX5_comes_46 : decode cX5_comes 46 = .ok (.iconst 1, 1) := by decide +kernel
theorem dX5_comes_47 : decode cX5_comes 47 = .ok (.goto 4, 3) := by decide +kernel
theorem dX5_comes_50 : decode cX5_comes 50 = .ok (.iconst 0, 1) := by decide +kernel
theorem dX5_comes_51 : decode cX5_comes 51 = .ok (.istore 6, 2) := by decide +kernel
theorem dX5_comes_53 : decode cX5_comes 53 = .ok (.iload 5, 2) := by decide +kernel
theorem dX5_comes_55 : decode cX5_comes 55 = .ok (.ifCond .eq 15, 3) := by decide +kernel
theorem dX5_comes_58 : decode cX5_comes 58 = .ok (.iload 6, 2) := by decide +kernel
theorem dX5_comes_60 : decode cX5_comes 60 = .ok (.ifCond .eq 10, 3) := by decide +kernel
theorem dX5_comes_63 : decode cX5_comes 63 = .ok (.aload_n 2, 1) := by decide +kernel
theorem dX5_comes_64 : decode cX5_comes 64 = .ok (.invokevirtual 135, 3) := by decide +kernel
theorem dX5_comes_67 : decode cX5_comes 67 = .ok (.ifCond .ne 5, 3) := by decide +kernel
theorem dX5_comes_70 : decode cX5_comes 70 = .ok (.iconst 0, 1) := by decide +kernel
theorem dX5_comes_71 : decode cX5_comes 71 = .ok (.ireturn, 1) := by decide +kernel
theorem dX5_comes_72 : decode cX5_comes 72 = .ok (.aload_n 0, 1) := by decide +kernel
theorem dX5_comes_73 : decode cX5_comes 73 = .ok (.iload_n 1, 1) := by decide +kernel
theorem dX5_comes_74 : decode cX5_comes 74 = .ok (.invokevirtual 80, 3) := by decide +kernel
theorem dX5_comes_77 : decode cX5_comes 77 = .ok (.istore 7, 2) := by decide +kernel
theorem dX5_comes_79 : decode cX5_comes 79 = .ok (.aload_n 0, 1) := by decide +kernel
theorem dX5_comes_80 : decode cX5_comes 80 = .ok (.getfield 20, 3) := by decide +kernel
theorem dX5_comes_83 : decode cX5_comes 83 = .ok (.invokevirtual 138, 3) := by decide +kernel
theorem dX5_comes_86 : decode cX5_comes 86 = .ok (.iconst 0, 1) := by decide +kernel
theorem dX5_comes_87 : decode cX5_comes 87 = .ok (.istore 8, 2) := by decide +kernel
theorem dX5_comes_89 : decode cX5_comes 89 = .ok (.iload 8, 2) := by decide +kernel
theorem dX5_comes_91 : decode cX5_comes 91 = .ok (.iload 7, 2) := by decide +kernel
theorem dX5_comes_93 : decode cX5_comes 93 = .ok (.if_icmp .ge 30, 3) := by decide +kernel
theorem dX5_comes_96 : decode cX5_comes 96 = .ok (.aload_n 0, 1) := by decide +kernel
theorem dX5_comes_97 : decode cX5_comes 97 = .ok (.getfield 20, 3) := by decide +kernel
theorem dX5_comes_100 : decode cX5_comes 100 = .ok (.aload_n 0, 1) := by decide +kernel
theorem dX5_comes_101 : decode cX5_comes 101 = .ok (.getfield 14, 3) := by decide +kernel
theorem dX5_comes_104 : decode cX5_comes 104 = .ok (.iload_n 1, 1) := by decide +kernel
theorem dX5_comes_105 : decode cX5_comes 105 = .ok (.iload 8, 2) := by decide +kernel
theorem dX5_comes_107 : decode cX5_comes 107 = .ok (.iadd, 1) := by decide +kernel
theorem dX5_comes_108 : decode cX5_comes 108 = .ok (.invokevirtual 34, 3) := by decide +kernel
theorem dX5_comes_111 : decode cX5_comes 111 = .ok (.bipush 97, 2) := by decide +kernel
theorem dX5_comes_113 : decode cX5_comes 113 = .ok (.isub, 1) := by decide +kernel
theorem dX5_comes_114 : decode cX5_comes 114 = .ok (.invokevirtual 141, 3) := by decide +kernel
theorem dX5_comes_117 : decode cX5_comes 117 = .ok (.iinc 8 1, 3) := by decide +kernel
theorem dX5_comes_120 : decode cX5_comes 120 = .ok (.goto (-31), 3) := by decide +kernel
theorem dX5_comes_123 : decode cX5_comes 123 = .ok (.aload_n 2, 1) := by decide +kernel
theorem dX5_comes_124 : decode cX5_comes 124 = .ok (.iload_n 3, 1) := by decide +kernel
theorem dX5_comes_125 : decode cX5_comes 125 = .ok (.iload 4, 2) := by decide +kernel
theorem dX5_comes_127 : decode cX5_comes 127 = .ok (.aload_n 0, 1) := by decide +kernel
theorem dX5_comes_128 : decode cX5_comes 128 = .ok (.getfield 20, 3) := by decide +kernel
theorem dX5_comes_131 : decode cX5_comes 131 = .ok (.invokevirtual 144, 3) := by decide +kernel
theorem dX5_comes_134 : decode cX5_comes 134 = .ok (.pop, 1) := by decide +kernel
theorem dX5_comes_135 : decode cX5_comes 135 = .ok (.iconst 1, 1) := by decide +kernel
theorem dX5_comes_136 : decode cX5_comes 136 = .ok (.ireturn, 1) := by decide +kernel
theorem dX5_points_0 : decode cX5_points 0 = .ok (.iload_n 2, 1) := by decide +kernel
theorem dX5_points_1 : decode cX5_points 1 = .ok (.invokestatic 147, 3) := by decide +kernel
theorem dX5_points_4 : decode cX5_points 4 = .ok (.ifCond .eq 16, 3) := by decide +kernel
theorem dX5_points_7 : decode cX5_points 7 = .ok (.iload_n 3, 1) := by decide +kernel
theorem dX5_points_8 : decode cX5_points 8 = .ok (.iconst (-1), 1) := by decide +kernel
theorem dX5_points_9 : decode cX5_points 9 = .ok (.if_icmp .eq 13, 3) := by decide +kernel
theorem dX5_points_12 : decode cX5_points 12 = .ok (.aload_n 1, 1) := by decide +kernel
theorem dX5_points_13 : decode cX5_points 13 = .ok (.iload_n 3, 1) := by decide +kernel
theorem dX5_points_14 : decode cX5_points 14 = .ok (.invokevirtual 132, 3) := by decide +kernel
theorem dX5_points_17 : decode cX5_points 17 = .ok (.ifCond .ne 5, 3) := by decide +kernel
theorem dX5_points_20 : decode cX5_points 20 = .ok (.iconst 0, 1) := by decide +kernel
theorem dX5_points_21 : decode cX5_points 21 = .ok (.ireturn, 1) := by decide +kernel
theorem dX5_points_22 : decode cX5_points 22 = .ok (.aload_n 1, 1) := by decide +kernel
theorem dX5_points_23 : decode cX5_points 23 = .ok (.getfield 150, 3) := by decide +kernel
theorem dX5_points_26 : decode cX5_points 26 = .ok (.iload_n 2, 1) := by decide +kernel
theorem dX5_points_27 : decode cX5_points 27 = .ok (.iload_n 3, 1) := by decide +kernel
theorem dX5_points_28 : decode cX5_points 28 = .ok (.iastore, 1) := by decide +kernel
theorem dX5_points_29 : decode cX5_points 29 = .ok (.iconst 1, 1) := by decide +kernel
theorem dX5_points_30 : decode cX5_points 30 = .ok (.ireturn, 1) := by decide +kernel
theorem dX5_becomes_0 : decode cX5_becomes 0 = .ok (.iload_n 2, 1) := by decide +kernel
theorem dX5_becomes_1 : decode cX5_becomes 1 = .ok (.ifCond .lt 9, 3) := by decide +kernel
theorem dX5_becomes_4 : decode cX5_becomes 4 = .ok (.iload_n 2, 1) := by decide +kernel
theorem dX5_becomes_5 : decode cX5_becomes 5 = .ok (.bipush 6, 2) := by decide +kernel
theorem dX5_becomes_7 : decode cX5_becomes 7 = .ok (.if_icmp .lt 5, 3) := by decide +kernel
theorem dX5_becomes_10 : decode cX5_becomes 10 = .ok (.iconst 0, 1) := by decide +kernel
theorem dX5_becomes_11 : decode cX5_becomes 11 = .ok (.ireturn, 1) := by decide +kernel
theorem dX5_becomes_12 : decode cX5_becomes 12 = .ok (.aload_n 1, 1) := by decide +kernel
theorem dX5_becomes_13 : decode cX5_becomes 13 = .ok (.iload_n 2, 1) := by decide +kernel
theorem dX5_becomes_14 : decode cX5_becomes 14 = .ok (.putfield 107, 3) := by decide +kernel
theorem dX5_becomes_17 : decode cX5_becomes 17 = .ok (.aload_n 1, 1) := by decide +kernel
theorem dX5_becomes_18 : decode cX5_becomes 18 = .ok (.iload_n 3, 1) := by decide +kernel
theorem dX5_becomes_19 : decode cX5_becomes 19 = .ok (.putfield 112, 3) := by decide +kernel
theorem dX5_becomes_22 : decode cX5_becomes 22 = .ok (.iconst 1, 1) := by decide +kernel
theorem dX5_becomes_23 : decode cX5_becomes 23 = .ok (.ireturn, 1) := by decide +kernel
theorem dX5_binds_0 : decode cX5_binds 0 = .ok (.iload_n 2, 1) := by decide +kernel
theorem dX5_binds_1 : decode cX5_binds 1 = .ok (.ifCond .lt 9, 3) := by decide +kernel
theorem dX5_binds_4 : decode cX5_binds 4 = .ok (.iload_n 2, 1) := by decide +kernel
theorem dX5_binds_5 : decode cX5_binds 5 = .ok (.bipush 8, 2) := by decide +kernel
theorem dX5_binds_7 : decode cX5_binds 7 = .ok (.if_icmp .le 5, 3) := by decide +kernel
theorem dX5_binds_10 : decode cX5_binds 10 = .ok (.iconst 0, 1) := by decide +kernel
theorem dX5_binds_11 : decode cX5_binds 11 = .ok (.ireturn, 1) := by decide +kernel
theorem dX5_binds_12 : decode cX5_binds 12 = .ok (.aload_n 1, 1) := by decide +kernel
theorem dX5_binds_13 : decode cX5_binds 13 = .ok (.iload_n 2, 1) := by decide +kernel
theorem dX5_binds_14 : decode cX5_binds 14 = .ok (.putfield 115, 3) := by decide +kernel
theorem dX5_binds_17 : decode cX5_binds 17 = .ok (.iconst 1, 1) := by decide +kernel
theorem dX5_binds_18 : decode cX5_binds 18 = .ok (.ireturn, 1) := by decide +kernel
theorem dX5_breaks_0 : decode cX5_breaks 0 = .ok (.aload_n 2, 1) := by decide +kernel
theorem dX5_breaks_1 : decode cX5_breaks 1 = .ok (.iload_n 3, 1) := by decide +kernel
theorem dX5_breaks_2 : decode cX5_breaks 2 = .ok (.invokevirtual 132, 3) := by decide +kernel
theorem dX5_breaks_5 : decode cX5_breaks 5 = .ok (.ifCond .eq 15, 3) := by decide +kernel
theorem dX5_breaks_8 : decode cX5_breaks 8 = .ok (.aload_n 2, 1) := by decide +kernel
theorem dX5_breaks_9 : decode cX5_breaks 9 = .ok (.getfield 154, 3) := by decide +kernel
theorem dX5_breaks_12 : decode cX5_breaks 12 = .ok (.iload_n 3, 1) := by decide +kernel
theorem dX5_breaks_13 : decode cX5_breaks 13 = .ok (.aaload, 1) := by decide +kernel
theorem dX5_breaks_14 : decode cX5_breaks 14 = .ok (.invokevirtual 158, 3) := by decide +kernel
theorem dX5_breaks_17 : decode cX5_breaks 17 = .ok (.ifCond .ne 5, 3) := by decide +kernel
theorem dX5_breaks_20 : decode cX5_breaks 20 = .ok (.iconst 0, 1) := by decide +kernel
theorem dX5_breaks_21 : decode cX5_breaks 21 = .ok (.ireturn, 1) := by decide +kernel
theorem dX5_breaks_22 : decode cX5_breaks 22 = .ok (.iload 4, 2) := by decide +kernel
theorem dX5_breaks_24 : decode cX5_breaks 24 = .ok (.ifCond .lt 20, 3) := by decide +kernel
theorem dX5_breaks_27 : decode cX5_breaks 27 = .ok (.iload 4, 2) := by decide +kernel
theorem dX5_breaks_29 : decode cX5_breaks 29 = .ok (.aload_n 2, 1) := by decide +kernel
theorem dX5_breaks_30 : decode cX5_breaks 30 = .ok (.getfield 154, 3) := by decide +kernel
theorem dX5_breaks_33 : decode cX5_breaks 33 = .ok (.iload_n 3, 1) := by decide +kernel
theorem dX5_breaks_34 : decode cX5_breaks 34 = .ok (.aaload, 1) := by decide +kernel
theorem dX5_breaks_35 : decode cX5_breaks 35 = .ok (.getfield 163, 3) := by decide +kernel
theorem dX5_breaks_38 : decode cX5_breaks 38 = .ok (.getfield 23, 3) := by decide +kernel
theorem dX5_breaks_41 : decode cX5_breaks 41 = .ok (.if_icmp .lt 5, 3) := by decide +kernel
theorem dX5_breaks_44 : decode cX5_breaks 44 = .ok (.iconst 0, 1) := by decide +kernel
theorem dX5_breaks_45 : decode cX5_breaks 45 = .ok (.ireturn, 1) := by decide +kernel
theorem dX5_breaks_46 : decode cX5_breaks 46 = .ok (.aload_n 2, 1) := by decide +kernel
theorem dX5_breaks_47 : decode cX5_breaks 47 = .ok (.iload_n 3, 1) := by decide +kernel
theorem dX5_breaks_48 : decode cX5_breaks 48 = .ok (.iload 4, 2) := by decide +kernel
theorem dX5_breaks_50 : decode cX5_breaks 50 = .ok (.aload_n 0, 1) := by decide +kernel
theorem dX5_breaks_51 : decode cX5_breaks 51 = .ok (.getfield 14, 3) := by decide +kernel
theorem dX5_breaks_54 : decode cX5_breaks 54 = .ok (.iload_n 1, 1) := by decide +kernel
theorem dX5_breaks_55 : decode cX5_breaks 55 = .ok (.invokevirtual 34, 3) := by decide +kernel
theorem dX5_breaks_58 : decode cX5_breaks 58 = .ok (.bipush 97, 2) := by decide +kernel
theorem dX5_breaks_60 : decode cX5_breaks 60 = .ok (.isub, 1) := by decide +kernel
theorem dX5_breaks_61 : decode cX5_breaks 61 = .ok (.invokevirtual 166, 3) := by decide +kernel
theorem dX5_breaks_64 : decode cX5_breaks 64 = .ok (.iconst 1, 1) := by decide +kernel
theorem dX5_breaks_65 : decode cX5_breaks 65 = .ok (.ireturn, 1) := by decide +kernel
theorem dX6_init_0 : decode cX6_init 0 = .ok (.aload_n 0, 1) := by decide +kernel
theorem dX6_init_1 : decode cX6_init 1 = .ok (.invokespecial 3, 3) := by decide +kernel
theorem dX6_init_4 : decode cX6_init 4 = .ok (.aload_n 0, 1) := by decide +kernel
theorem dX6_init_5 : decode cX6_init 5 = .ok (.new 9, 3) := by decide +kernel
theorem dX6_init_8 : decode cX6_init 8 = .ok (.dup, 1) := by decide +kernel
theorem dX6_init_9 : decode cX6_init 9 = .ok (.bipush 12, 2) := by decide +kernel
theorem dX6_init_11 : decode cX6_init 11 = .ok (.invokespecial 11, 3) := by decide +kernel
theorem dX6_init_14 : decode cX6_init 14 = .ok (.putfield 14, 3) := by decide +kernel
theorem dX6_init_17 : decode cX6_init 17 = .ok (.aload_n 0, 1) := by decide +kernel
theorem dX6_init_18 : decode cX6_init 18 = .ok (.new 20, 3) := by decide +kernel
theorem dX6_init_21 : decode cX6_init 21 = .ok (.dup, 1) := by decide +kernel
theorem dX6_init_22 : decode cX6_init 22 = .ok (.invokespecial 22, 3) := by decide +kernel
theorem dX6_init_25 : decode cX6_init 25 = .ok (.putfield 23, 3) := by decide +kernel
theorem dX6_init_28 : decode cX6_init 28 = .ok (.aload_n 0, 1) := by decide +kernel
theorem dX6_init_29 : decode cX6_init 29 = .ok (.iconst (-1), 1) := by decide +kernel
theorem dX6_init_30 : decode cX6_init 30 = .ok (.putfield 27, 3) := by decide +kernel
theorem dX6_init_33 : decode cX6_init 33 = .ok (.aload_n 0, 1) := by decide +kernel
theorem dX6_init_34 : decode cX6_init 34 = .ok (.iconst (-1), 1) := by decide +kernel
theorem dX6_init_35 : decode cX6_init 35 = .ok (.putfield 31, 3) := by decide +kernel
theorem dX6_init_38 : decode cX6_init 38 = .ok (.aload_n 0, 1) := by decide +kernel
theorem dX6_init_39 : decode cX6_init 39 = .ok (.iconst 0, 1) := by decide +kernel
theorem dX6_init_40 : decode cX6_init 40 = .ok (.putfield 34, 3) := by decide +kernel
theorem dX6_init_43 : decode cX6_init 43 = .ok (.aload_n 0, 1) := by decide +kernel
theorem dX6_init_44 : decode cX6_init 44 = .ok (.iconst 0, 1) := by decide +kernel
theorem dX6_init_45 : decode cX6_init 45 = .ok (.putfield 37, 3) := by decide +kernel
theorem dX6_init_48 : decode cX6_init 48 = .ok (.aload_n 0, 1) := by decide +kernel
theorem dX6_init_49 : decode cX6_init 49 = .ok (.iconst (-1), 1) := by decide +kernel
theorem dX6_init_50 : decode cX6_init 50 = .ok (.putfield 40, 3) := by decide +kernel
theorem dX6_init_53 : decode cX6_init 53 = .ok (.return_, 1) := by decide +kernel
theorem dX6_isWhole_0 : decode cX6_isWhole 0 = .ok (.aload_n 0, 1) := by decide +kernel
theorem dX6_isWhole_1 : decode cX6_isWhole 1 = .ok (.getfield 40, 3) := by decide +kernel
theorem dX6_isWhole_4 : decode cX6_isWhole 4 = .ok (.iconst (-1), 1) := by decide +kernel
theorem dX6_isWhole_5 : decode cX6_isWhole 5 = .ok (.if_icmp .ne 7, 3) := by decide +kernel
theorem dX6_isWhole_8 : decode cX6_isWhole 8 = .ok (.iconst 1, 1) := by decide +kernel
theorem dX6_isWhole_9 : decode cX6_isWhole 9 = .ok (.goto 4, 3) := by decide +kernel
theorem dX6_isWhole_12 : decode cX6_isWhole 12 = .ok (.iconst 0, 1) := by decide +kernel
theorem dX6_isWhole_13 : decode cX6_isWhole 13 = .ok (.ireturn, 1) := by decide +kernel
theorem dX6_wholeCost_0 : decode cX6_wholeCost 0 = .ok (.iconst 1, 1) := by decide +kernel
theorem dX6_wholeCost_1 : decode cX6_wholeCost 1 = .ok (.aload_n 0, 1) := by decide +kernel
theorem dX6_wholeCost_2 : decode cX6_wholeCost 2 = .ok (.getfield 14, 3) := by decide +kernel
theorem dX6_wholeCost_5 : decode cX6_wholeCost 5 = .ok (.getfield 43, 3) := by decide +kernel
theorem dX6_wholeCost_8 : decode cX6_wholeCost 8 = .ok (.iadd, 1) := by decide +kernel
theorem dX6_wholeCost_9 : decode cX6_wholeCost 9 = .ok (.ireturn, 1) := by decide +kernel
theorem dX6_cost_0 : decode cX6_cost 0 = .ok (.aload_n 0, 1) := by decide +kernel
theorem dX6_cost_1 : decode cX6_cost 1 = .ok (.invokevirtual 46, 3) := by decide +kernel
theorem dX6_cost_4 : decode cX6_cost 4 = .ok (.ifCond .eq 10, 3) := by decide +kernel
theorem dX6_cost_7 : decode cX6_cost 7 = .ok (.aload_n 0, 1) := by decide +kernel
theorem dX6_cost_8 : decode cX6_cost 8 = .ok (.invokevirtual 50, 3) := by decide +kernel
theorem dX6_cost_11 : decode cX6_cost 11 = .ok (.goto 10, 3) := by decide +kernel
theorem dX6_cost_14 : decode cX6_cost 14 = .ok (.aload_n 0, 1) := by decide +kernel
theorem dX6_cost_15 : decode cX6_cost 15 = .ok (.getfield 23, 3) := by decide +kernel
theorem dX6_cost_18 : decode cX6_cost 18 = .ok (.invokevirtual 54, 3) := by decide +kernel
theorem dX6_cost_21 : decode cX6_cost 21 = .ok (.ireturn, 1) := by decide +kernel
theorem dX6_isSound_0 : decode cX6_isSound 0 = .ok (.aload_n 0, 1) := by decide +kernel
theorem dX6_isSound_1 : decode cX6_isSound 1 = .ok (.getfield 14, 3) := by decide +kernel
theorem dX6_isSound_4 : decode cX6_isSound 4 = .ok (.invokevirtual 57, 3) := by decide +kernel
theorem dX6_isSound_7 : decode cX6_isSound 7 = .ok (.aload_n 0, 1) := by decide +kernel
theorem dX6_isSound_8 : decode cX6_isSound 8 = .ok (.getfield 37, 3) := by decide +kernel
theorem dX6_isSound_11 : decode cX6_isSound 11 = .ok (.if_icmp .ne 7, 3) := by decide +kernel
theorem dX6_isSound_14 : decode cX6_isSound 14 = .ok (.iconst 1, 1) := by decide +kernel
theorem dX6_isSound_15 : decode cX6_isSound 15 = .ok (.goto 4, 3) := by decide +kernel
theorem dX6_isSound_18 : decode cX6_isSound 18 = .ok (.iconst 0, 1) := by decide +kernel
theorem dX6_isSound_19 : decode cX6_isSound 19 = .ok (.ireturn, 1) := by decide +kernel
theorem dX6_leave_0 : decode cX6_leave 0 = .ok (.aload_n 0, 1) := by decide +kernel
theorem dX6_leave_1 : decode cX6_leave 1 = .ok (.invokevirtual 46, 3) := by decide +kernel
theorem dX6_leave_4 : decode cX6_leave 4 = .ok (.ifCond .ne 20, 3) := by decide +kernel
theorem dX6_leave_7 : decode cX6_leave 7 = .ok (.iload_n 1, 1) := by decide +kernel
theorem dX6_leave_8 : decode cX6_leave 8 = .ok (.aload_n 0, 1) := by decide +kernel
theorem dX6_leave_9 : decode cX6_leave 9 = .ok (.getfield 40, 3) := by decide +kernel
theorem dX6_leave_12 : decode cX6_leave 12 = .ok (.ishr, 1) := by decide +kernel
theorem dX6_leave_13 : decode cX6_leave 13 = .ok (.iconst 1, 1) := by decide +kernel
theorem dX6_leave_14 : decode cX6_leave 14 = .ok (.iand, 1) := by decide +kernel
theorem dX6_leave_15 : decode cX6_leave 15 = .ok (.iconst 1, 1) := by decide +kernel
theorem dX6_leave_16 : decode cX6_leave 16 = .ok (.if_icmp .ne 8, 3) := by decide +kernel
theorem dX6_leave_19 : decode cX6_leave 19 = .ok (.aload_n 0, 1) := by decide +kernel
theorem dX6_leave_20 : decode cX6_leave 20 = .ok (.iconst (-1), 1) := by decide +kernel
theorem dX6_leave_21 : decode cX6_leave 21 = .ok (.putfield 40, 3) := by decide +kernel
theorem dX6_leave_24 : decode cX6_leave 24 = .ok (.return_, 1) := by decide +kernel
theorem dX6_hasParent_0 : decode cX6_hasParent 0 = .ok (.aload_n 0, 1) := by decide +kernel
theorem dX6_hasParent_1 : decode cX6_hasParent 1 = .ok (.getfield 27, 3) := by decide +kernel
theorem dX6_hasParent_4 : decode cX6_hasParent 4 = .ok (.iload_n 1, 1) := by decide +kernel
theorem dX6_hasParent_5 : decode cX6_hasParent 5 = .ok (.if_icmp .eq 11, 3) := by decide +kernel
theorem dX6_hasParent_8 : decode cX6_hasParent 8 = .ok (.aload_n 0, 1) := by decide +kernel
theorem dX6_hasParent_9 : decode cX6_hasParent 9 = .ok (.getfield 31, 3) := by decide +kernel
theorem dX6_hasParent_12 : decode cX6_hasParent 12 = .ok (.iload_n 1, 1) := by decide +kernel
theorem dX6_hasParent_13 : decode cX6_hasParent 13 = .ok (.if_icmp .ne 7, 3) := by decide +kernel
theorem dX6_hasParent_16 : decode cX6_hasParent 16 = .ok (.iconst 1, 1) := by decide +kernel
theorem dX6_hasParent_17 : decode cX6_hasParent 17 = .ok (.goto 4, 3) := by decide +kernel
theorem dX6_hasParent_20 : decode cX6_hasParent 20 = .ok (.iconst 0, 1) := by decide +kernel
theorem dX6_hasParent_21 : decode cX6_hasParent 21 = .ok (.ireturn, 1) := by decide +kernel
theorem dX6_copyFrom_0 : decode cX6_copyFrom 0 = .ok (.aload_n 0, 1) := by decide +kernel
theorem dX6_copyFrom_1 : decode cX6_copyFrom 1 = .ok (.getfield 14, 3) := by decide +kernel
theorem dX6_copyFrom_4 : decode cX6_copyFrom 4 = .ok (.aload_n 1, 1) := by decide +kernel
theorem dX6_copyFrom_5 : decode cX6_copyFrom 5 = .ok (.getfield 14, 3) := by decide +kernel
theorem dX6_copyFrom_8 : decode cX6_copyFrom 8 = .ok (.invokevirtual 60, 3) := by decide +kernel
theorem dX6_copyFrom_11 : decode cX6_copyFrom 11 = .ok (.aload_n 0, 1) := by decide +kernel
theorem dX6_copyFrom_12 : decode cX6_copyFrom 12 = .ok (.getfield 23, 3) := by decide +kernel
theorem dX6_copyFrom_15 : decode cX6_copyFrom 15 = .ok (.aload_n 1, 1) := by decide +kernel
theorem dX6_copyFrom_16 : decode cX6_copyFrom 16 = .ok (.getfield 23, 3) := by decide +kernel
theorem dX6_copyFrom_19 : decode cX6_copyFrom 19 = .ok (.invokevirtual 64, 3) := by decide +kernel
theorem dX6_copyFrom_22 : decode cX6_copyFrom 22 = .ok (.aload_n 0, 1) := by decide +kernel
theorem dX6_copyFrom_23 : decode cX6_copyFrom 23 = .ok (.aload_n 1, 1) := by decide +kernel
theorem dX6_copyFrom_24 : decode cX6_copyFrom 24 = .ok (.getfield 27, 3) := by decide +kernel
theorem dX6_copyFrom_27 : decode cX6_copyFrom 27 = .ok (.putfield 27, 3) := by decide +kernel
theorem dX6_copyFrom_30 : decode cX6_copyFrom 30 = .ok (.aload_n 0, 1) := by decide +kernel
theorem dX6_copyFrom_31 : decode cX6_copyFrom 31 = .ok (.aload_n 1, 1) := by decide +kernel
theorem dX6_copyFrom_32 : decode cX6_copyFrom 32 = .ok (.getfield 31, 3) := by decide +kernel
theorem dX6_copyFrom_35 : decode cX6_copyFrom 35 = .ok (.putfield 31, 3) := by decide +kernel
theorem dX6_copyFrom_38 : decode cX6_copyFrom 38 = .ok (.aload_n 0, 1) := by decide +kernel
theorem dX6_copyFrom_39 : decode cX6_copyFrom 39 = .ok (.aload_n 1, 1) := by decide +kernel
theorem dX6_copyFrom_40 : decode cX6_copyFrom 40 = .ok (.getfield 34, 3) := by decide +kernel
theorem dX6_copyFrom_43 : decode cX6_copyFrom 43 = .ok (.putfield 34, 3) := by decide +kernel
theorem dX6_copyFrom_46 : decode cX6_copyFrom 46 = .ok (.aload_n 0, 1) := by decide +kernel
theorem dX6_copyFrom_47 : decode cX6_copyFrom 47 = .ok (.aload_n 1, 1) := by decide +kernel
theorem dX6_copyFrom_48 : decode cX6_copyFrom 48 = .ok (.getfield 37, 3) := by decide +kernel
theorem dX6_copyFrom_51 : decode cX6_copyFrom 51 = .ok (.putfield 37, 3) := by decide +kernel
theorem dX6_copyFrom_54 : decode cX6_copyFrom 54 = .ok (.aload_n 0, 1) := by decide +kernel
theorem dX6_copyFrom_55 : decode cX6_copyFrom 55 = .ok (.aload_n 1, 1) := by decide +kernel
theorem dX6_copyFrom_56 : decode cX6_copyFrom 56 = .ok (.getfield 40, 3) := by decide +kernel
theorem dX6_copyFrom_59 : decode cX6_copyFrom 59 = .ok (.putfield 40, 3) := by decide +kernel
theorem dX6_copyFrom_62 : decode cX6_copyFrom 62 = .ok (.return_, 1) := by decide +kernel
theorem dX7_init_0 : decode cX7_init 0 = .ok (.aload_n 0, 1) := by decide +kernel
theorem dX7_init_1 : decode cX7_init 1 = .ok (.invokespecial 1, 3) := by decide +kernel
theorem dX7_init_4 : decode cX7_init 4 = .ok (.aload_n 0, 1) := by decide +kernel
theorem dX7_init_5 : decode cX7_init 5 = .ok (.new 7, 3) := by decide +kernel
theorem dX7_init_8 : decode cX7_init 8 = .ok (.dup, 1) := by decide +kernel
theorem dX7_init_9 : decode cX7_init 9 = .ok (.invokespecial 9, 3) := by decide +kernel
theorem dX7_init_12 : decode cX7_init 12 = .ok (.putfield 10, 3) := by decide +kernel
theorem dX7_init_15 : decode cX7_init 15 = .ok (.aload_n 0, 1) := by decide +kernel
theorem dX7_init_16 : decode cX7_init 16 = .ok (.new 7, 3) := by decide +kernel
theorem dX7_init_19 : decode cX7_init 19 = .ok (.dup, 1) := by decide +kernel
theorem dX7_init_20 : decode cX7_init 20 = .ok (.invokespecial 9, 3) := by decide +kernel
theorem dX7_init_23 : decode cX7_init 23 = .ok (.putfield 16, 3) := by decide +kernel
theorem dX7_init_26 : decode cX7_init 26 = .ok (.aload_n 0, 1) := by decide +kernel
theorem dX7_init_27 : decode cX7_init 27 = .ok (.new 7, 3) := by decide +kernel
theorem dX7_init_30 : decode cX7_init 30 = .ok (.dup, 1) := by decide +kernel
theorem dX7_init_31 : decode cX7_init 31 = .ok (.invokespecial 9, 3) := by decide +kernel
theorem dX7_init_34 : decode cX7_init 34 = .ok (.putfield 19, 3) := by decide +kernel
theorem dX7_init_37 : decode cX7_init 37 = .ok (.aload_n 0, 1) := by decide +kernel
theorem dX7_init_38 : decode cX7_init 38 = .ok (.new 22, 3) := by decide +kernel
theorem dX7_init_41 : decode cX7_init 41 = .ok (.dup, 1) := by decide +kernel
theorem dX7_init_42 : decode cX7_init 42 = .ok (.invokespecial 24, 3) := by decide +kernel
theorem dX7_init_45 : decode cX7_init 45 = .ok (.putfield 25, 3) := by decide +kernel
theorem dX7_init_48 : decode cX7_init 48 = .ok (.aload_n 0, 1) := by decide +kernel
theorem dX7_init_49 : decode cX7_init 49 = .ok (.new 29, 3) := by decide +kernel
theorem dX7_init_52 : decode cX7_init 52 = .ok (.dup, 1) := by decide +kernel
theorem dX7_init_53 : decode cX7_init 53 = .ok (.invokespecial 31, 3) := by decide +kernel
theorem dX7_init_56 : decode cX7_init 56 = .ok (.putfield 32, 3) := by decide +kernel
theorem dX7_init_59 : decode cX7_init 59 = .ok (.aload_n 0, 1) := by decide +kernel
theorem dX7_init_60 : decode cX7_init 60 = .ok (.new 36, 3) := by decide +kernel
theorem dX7_init_63 : decode cX7_init 63 = .ok (.dup, 1) := by decide +kernel
theorem dX7_init_64 : decode cX7_init 64 = .ok (.invokespecial 38, 3) := by decide +kernel
theorem dX7_init_67 : decode cX7_init 67 = .ok (.putfield 39, 3) := by decide +kernel
theorem dX7_init_70 : decode cX7_init 70 = .ok (.aload_n 0, 1) := by decide +kernel
theorem dX7_init_71 : decode cX7_init 71 = .ok (.new 43, 3) := by decide +kernel
theorem dX7_init_74 : decode cX7_init 74 = .ok (.dup, 1) := by decide +kernel
theorem dX7_init_75 : decode cX7_init 75 = .ok (.bipush 12, 2) := by decide +kernel
theorem dX7_init_77 : decode cX7_init 77 = .ok (.invokespecial 45, 3) := by decide +kernel
theorem dX7_init_80 : decode cX7_init 80 = .ok (.putfield 48, 3) := by decide +kernel
theorem dX7_init_83 : decode cX7_init 83 = .ok (.aload_n 0, 1) := by decide +kernel
theorem dX7_init_84 : decode cX7_init 84 = .ok (.new 52, 3) := by decide +kernel
theorem dX7_init_87 : decode cX7_init 87 = .ok (.dup, 1) := by decide +kernel
theorem dX7_init_88 : decode cX7_init 88 = .ok (.invokespecial 54, 3) := by decide +kernel
theorem dX7_init_91 : decode cX7_init 91 = .ok (.putfield 55, 3) := by decide +kernel
theorem dX7_init_94 : decode cX7_init 94 = .ok (.aload_n 0, 1) := by decide +kernel
theorem dX7_init_95 : decode cX7_init 95 = .ok (.bipush 7, 2) := by decide +kernel
theorem dX7_init_97 : decode cX7_init 97 = .ok (.newarray .int, 2) := by decide +kernel
theorem dX7_init_99 : decode cX7_init 99 = .ok (.putfield 59, 3) := by decide +kernel
theorem dX7_init_102 : decode cX7_init 102 = .ok (.aload_n 0, 1) := by decide +kernel
theorem dX7_init_103 : decode cX7_init 103 = .ok (.iconst 0, 1) := by decide +kernel
theorem dX7_init_104 : decode cX7_init 104 = .ok (.putfield 63, 3) := by decide +kernel
theorem dX7_init_107 : decode cX7_init 107 = .ok (.return_, 1) := by decide +kernel
theorem dX7_letter_0 : decode cX7_letter 0 = .ok (.iload_n 1, 1) := by decide +kernel
theorem dX7_letter_1 : decode cX7_letter 1 = .ok (.ifCond .ge 10, 3) := by decide +kernel
theorem dX7_letter_4 : decode cX7_letter 4 = .ok (.aload_n 0, 1) := by decide +kernel
theorem dX7_letter_5 : decode cX7_letter 5 = .ok (.bipush (-4), 2) := by decide +kernel
theorem dX7_letter_7 : decode cX7_letter 7 = .ok (.invokevirtual 67, 3) := by decide +kernel
theorem dX7_letter_10 : decode cX7_letter 10 = .ok (.ireturn, 1) := by decide +kernel
theorem dX7_letter_11 : decode cX7_letter 11 = .ok (.iload_n 1, 1) := by decide +kernel
theorem dX7_letter_12 : decode cX7_letter 12 = .ok (.sipush 255, 3) := by decide +kernel
theorem dX7_letter_15 : decode cX7_letter 15 = .ok (.if_icmp .gt 16, 3) := by decide +kernel
theorem dX7_letter_18 : decode cX7_letter 18 = .ok (.aload_n 0, 1) := by decide +kernel
theorem dX7_letter_19 : decode cX7_letter 19 = .ok (.getfield 39, 3) := by decide +kernel
theorem dX7_letter_22 : decode cX7_letter 22 = .ok (.getfield 71, 3) := by decide +kernel
theorem dX7_letter_25 : decode cX7_letter 25 = .ok (.invokevirtual 74, 3) := by decide +kernel
theorem dX7_letter_28 : decode cX7_letter 28 = .ok (.ifCond .eq 10, 3) := by decide +kernel
theorem dX7_letter_31 : decode cX7_letter 31 = .ok (.aload_n 0, 1) := by decide +kernel
theorem dX7_letter_32 : decode cX7_letter 32 = .ok (.bipush (-6), 2) := by decide +kernel
theorem dX7_letter_34 : decode cX7_letter 34 = .ok (.invokevirtual 67, 3) := by decide +kernel
theorem dX7_letter_37 : decode cX7_letter 37 = .ok (.ireturn, 1) := by decide +kernel
theorem dX7_letter_38 : decode cX7_letter 38 = .ok (.aload_n 0, 1) := by decide +kernel
theorem dX7_letter_39 : decode cX7_letter 39 = .ok (.getfield 39, 3) := by decide +kernel
theorem dX7_letter_42 : decode cX7_letter 42 = .ok (.getfield 71, 3) := by decide +kernel
theorem dX7_letter_45 : decode cX7_letter 45 = .ok (.iload_n 1, 1) := by decide +kernel
theorem dX7_letter_46 : decode cX7_letter 46 = .ok (.invokevirtual 78, 3) := by decide +kernel
theorem dX7_letter_49 : decode cX7_letter 49 = .ok (.aload_n 0, 1) := by decide +kernel
theorem dX7_letter_50 : decode cX7_letter 50 = .ok (.getfield 39, 3) := by decide +kernel
theorem dX7_letter_53 : decode cX7_letter 53 = .ok (.getfield 71, 3) := by decide +kernel
theorem dX7_letter_56 : decode cX7_letter 56 = .ok (.getfield 81, 3) := by decide +kernel
theorem dX7_letter_59 : decode cX7_letter 59 = .ok (.ireturn, 1) := by decide +kernel
theorem dX7_archive_0 : decode cX7_archive 0 = .ok (.aload_n 0, 1) := by decide +kernel
theorem dX7_archive_1 : decode cX7_archive 1 = .ok (.getfield 39, 3) := by decide +kernel
theorem dX7_archive_4 : decode cX7_archive 4 = .ok (.invokevirtual 85, 3) := by decide +kernel
theorem dX7_archive_7 : decode cX7_archive 7 = .ok (.istore_n 1, 1) := by decide +kernel
theorem dX7_archive_8 : decode cX7_archive 8 = .ok (.iload_n 1, 1) := by decide +kernel
theorem dX7_archive_9 : decode cX7_archive 9 = .ok (.iconst (-1), 1) := by decide +kernel
theorem dX7_archive_10 : decode cX7_archive 10 = .ok (.if_icmp .ne 7, 3) := by decide +kernel
theorem dX7_archive_13 : decode cX7_archive 13 = .ok (.iconst 0, 1) := by decide +kernel
theorem dX7_archive_14 : decode cX7_archive 14 = .ok (.goto 8, 3) := by decide +kernel
theorem dX7_archive_17 : decode cX7_archive 17 = .ok (.sipush (-1000), 3) := by decide +kernel
theorem dX7_archive_20 : decode cX7_archive 20 = .ok (.iload_n 1, 1) := by decide +kernel
theorem dX7_archive_21 : decode cX7_archive 21 = .ok (.isub, 1) := by decide +kernel
theorem dX7_archive_22 : decode cX7_archive 22 = .ok (.istore_n 2, 1) := by decide +kernel
theorem dX7_archive_23 : decode cX7_archive 23 = .ok (.aload_n 0, 1) := by decide +kernel
theorem dX7_archive_24 : decode cX7_archive 24 = .ok (.getfield 19, 3) := by decide +kernel
theorem dX7_archive_27 : decode cX7_archive 27 = .ok (.aload_n 0, 1) := by decide +kernel
theorem dX7_archive_28 : decode cX7_archive 28 = .ok (.getfield 10, 3) := by decide +kernel
theorem dX7_archive_31 : decode cX7_archive 31 = .ok (.invokevirtual 89, 3) := by decide +kernel
theorem dX7_archive_34 : decode cX7_archive 34 = .ok (.iconst 0, 1) := by decide +kernel
theorem dX7_archive_35 : decode cX7_archive 35 = .ok (.istore_n 3, 1) := by decide +kernel
theorem dX7_archive_36 : decode cX7_archive 36 = .ok (.iload_n 3, 1) := by decide +kernel
theorem dX7_archive_37 : decode cX7_archive 37 = .ok (.aload_n 0, 1) := by decide +kernel
theorem dX7_archive_38 : decode cX7_archive 38 = .ok (.getfield 39, 3) := by decide +kernel
theorem dX7_archive_41 : decode cX7_archive 41 = .ok (.getfield 71, 3) := by decide +kernel
theorem dX7_archive_44 : decode cX7_archive 44 = .ok (.getfield 81, 3) := by decide +kernel
theorem dX7_archive_47 : decode cX7_archive 47 = .ok (.if_icmp .ge 56, 3) := by decide +kernel
theorem dX7_archive_50 : decode cX7_archive 50 = .ok (.iload_n 2, 1) := by decide +kernel
theorem dX7_archive_51 : decode cX7_archive 51 = .ok (.ifCond .lt 52, 3) := by decide +kernel
theorem dX7_archive_54 : decode cX7_archive 54 = .ok (.aload_n 0, 1) := by decide +kernel
theorem dX7_archive_55 : decode cX7_archive 55 = .ok (.getfield 39, 3) := by decide +kernel
theorem dX7_archive_58 : decode cX7_archive 58 = .ok (.iload_n 3, 1) := by decide +kernel
theorem dX7_archive_59 : decode cX7_archive 59 = .ok (.aload_n 0, 1) := by decide +kernel
theorem dX7_archive_60 : decode cX7_archive 60 = .ok (.getfield 19, 3) := by decide +kernel
theorem dX7_archive_63 : decode cX7_archive 63 = .ok (.aload_n 0, 1) := by decide +kernel
theorem dX7_archive_64 : decode cX7_archive 64 = .ok (.getfield 25, 3) := by decide +kernel
theorem dX7_archive_67 : decode cX7_archive 67 = .ok (.invokevirtual 93, 3) := by decide +kernel
theorem dX7_archive_70 : decode cX7_archive 70 = .ok (.ifCond .eq 9, 3) := by decide +kernel
theorem dX7_archive_73 : decode cX7_archive 73 = .ok (.iload_n 2, 1) := by decide +kernel
theorem dX7_archive_74 : decode cX7_archive 74 = .ok (.iconst 1, 1) := by decide +kernel
theorem dX7_archive_75 : decode cX7_archive 75 = .ok (.iadd, 1) := by decide +kernel
theorem dX7_archive_76 : decode cX7_archive 76 = .ok (.goto 8, 3) := by decide +kernel
theorem dX7_archive_79 : decode cX7_archive 79 = .ok (.sipush (-2000), 3) := by decide +kernel
theorem dX7_archive_82 : decode cX7_archive 82 = .ok (.iload_n 3, 1) := by decide +kernel
theorem dX7_archive_83 : decode cX7_archive 83 = .ok (.isub, 1) := by decide +kernel
theorem dX7_archive_84 : decode cX7_archive 84 = .ok (.istore_n 2, 1) := by decide +kernel
theorem dX7_archive_85 : decode cX7_archive 85 = .ok (.iload_n 3, 1) := by decide +kernel
theorem dX7_archive_86 : decode cX7_archive 86 = .ok (.iconst 1, 1) := by decide +kernel
theorem dX7_archive_87 : decode cX7_archive 87 = .ok (.iadd, 1) := by decide +kernel
theorem dX7_archive_88 : decode cX7_archive 88 = .ok (.aload_n 0, 1) := by decide +kernel
theorem dX7_archive_89 : decode cX7_archive 89 = .ok (.getfield 39, 3) := by decide +kernel
theorem dX7_archive_92 : decode cX7_archive 92 = .ok (.iload_n 3, 1) := by decide +kernel
theorem dX7_archive_93 : decode cX7_archive 93 = .ok (.invokevirtual 97, 3) := by decide +kernel
theorem dX7_archive_96 : decode cX7_archive 96 = .ok (.invokestatic 100, 3) := by decide +kernel
theorem dX7_archive_99 : decode cX7_archive 99 = .ok (.istore_n 3, 1) := by decide +kernel
theorem dX7_archive_100 : decode cX7_archive 100 = .ok (.goto (-64), 3) := by decide +kernel
theorem dX7_archive_103 : decode cX7_archive 103 = .ok (.iload_n 2, 1) := by decide +kernel
theorem dX7_archive_104 : decode cX7_archive 104 = .ok (.ifCond .lt 14, 3) := by decide +kernel
theorem dX7_archive_107 : decode cX7_archive 107 = .ok (.aload_n 0, 1) := by decide +kernel
theorem dX7_archive_108 : decode cX7_archive 108 = .ok (.getfield 10, 3) := by decide +kernel
theorem dX7_archive_111 : decode cX7_archive 111 = .ok (.aload_n 0, 1) := by decide +kernel
theorem dX7_archive_112 : decode cX7_archive 112 = .ok (.getfield 19, 3) := by decide +kernel
theorem dX7_archive_115 : decode cX7_archive 115 = .ok (.invokevirtual 89, 3) := by decide +kernel
theorem dX7_archive_118 : decode cX7_archive 118 = .ok (.aload_n 0, 1) := by decide +kernel
theorem dX7_archive_119 : decode cX7_archive 119 = .ok (.getfield 39, 3) := by decide +kernel
theorem dX7_archive_122 : decode cX7_archive 122 = .ok (.getfield 71, 3) := by decide +kernel
theorem dX7_archive_125 : decode cX7_archive 125 = .ok (.invokevirtual 106, 3) := by decide +kernel
theorem dX7_archive_128 : decode cX7_archive 128 = .ok (.iload_n 2, 1) := by decide +kernel
theorem dX7_archive_129 : decode cX7_archive 129 = .ok (.ireturn, 1) := by decide +kernel
theorem dX7_edits_0 : decode cX7_edits 0 = .ok (.aload_n 0, 1) := by decide +kernel
theorem dX7_edits_1 : decode cX7_edits 1 = .ok (.getfield 10, 3) := by decide +kernel
theorem dX7_edits_4 : decode cX7_edits 4 = .ok (.iload_n 1, 1) := by decide +kernel
theorem dX7_edits_5 : decode cX7_edits 5 = .ok (.invokevirtual 109, 3) := by decide +kernel
theorem dX7_edits_8 : decode cX7_edits 8 = .ok (.ifCond .ne 9, 3) := by decide +kernel
theorem dX7_edits_11 : decode cX7_edits 11 = .ok (.aload_n 0, 1) := by decide +kernel
theorem dX7_edits_12 : decode cX7_edits 12 = .ok (.iconst (-1), 1) := by decide +kernel
theorem dX7_edits_13 : decode cX7_edits 13 = .ok (.invokevirtual 67, 3) := by decide +kernel
theorem dX7_edits_16 : decode cX7_edits 16 = .ok (.ireturn, 1) := by decide +kernel
theorem dX7_edits_17 : decode cX7_edits 17 = .ok (.aload_n 0, 1) := by decide +kernel
theorem dX7_edits_18 : decode cX7_edits 18 = .ok (.getfield 10, 3) := by decide +kernel
theorem dX7_edits_21 : decode cX7_edits 21 = .ok (.getfield 113, 3) := by decide +kernel
theorem dX7_edits_24 : decode cX7_edits 24 = .ok (.iload_n 1, 1) := by decide +kernel
theorem dX7_edits_25 : decode cX7_edits 25 = .ok (.aaload, 1) := by decide +kernel
theorem dX7_edits_26 : decode cX7_edits 26 = .ok (.getfield 117, 3) := by decide +kernel
theorem dX7_edits_29 : decode cX7_edits 29 = .ok (.getfield 81, 3) := by decide +kernel
theorem dX7_edits_32 : decode cX7_edits 32 = .ok (.istore 4, 2) := by decide +kernel
theorem dX7_edits_34 : decode cX7_edits 34 = .ok (.iload_n 2, 1) := by decide +kernel
theorem dX7_edits_35 : decode cX7_edits 35 = .ok (.ifCond .lt 9, 3) := by decide +kernel
theorem dX7_edits_38 : decode cX7_edits 38 = .ok (.iload_n 2, 1) := by decide +kernel
theorem dX7_edits_39 : decode cX7_edits 39 = .ok (.iload 4, 2) := by decide +kernel
theorem dX7_edits_41 : decode cX7_edits 41 = .ok (.if_icmp .le 9, 3) := by decide +kernel
theorem dX7_edits_44 : decode cX7_edits 44 = .ok (.aload_n 0, 1) := by decide +kernel
theorem dX7_edits_45 : decode cX7_edits 45 = .ok (.iconst (-1), 1) := by decide +kernel
theorem dX7_edits_46 : decode cX7_edits 46 = .ok (.invokevirtual 67, 3) := by decide +kernel
theorem dX7_edits_49 : decode cX7_edits 49 = .ok (.ireturn, 1) := by decide +kernel
theorem dX7_edits_50 : decode cX7_edits 50 = .ok (.iload_n 3, 1) := by decide +kernel
theorem dX7_edits_51 : decode cX7_edits 51 = .ok (.ifCond .lt 9, 3) := by decide +kernel
theorem dX7_edits_54 : decode cX7_edits 54 = .ok (.iload_n 3, 1) := by decide +kernel
theorem dX7_edits_55 : decode cX7_edits 55 = .ok (.bipush 8, 2) := by decide +kernel
theorem dX7_edits_57 : decode cX7_edits 57 = .ok (.if_icmp .le 10, 3) := by decide +kernel
theorem dX7_edits_60 : decode cX7_edits 60 = .ok (.aload_n 0, 1) := by decide +kernel
theorem dX7_edits_61 : decode cX7_edits 61 = .ok (.bipush (-2), 2) := by decide +kernel
theorem dX7_edits_63 : decode cX7_edits 63 = .ok (.invokevirtual 67, 3) := by decide +kernel
theorem dX7_edits_66 : decode cX7_edits 66 = .ok (.ireturn, 1) := by decide +kernel
theorem dX7_edits_67 : decode cX7_edits 67 = .ok (.iload_n 3, 1) := by decide +kernel
theorem dX7_edits_68 : decode cX7_edits 68 = .ok (.bipush 8, 2) := by decide +kernel
theorem dX7_edits_70 : decode cX7_edits 70 = .ok (.if_icmp .ne 22, 3) := by decide +kernel
theorem dX7_edits_73 : decode cX7_edits 73 = .ok (.iload 4, 2) := by decide +kernel
theorem dX7_edits_75 : decode cX7_edits 75 = .ok (.iconst 1, 1) := by decide +kernel
theorem dX7_edits_76 : decode cX7_edits 76 = .ok (.if_icmp .eq 9, 3) := by decide +kernel
theorem dX7_edits_79 : decode cX7_edits 79 = .ok (.iload_n 2, 1) := by decide +kernel
theorem dX7_edits_80 : decode cX7_edits 80 = .ok (.iload 4, 2) := by decide +kernel
theorem dX7_edits_82 : decode cX7_edits 82 = .ok (.if_icmp .ne 10, 3) := by decide +kernel
theorem dX7_edits_85 : decode cX7_edits 85 = .ok (.aload_n 0, 1) := by decide +kernel
theorem dX7_edits_86 : decode cX7_edits 86 = .ok (.bipush (-3), 2) := by decide +kernel
theorem dX7_edits_88 : decode cX7_edits 88 = .ok (.invokevirtual 67, 3) := by decide +kernel
theorem dX7_edits_91 : decode cX7_edits 91 = .ok (.ireturn, 1) := by decide +kernel
theorem dX7_edits_92 : decode cX7_edits 92 = .ok (.iload_n 2, 1) := by decide +kernel
theorem dX7_edits_93 : decode cX7_edits 93 = .ok (.bipush 12, 2) := by decide +kernel
theorem dX7_edits_95 : decode cX7_edits 95 = .ok (.if_icmp .eq 13, 3) := by decide +kernel
theorem dX7_edits_98 : decode cX7_edits 98 = .ok (.aload_n 0, 1) := by decide +kernel
theorem dX7_edits_99 : decode cX7_edits 99 = .ok (.getfield 10, 3) := by decide +kernel
theorem dX7_edits_102 : decode cX7_edits 102 = .ok (.invokevirtual 122, 3) := by decide +kernel
theorem dX7_edits_105 : decode cX7_edits 105 = .ok (.ifCond .ne 10, 3) := by decide +kernel
theorem dX7_edits_108 : decode cX7_edits 108 = .ok (.aload_n 0, 1) := by decide +kernel
theorem dX7_edits_109 : decode cX7_edits 109 = .ok (.bipush (-6), 2) := by decide +kernel
theorem dX7_edits_111 : decode cX7_edits 111 = .ok (.invokevirtual 67, 3) := by decide +kernel
theorem dX7_edits_114 : decode cX7_edits 114 = .ok (.ireturn, 1) := by decide +kernel
theorem dX7_edits_115 : decode cX7_edits 115 = .ok (.aload_n 0, 1) := by decide +kernel
theorem dX7_edits_116 : decode cX7_edits 116 = .ok (.getfield 10, 3) := by decide +kernel
theorem dX7_edits_119 : decode cX7_edits 119 = .ok (.iload_n 1, 1) := by decide +kernel
theorem dX7_edits_120 : decode cX7_edits 120 = .ok (.iload_n 2, 1) := by decide +kernel
theorem dX7_edits_121 : decode cX7_edits 121 = .ok (.iload_n 3, 1) := by decide +kernel
theorem dX7_edits_122 : decode cX7_edits 122 = .ok (.invokevirtual 125, 3) := by decide +kernel
theorem dX7_edits_125 : decode cX7_edits 125 = .ok (.ireturn, 1) := by decide +kernel
theorem dX7_merges_0 : decode cX7_merges 0 = .ok (.aload_n 0, 1) := by decide +kernel
theorem dX7_merges_1 : decode cX7_merges 1 = .ok (.getfield 10, 3) := by decide +kernel
theorem dX7_merges_4 : decode cX7_merges 4 = .ok (.iload_n 1, 1) := by decide +kernel
theorem dX7_merges_5 : decode cX7_merges 5 = .ok (.invokevirtual 109, 3) := by decide +kernel
theorem dX7_merges_8 : decode cX7_merges 8 = .ok (.ifCond .eq 14, 3) := by decide +kernel
theorem dX7_merges_11 : decode cX7_merges 11 = .ok (.aload_n 0, 1) := by decide +kernel
theorem dX7_merges_12 : decode cX7_merges 12 = .ok (.getfield 10, 3) := by decide +kernel
theorem dX7_merges_15 : decode cX7_merges 15 = .ok (.iload_n 2, 1) := by decide +kernel
theorem dX7_merges_16 : decode cX7_merges 16 = .ok (.invokevirtual 109, 3) := by decide +kernel
theorem dX7_merges_19 : decode cX7_merges 19 = .ok (.ifCond .ne 9, 3) := by decide +kernel
theorem dX7_merges_22 : decode cX7_merges 22 = .ok (.aload_n 0, 1) := by decide +kernel
theorem dX7_merges_23 : decode cX7_merges 23 = .ok (.iconst (-1), 1) := by decide +kernel
theorem dX7_merges_24 : decode cX7_merges 24 = .ok (.invokevirtual 67, 3) := by decide +kernel
theorem dX7_merges_27 : decode cX7_merges 27 = .ok (.ireturn, 1) := by decide +kernel
theorem dX7_merges_28 : decode cX7_merges 28 = .ok (.iload_n 1, 1) := by decide +kernel
theorem dX7_merges_29 : decode cX7_merges 29 = .ok (.iload_n 2, 1) := by decide +kernel
theorem dX7_merges_30 : decode cX7_merges 30 = .ok (.if_icmp .ne 10, 3) := by decide +kernel
theorem dX7_merges_33 : decode cX7_merges 33 = .ok (.aload_n 0, 1) := by decide +kernel
theorem dX7_merges_34 : decode cX7_merges 34 = .ok (.bipush (-3), 2) := by decide +kernel
theorem dX7_merges_36 : decode cX7_merges 36 = .ok (.invokevirtual 67, 3) := by decide +kernel
theorem dX7_merges_39 : decode cX7_merges 39 = .ok (.ireturn, 1) := by decide +kernel
theorem dX7_merges_40 : decode cX7_merges 40 = .ok (.aload_n 0, 1) := by decide +kernel
theorem dX7_merges_41 : decode cX7_merges 41 = .ok (.getfield 10, 3) := by decide +kernel
theorem dX7_merges_44 : decode cX7_merges 44 = .ok (.invokevirtual 122, 3) := by decide +kernel
theorem dX7_merges_47 : decode cX7_merges 47 = .ok (.ifCond .ne 10, 3) := by decide +kernel
theorem dX7_merges_50 : decode cX7_merges 50 = .ok (.aload_n 0, 1) := by decide +kernel
theorem dX7_merges_51 : decode cX7_merges 51 = .ok (.bipush (-6), 2) := by decide +kernel
theorem dX7_merges_53 : decode cX7_merges 53 = .ok (.invokevirtual 67, 3) := by decide +kernel
theorem dX7_merges_56 : decode cX7_merges 56 = .ok (.ireturn, 1) := by decide +kernel
theorem dX7_merges_57 : decode cX7_merges 57 = .ok (.aload_n 0, 1) := by decide +kernel
theorem dX7_merges_58 : decode cX7_merges 58 = .ok (.getfield 10, 3) := by decide +kernel
theorem dX7_merges_61 : decode cX7_merges 61 = .ok (.iload_n 1, 1) := by decide +kernel
theorem dX7_merges_62 : decode cX7_merges 62 = .ok (.iload_n 2, 1) := by decide +kernel
theorem dX7_merges_63 : decode cX7_merges 63 = .ok (.aload_n 0, 1) := by decide +kernel
theorem dX7_merges_64 : decode cX7_merges 64 = .ok (.getfield 10, 3) := by decide +kernel
theorem dX7_merges_67 : decode cX7_merges 67 = .ok (.getfield 113, 3) := by decide +kernel
theorem dX7_merges_70 : decode cX7_merges 70 = .ok (.iload_n 1, 1) := by decide +kernel
theorem dX7_merges_71 : decode cX7_merges 71 = .ok (.aaload, 1) := by decide +kernel
theorem dX7_merges_72 : decode cX7_merges 72 = .ok (.getfield 117, 3) := by decide +kernel
theorem dX7_merges_75 : decode cX7_merges 75 = .ok (.invokevirtual 129, 3) := by decide +kernel
theorem dX7_merges_78 : decode cX7_merges 78 = .ok (.ireturn, 1) := by decide +kernel
theorem dX7_heads_0 : decode cX7_heads 0 = .ok (.iload_n 1, 1) := by decide +kernel
theorem dX7_heads_1 : decode cX7_heads 1 = .ok (.invokestatic 133, 3) := by decide +kernel
theorem dX7_heads_4 : decode cX7_heads 4 = .ok (.ifCond .eq 19, 3) := by decide +kernel
theorem dX7_heads_7 : decode cX7_heads 7 = .ok (.iload_n 2, 1) := by decide +kernel
theorem dX7_heads_8 : decode cX7_heads 8 = .ok (.iconst (-1), 1) := by decide +kernel
theorem dX7_heads_9 : decode cX7_heads 9 = .ok (.if_icmp .eq 20, 3) := by decide +kernel
theorem dX7_heads_12 : decode cX7_heads 12 = .ok (.aload_n 0, 1) := by decide +kernel
theorem dX7_heads_13 : decode cX7_heads 13 = .ok (.getfield 10, 3) := by decide +kernel
theorem dX7_heads_16 : decode cX7_heads 16 = .ok (.iload_n 2, 1) := by decide +kernel
theorem dX7_heads_17 : decode cX7_heads 17 = .ok (.invokevirtual 109, 3) := by decide +kernel
theorem dX7_heads_20 : decode cX7_heads 20 = .ok (.ifCond .ne 9, 3) := by decide +kernel
theorem dX7_heads_23 : decode cX7_heads 23 = .ok (.aload_n 0, 1) := by decide +kernel
theorem dX7_heads_24 : decode cX7_heads 24 = .ok (.iconst (-1), 1) := by decide +kernel
theorem dX7_heads_25 : decode cX7_heads 25 = .ok (.invokevirtual 67, 3) := by decide +kernel
theorem dX7_heads_28 : decode cX7_heads 28 = .ok (.ireturn, 1) := by decide +kernel
theorem dX7_heads_29 : decode cX7_heads 29 = .ok (.aload_n 0, 1) := by decide +kernel
theorem dX7_heads_30 : decode cX7_heads 30 = .ok (.getfield 10, 3) := by decide +kernel
theorem dX7_heads_33 : decode cX7_heads 33 = .ok (.getfield 136, 3) := by decide +kernel
theorem dX7_heads_36 : decode cX7_heads 36 = .ok (.iload_n 1, 1) := by decide +kernel
theorem dX7_heads_37 : decode cX7_heads 37 = .ok (.iaload, 1) := by decide +kernel
theorem dX7_heads_38 : decode cX7_heads 38 = .ok (.istore_n 3, 1) := by decide +kernel
theorem dX7_heads_39 : decode cX7_heads 39 = .ok (.aload_n 0, 1) := by decide +kernel
theorem dX7_heads_40 : decode cX7_heads 40 = .ok (.getfield 10, 3) := by decide +kernel
theorem dX7_heads_43 : decode cX7_heads 43 = .ok (.getfield 136, 3) := by decide +kernel
theorem dX7_heads_46 : decode cX7_heads 46 = .ok (.iload_n 1, 1) := by decide +kernel
theorem dX7_heads_47 : decode cX7_heads 47 = .ok (.iload_n 2, 1) := by decide +kernel
theorem dX7_heads_48 : decode cX7_heads 48 = .ok (.iastore, 1) := by decide +kernel
theorem dX7_heads_49 : decode cX7_heads 49 = .ok (.iload_n 3, 1) := by decide +kernel
theorem dX7_heads_50 : decode cX7_heads 50 = .ok (.invokestatic 139, 3) := by decide +kernel
theorem dX7_heads_53 : decode cX7_heads 53 = .ok (.ireturn, 1) := by decide +kernel
theorem dX7_kind_0 : decode cX7_kind 0 = .ok (.iload_n 1, 1) := by decide +kernel
theorem dX7_kind_1 : decode cX7_kind 1 = .ok (.ifCond .lt 9, 3) := by decide +kernel
theorem dX7_kind_4 : decode cX7_kind 4 = .ok (.iload_n 1, 1) := by decide +kernel
theorem dX7_kind_5 : decode cX7_kind 5 = .ok (.bipush 6, 2) := by decide +kernel
theorem dX7_kind_7 : decode cX7_kind 7 = .ok (.if_icmp .lt 10, 3) := by decide +kernel
theorem dX7_kind_10 : decode cX7_kind 10 = .ok (.aload_n 0, 1) := by decide +kernel
theorem dX7_kind_11 : decode cX7_kind 11 = .ok (.bipush (-2), 2) := by decide +kernel
theorem dX7_kind_13 : decode cX7_kind 13 = .ok (.invokevirtual 67, 3) := by decide +kernel
theorem dX7_kind_16 : decode cX7_kind 16 = .ok (.ireturn, 1) := by decide +kernel
theorem dX7_kind_17 : decode cX7_kind 17 = .ok (.iload_n 2, 1) := by decide +kernel
theorem dX7_kind_18 : decode cX7_kind 18 = .ok (.ifCond .ge 10, 3) := by decide +kernel
theorem dX7_kind_21 : decode cX7_kind 21 = .ok (.aload_n 0, 1) := by decide +kernel
theorem dX7_kind_22 : decode cX7_kind 22 = .ok (.bipush (-4), 2) := by decide +kernel
theorem dX7_kind_24 : decode cX7_kind 24 = .ok (.invokevirtual 67, 3) := by decide +kernel
theorem dX7_kind_27 : decode cX7_kind 27 = .ok (.ireturn, 1) := by decide +kernel
theorem dX7_kind_28 : decode cX7_kind 28 = .ok (.iload_n 2, 1) := by decide +kernel
theorem dX7_kind_29 : decode cX7_kind 29 = .ok (.bipush 9, 2) := by decide +kernel
theorem dX7_kind_31 : decode cX7_kind 31 = .ok (.if_icmp .le 10, 3) := by decide +kernel
theorem dX7_kind_34 : decode cX7_kind 34 = .ok (.aload_n 0, 1) := by decide +kernel
theorem dX7_kind_35 : decode cX7_kind 35 = .ok (.bipush (-6), 2) := by decide +kernel
theorem dX7_kind_37 : decode cX7_kind 37 = .ok (.invokevirtual 67, 3) := by decide +kernel
theorem dX7_kind_40 : decode cX7_kind 40 = .ok (.ireturn, 1) := by decide +kernel
theorem dX7_kind_41 : decode cX7_kind 41 = .ok (.bipush 10, 2) := by decide +kernel
theorem dX7_kind_43 : decode cX7_kind 43 = .ok (.aload_n 0, 1) := by decide +kernel
theorem dX7_kind_44 : decode cX7_kind 44 = .ok (.getfield 10, 3) := by decide +kernel
theorem dX7_kind_47 : decode cX7_kind 47 = .ok (.getfield 142, 3) := by decide +kernel
theorem dX7_kind_50 : decode cX7_kind 50 = .ok (.imul, 1) := by decide +kernel
theorem dX7_kind_51 : decode cX7_kind 51 = .ok (.aload_n 0, 1) := by decide +kernel
theorem dX7_kind_52 : decode cX7_kind 52 = .ok (.getfield 10, 3) := by decide +kernel
theorem dX7_kind_55 : decode cX7_kind 55 = .ok (.getfield 145, 3) := by decide +kernel
theorem dX7_kind_58 : decode cX7_kind 58 = .ok (.iadd, 1) := by decide +kernel
theorem dX7_kind_59 : decode cX7_kind 59 = .ok (.istore_n 3, 1) := by decide +kernel
theorem dX7_kind_60 : decode cX7_kind 60 = .ok (.aload_n 0, 1) := by decide +kernel
theorem dX7_kind_61 : decode cX7_kind 61 = .ok (.getfield 10, 3) := by decide +kernel
theorem dX7_kind_64 : decode cX7_kind 64 = .ok (.iload_n 1, 1) := by decide +kernel
theorem dX7_kind_65 : decode cX7_kind 65 = .ok (.putfield 142, 3) := by decide +kernel
theorem dX7_kind_68 : decode cX7_kind 68 = .ok (.aload_n 0, 1) := by decide +kernel
theorem dX7_kind_69 : decode cX7_kind 69 = .ok (.getfield 10, 3) := by decide +kernel
theorem dX7_kind_72 : decode cX7_kind 72 = .ok (.iload_n 2, 1) := by decide +kernel
theorem dX7_kind_73 : decode cX7_kind 73 = .ok (.putfield 145, 3) := by decide +kernel
theorem dX7_kind_76 : decode cX7_kind 76 = .ok (.iload_n 3, 1) := by decide +kernel
theorem dX7_kind_77 : decode cX7_kind 77 = .ok (.ireturn, 1) := by decide +kernel
theorem dX7_bound_0 : decode cX7_bound 0 = .ok (.iload_n 1, 1) := by decide +kernel
theorem dX7_bound_1 : decode cX7_bound 1 = .ok (.ifCond .ge 10, 3) := by decide +kernel
theorem dX7_bound_4 : decode cX7_bound 4 = .ok (.aload_n 0, 1) := by decide +kernel
theorem dX7_bound_5 : decode cX7_bound 5 = .ok (.bipush (-4), 2) := by decide +kernel
theorem dX7_bound_7 : decode cX7_bound 7 = .ok (.invokevirtual 67, 3) := by decide +kernel
theorem dX7_bound_10 : decode cX7_bound 10 = .ok (.ireturn, 1) := by decide +kernel
theorem dX7_bound_11 : decode cX7_bound 11 = .ok (.iload_n 1, 1) := by decide +kernel
theorem dX7_bound_12 : decode cX7_bound 12 = .ok (.bipush 8, 2) := by decide +kernel
theorem dX7_bound_14 : decode cX7_bound 14 = .ok (.if_icmp .le 10, 3) := by decide +kernel
theorem dX7_bound_17 : decode cX7_bound 17 = .ok (.aload_n 0, 1) := by decide +kernel
theorem dX7_bound_18 : decode cX7_bound 18 = .ok (.bipush (-6), 2) := by decide +kernel
theorem dX7_bound_20 : decode cX7_bound 20 = .ok (.invokevirtual 67, 3) := by decide +kernel
theorem dX7_bound_23 : decode cX7_bound 23 = .ok (.ireturn, 1) := by decide +kernel
theorem dX7_bound_24 : decode cX7_bound 24 = .ok (.aload_n 0, 1) := by decide +kernel
theorem dX7_bound_25 : decode cX7_bound 25 = .ok (.getfield 10, 3) := by decide +kernel
theorem dX7_bound_28 : decode cX7_bound 28 = .ok (.getfield 148, 3) := by decide +kernel
theorem dX7_bound_31 : decode cX7_bound 31 = .ok (.istore_n 2, 1) := by decide +kernel
theorem dX7_bound_32 : decode cX7_bound 32 = .ok (.aload_n 0, 1) := by decide +kernel
theorem dX7_bound_33 : decode cX7_bound 33 = .ok (.getfield 10, 3) := by decide +kernel
theorem dX7_bound_36 : decode cX7_bound 36 = .ok (.iload_n 1, 1) := by decide +kernel
theorem dX7_bound_37 : decode cX7_bound 37 = .ok (.putfield 148, 3) := by decide +kernel
theorem dX7_bound_40 : decode cX7_bound 40 = .ok (.iload_n 2, 1) := by decide +kernel
theorem dX7_bound_41 : decode cX7_bound 41 = .ok (.ireturn, 1) := by decide +kernel
theorem dX7_repack_0 : decode cX7_repack 0 = .ok (.aload_n 0, 1) := by decide +kernel
theorem dX7_repack_1 : decode cX7_repack 1 = .ok (.getfield 25, 3) := by decide +kernel
theorem dX7_repack_4 : decode cX7_repack 4 = .ok (.aload_n 0, 1) := by decide +kernel
theorem dX7_repack_5 : decode cX7_repack 5 = .ok (.getfield 10, 3) := by decide +kernel
theorem dX7_repack_8 : decode cX7_repack 8 = .ok (.invokevirtual 151, 3) := by decide +kernel
theorem dX7_repack_11 : decode cX7_repack 11 = .ok (.aload_n 0, 1) := by decide +kernel
theorem dX7_repack_12 : decode cX7_repack 12 = .ok (.getfield 25, 3) := by decide +kernel
theorem dX7_repack_15 : decode cX7_repack 15 = .ok (.aload_n 0, 1) := by decide +kernel
theorem dX7_repack_16 : decode cX7_repack 16 = .ok (.getfield 10, 3) := by decide +kernel
theorem dX7_repack_19 : decode cX7_repack 19 = .ok (.getfield 142, 3) := by decide +kernel
theorem dX7_repack_22 : decode cX7_repack 22 = .ok (.aload_n 0, 1) := by decide +kernel
theorem dX7_repack_23 : decode cX7_repack 23 = .ok (.getfield 10, 3) := by decide +kernel
theorem dX7_repack_26 : decode cX7_repack 26 = .ok (.getfield 145, 3) := by decide +kernel
theorem dX7_repack_29 : decode cX7_repack 29 = .ok (.aload_n 0, 1) := by decide +kernel
theorem dX7_repack_30 : decode cX7_repack 30 = .ok (.getfield 10, 3) := by decide +kernel
theorem dX7_repack_33 : decode cX7_repack 33 = .ok (.getfield 148, 3) := by decide +kernel
theorem dX7_repack_36 : decode cX7_repack 36 = .ok (.invokevirtual 154, 3) := by decide +kernel
theorem dX7_repack_39 : decode cX7_repack 39 = .ok (.aload_n 0, 1) := by decide +kernel
theorem dX7_repack_40 : decode cX7_repack 40 = .ok (.getfield 10, 3) := by decide +kernel
theorem dX7_repack_43 : decode cX7_repack 43 = .ok (.aload_n 0, 1) := by decide +kernel
theorem dX7_repack_44 : decode cX7_repack 44 = .ok (.getfield 25, 3) := by decide +kernel
theorem dX7_repack_47 : decode cX7_repack 47 = .ok (.invokevirtual 158, 3) := by decide +kernel
theorem dX7_repack_50 : decode cX7_repack 50 = .ok (.aload_n 0, 1) := by decide +kernel
theorem dX7_repack_51 : decode cX7_repack 51 = .ok (.getfield 10, 3) := by decide +kernel
theorem dX7_repack_54 : decode cX7_repack 54 = .ok (.invokevirtual 162, 3) := by decide +kernel
theorem dX7_repack_57 : decode cX7_repack 57 = .ok (.ireturn, 1) := by decide +kernel
theorem dX7_collect_0 : decode cX7_collect 0 = .ok (.aload_n 0, 1) := by decide +kernel
theorem dX7_collect_1 : decode cX7_collect 1 = .ok (.getfield 10, 3) := by decide +kernel
theorem dX7_collect_4 : decode cX7_collect 4 = .ok (.invokevirtual 165, 3) := by decide +kernel
theorem dX7_collect_7 : decode cX7_collect 7 = .ok (.ireturn, 1) := by decide +kernel
theorem dX7_damages_0 : decode cX7_damages 0 = .ok (.aload_n 0, 1) := by decide +kernel
theorem dX7_damages_1 : decode cX7_damages 1 = .ok (.getfield 10, 3) := by decide +kernel
theorem dX7_damages_4 : decode cX7_damages 4 = .ok (.iload_n 1, 1) := by decide +kernel
theorem dX7_damages_5 : decode cX7_damages 5 = .ok (.invokevirtual 109, 3) := by decide +kernel
theorem dX7_damages_8 : decode cX7_damages 8 = .ok (.ifCond .ne 9, 3) := by decide +kernel
theorem dX7_damages_11 : decode cX7_damages 11 = .ok (.aload_n 0, 1) := by decide +kernel
theorem dX7_damages_12 : decode cX7_damages 12 = .ok (.iconst (-1), 1) := by decide +kernel
theorem dX7_damages_13 : decode cX7_damages 13 = .ok (.invokevirtual 67, 3) := by decide +kernel
theorem dX7_damages_16 : decode cX7_damages 16 = .ok (.ireturn, 1) := by decide +kernel
theorem dX7_damages_17 : decode cX7_damages 17 = .ok (.aload_n 0, 1) := by decide +kernel
theorem dX7_damages_18 : decode cX7_damages 18 = .ok (.getfield 10, 3) := by decide +kernel
theorem dX7_damages_21 : decode cX7_damages 21 = .ok (.getfield 113, 3) := by decide +kernel
theorem dX7_damages_24 : decode cX7_damages 24 = .ok (.iload_n 1, 1) := by decide +kernel
theorem dX7_damages_25 : decode cX7_damages 25 = .ok (.aaload, 1) := by decide +kernel
theorem dX7_damages_26 : decode cX7_damages 26 = .ok (.astore 4, 2) := by decide +kernel
theorem dX7_damages_28 : decode cX7_damages 28 = .ok (.aload 4, 2) := by decide +kernel
theorem dX7_damages_30 : decode cX7_damages 30 = .ok (.invokevirtual 168, 3) := by decide +kernel
theorem dX7_damages_33 : decode cX7_damages 33 = .ok (.ifCond .ne 10, 3) := by decide +kernel
theorem dX7_damages_36 : decode cX7_damages 36 = .ok (.aload_n 0, 1) := by decide +kernel
theorem dX7_damages_37 : decode cX7_damages 37 = .ok (.bipush (-3), 2) := by decide +kernel
theorem dX7_damages_39 : decode cX7_damages 39 = .ok (.invokevirtual 67, 3) := by decide +kernel
theorem dX7_damages_42 : decode cX7_damages 42 = .ok (.ireturn, 1) := by decide +kernel
theorem dX7_damages_43 : decode cX7_damages 43 = .ok (.iload_n 2, 1) := by decide +kernel
theorem dX7_damages_44 : decode cX7_damages 44 = .ok (.ifCond .lt 15, 3) := by decide +kernel
theorem dX7_damages_47 : decode cX7_damages 47 = .ok (.iload_n 2, 1) := by decide +kernel
theorem dX7_damages_48 : decode cX7_damages 48 = .ok (.aload 4, 2) := by decide +kernel
theorem dX7_damages_50 : decode cX7_damages 50 = .ok (.getfield 117, 3) := by decide +kernel
theorem dX7_damages_53 : decode cX7_damages 53 = .ok (.getfield 81, 3) := by decide +kernel
theorem dX7_damages_56 : decode cX7_damages 56 = .ok (.if_icmp .lt 9, 3) := by decide +kernel
theorem dX7_damages_59 : decode cX7_damages 59 = .ok (.aload_n 0, 1) := by decide +kernel
theorem dX7_damages_60 : decode cX7_damages 60 = .ok (.iconst (-1), 1) := by decide +kernel
theorem dX7_damages_61 : decode cX7_damages 61 = .ok (.invokevirtual 67, 3) := by decide +kernel
theorem dX7_damages_64 : decode cX7_damages 64 = .ok (.ireturn, 1) := by decide +kernel
theorem dX7_damages_65 : decode cX7_damages 65 = .ok (.iload_n 3, 1) := by decide +kernel
theorem dX7_damages_66 : decode cX7_damages 66 = .ok (.ifCond .lt 9, 3) := by decide +kernel
theorem dX7_damages_69 : decode cX7_damages 69 = .ok (.iload_n 3, 1) := by decide +kernel
theorem dX7_damages_70 : decode cX7_damages 70 = .ok (.bipush 8, 2) := by decide +kernel
theorem dX7_damages_72 : decode cX7_damages 72 = .ok (.if_icmp .lt 10, 3) := by decide +kernel
theorem dX7_damages_75 : decode cX7_damages 75 = .ok (.aload_n 0, 1) := by decide +kernel
theorem dX7_damages_76 : decode cX7_damages 76 = .ok (.bipush (-2), 2) := by decide +kernel
theorem dX7_damages_78 : decode cX7_damages 78 = .ok (.invokevirtual 67, 3) := by decide +kernel
theorem dX7_damages_81 : decode cX7_damages 81 = .ok (.ireturn, 1) := by decide +kernel
theorem dX7_damages_82 : decode cX7_damages 82 = .ok (.aload 4, 2) := by decide +kernel
theorem dX7_damages_84 : decode cX7_damages 84 = .ok (.getfield 117, 3) := by decide +kernel
theorem dX7_damages_87 : decode cX7_damages 87 = .ok (.iload_n 2, 1) := by decide +kernel
theorem dX7_damages_88 : decode cX7_damages 88 = .ok (.invokevirtual 171, 3) := by decide +kernel
theorem dX7_damages_91 : decode cX7_damages 91 = .ok (.istore 5, 2) := by decide +kernel
theorem dX7_damages_93 : decode cX7_damages 93 = .ok (.aload_n 0, 1) := by decide +kernel
theorem dX7_damages_94 : decode cX7_damages 94 = .ok (.getfield 10, 3) := by decide +kernel
theorem dX7_damages_97 : decode cX7_damages 97 = .ok (.iload_n 1, 1) := by decide +kernel
theorem dX7_damages_98 : decode cX7_damages 98 = .ok (.iload_n 2, 1) := by decide +kernel
theorem dX7_damages_99 : decode cX7_damages 99 = .ok (.iload_n 3, 1) := by decide +kernel
theorem dX7_damages_100 : decode cX7_damages 100 = .ok (.invokevirtual 174, 3) := by decide +kernel
theorem dX7_damages_103 : decode cX7_damages 103 = .ok (.iload 5, 2) := by decide +kernel
theorem dX7_damages_105 : decode cX7_damages 105 = .ok (.ireturn, 1) := by decide +kernel
theorem dX7_version_0 : decode cX7_version 0 = .ok (.aload_n 0, 1) := by decide +kernel
theorem dX7_version_1 : decode cX7_version 1 = .ok (.getfield 10, 3) := by decide +kernel
theorem dX7_version_4 : decode cX7_version 4 = .ok (.iload_n 1, 1) := by decide +kernel
theorem dX7_version_5 : decode cX7_version 5 = .ok (.invokevirtual 109, 3) := by decide +kernel
theorem dX7_version_8 : decode cX7_version 8 = .ok (.ifCond .ne 9, 3) := by decide +kernel
theorem dX7_version_11 : decode cX7_version 11 = .ok (.aload_n 0, 1) := by decide +kernel
theorem dX7_version_12 : decode cX7_version 12 = .ok (.iconst (-1), 1) := by decide +kernel
theorem dX7_version_13 : decode cX7_version 13 = .ok (.invokevirtual 67, 3) := by decide +kernel
theorem dX7_version_16 : decode cX7_version 16 = .ok (.ireturn, 1) := by decide +kernel
theorem dX7_version_17 : decode cX7_version 17 = .ok (.aload_n 0, 1) := by decide +kernel
theorem dX7_version_18 : decode cX7_version 18 = .ok (.getfield 10, 3) := by decide +kernel
theorem dX7_version_21 : decode cX7_version 21 = .ok (.getfield 113, 3) := by decide +kernel
theorem dX7_version_24 : decode cX7_version 24 = .ok (.iload_n 1, 1) := by decide +kernel
theorem dX7_version_25 : decode cX7_version 25 = .ok (.aaload, 1) := by decide +kernel
theorem dX7_version_26 : decode cX7_version 26 = .ok (.astore_n 3, 1) := by decide +kernel
theorem dX7_version_27 : decode cX7_version 27 = .ok (.iload_n 2, 1) := by decide +kernel
theorem dX7_version_28 : decode cX7_version 28 = .ok (.tableswitch 135 0 8 #[52, 60, 68, 76, 84, 93, 98, 103, 116], 52) := by decide +kernel
theorem dX7_version_80 : decode cX7_version 80 = .ok (.aload_n 3, 1) := by decide +kernel
theorem dX7_version_81 : decode cX7_version 81 = .ok (.getfield 117, 3) := by decide +kernel
theorem dX7_version_84 : decode cX7_version 84 = .ok (.getfield 81, 3) := by decide +kernel
theorem dX7_version_87 : decode cX7_version 87 = .ok (.ireturn, 1) := by decide +kernel
theorem dX7_version_88 : decode cX7_version 88 = .ok (.aload_n 3, 1) := by decide +kernel
theorem dX7_version_89 : decode cX7_version 89 = .ok (.getfield 177, 3) := by decide +kernel
theorem dX7_version_92 : decode cX7_version 92 = .ok (.invokestatic 139, 3) := by decide +kernel
theorem dX7_version_95 : decode cX7_version 95 = .ok (.ireturn, 1) := by decide +kernel
theorem dX7_version_96 : decode cX7_version 96 = .ok (.aload_n 3, 1) := by decide +kernel
theorem dX7_version_97 : decode cX7_version 97 = .ok (.getfield 180, 3) := by decide +kernel
theorem dX7_version_100 : decode cX7_version 100 = .ok (.invokestatic 139, 3) := by decide +kernel
theorem dX7_version_103 : decode cX7_version 103 = .ok (.ireturn, 1) := by decide +kernel
theorem dX7_version_104 : decode cX7_version 104 = .ok (.aload_n 3, 1) := by decide +kernel
theorem dX7_version_105 : decode cX7_version 105 = .ok (.getfield 183, 3) := by decide +kernel
theorem dX7_version_108 : decode cX7_version 108 = .ok (.invokestatic 139, 3) := by decide +kernel
theorem dX7_version_111 : decode cX7_version 111 = .ok (.ireturn, 1) := by decide +kernel
theorem dX7_version_112 : decode cX7_version 112 = .ok (.aload_n 0, 1) := by decide +kernel
theorem dX7_version_113 : decode cX7_version 113 = .ok (.getfield 10, 3) := by decide +kernel
theorem dX7_version_116 : decode cX7_version 116 = .ok (.iload_n 1, 1) := by decide +kernel
theorem dX7_version_117 : decode cX7_version 117 = .ok (.invokevirtual 186, 3) := by decide +kernel
theorem dX7_version_120 : decode cX7_version 120 = .ok (.ireturn, 1) := by decide +kernel
theorem dX7_version_121 : decode cX7_version 121 = .ok (.aload_n 3, 1) := by decide +kernel
theorem dX7_version_122 : decode cX7_version 122 = .ok (.invokevirtual 189, 3) := by decide +kernel
theorem dX7_version_125 : decode cX7_version 125 = .ok (.ireturn, 1) := by decide +kernel
theorem dX7_version_126 : decode cX7_version 126 = .ok (.aload_n 3, 1) := by decide +kernel
theorem dX7_version_127 : decode cX7_version 127 = .ok (.getfield 192, 3) := by decide +kernel
theorem dX7_version_130 : decode cX7_version 130 = .ok (.ireturn, 1) := by decide +kernel
theorem dX7_version_131 : decode cX7_version 131 = .ok (.aload_n 3, 1) := by decide +kernel
theorem dX7_version_132 : decode cX7_version 132 = .ok (.invokevirtual 195, 3) := by decide +kernel
theorem dX7_version_135 : decode cX7_version 135 = .ok (.ifCond .eq 7, 3) := by decide +kernel
theorem dX7_version_138 : decode cX7_version 138 = .ok (.iconst 1, 1) := by decide +kernel
theorem dX7_version_139 : decode cX7_version 139 = .ok (.goto 4, 3) := by decide +kernel
theorem dX7_version_142 : decode cX7_version 142 = .ok (.iconst 0, 1) := by decide +kernel
theorem dX7_version_143 : decode cX7_version 143 = .ok (.ireturn, 1) := by decide +kernel
theorem dX7_version_144 : decode cX7_version 144 = .ok (.aload_n 3, 1) := by decide +kernel
theorem dX7_version_145 : decode cX7_version 145 = .ok (.invokevirtual 168, 3) := by decide +kernel
theorem dX7_version_148 : decode cX7_version 148 = .ok (.ifCond .eq 7, 3) := by decide +kernel
theorem dX7_version_151 : decode cX7_version 151 = .ok (.iconst 0, 1) := by decide +kernel
theorem dX7_version_152 : decode cX7_version 152 = .ok (.goto 10, 3) := by decide +kernel
theorem dX7_version_155 : decode cX7_version 155 = .ok (.aload_n 3, 1) := by decide +kernel
theorem dX7_version_156 : decode cX7_version 156 = .ok (.getfield 198, 3) := by decide +kernel
theorem dX7_version_159 : decode cX7_version 159 = .ok (.getfield 201, 3) := by decide +kernel
theorem dX7_version_162 : decode cX7_version 162 = .ok (.ireturn, 1) := by decide +kernel
theorem dX7_version_163 : decode cX7_version 163 = .ok (.aload_n 0, 1) := by decide +kernel
theorem dX7_version_164 : decode cX7_version 164 = .ok (.bipush (-2), 2) := by decide +kernel
theorem dX7_version_166 : decode cX7_version 166 = .ok (.invokevirtual 67, 3) := by decide +kernel
theorem dX7_version_169 : decode cX7_version 169 = .ok (.ireturn, 1) := by decide +kernel
theorem dX7_spelt_0 : decode cX7_spelt 0 = .ok (.aload_n 0, 1) := by decide +kernel
theorem dX7_spelt_1 : decode cX7_spelt 1 = .ok (.getfield 10, 3) := by decide +kernel
theorem dX7_spelt_4 : decode cX7_spelt 4 = .ok (.iload_n 1, 1) := by decide +kernel
theorem dX7_spelt_5 : decode cX7_spelt 5 = .ok (.invokevirtual 109, 3) := by decide +kernel
theorem dX7_spelt_8 : decode cX7_spelt 8 = .ok (.ifCond .eq 26, 3) := by decide +kernel
theorem dX7_spelt_11 : decode cX7_spelt 11 = .ok (.iload_n 2, 1) := by decide +kernel
theorem dX7_spelt_12 : decode cX7_spelt 12 = .ok (.ifCond .lt 22, 3) := by decide +kernel
theorem dX7_spelt_15 : decode cX7_spelt 15 = .ok (.iload_n 2, 1) := by decide +kernel
theorem dX7_spelt_16 : decode cX7_spelt 16 = .ok (.aload_n 0, 1) := by decide +kernel
theorem dX7_spelt_17 : decode cX7_spelt 17 = .ok (.getfield 10, 3) := by decide +kernel
theorem dX7_spelt_20 : decode cX7_spelt 20 = .ok (.getfield 113, 3) := by decide +kernel
theorem dX7_spelt_23 : decode cX7_spelt 23 = .ok (.iload_n 1, 1) := by decide +kernel
theorem dX7_spelt_24 : decode cX7_spelt 24 = .ok (.aaload, 1) := by decide +kernel
theorem dX7_spelt_25 : decode cX7_spelt 25 = .ok (.getfield 117, 3) := by decide +kernel
theorem dX7_spelt_28 : decode cX7_spelt 28 = .ok (.getfield 81, 3) := by decide +kernel
theorem dX7_spelt_31 : decode cX7_spelt 31 = .ok (.if_icmp .lt 9, 3) := by decide +kernel
theorem dX7_spelt_34 : decode cX7_spelt 34 = .ok (.aload_n 0, 1) := by decide +kernel
theorem dX7_spelt_35 : decode cX7_spelt 35 = .ok (.iconst (-1), 1) := by decide +kernel
theorem dX7_spelt_36 : decode cX7_spelt 36 = .ok (.invokevirtual 67, 3) := by decide +kernel
theorem dX7_spelt_39 : decode cX7_spelt 39 = .ok (.ireturn, 1) := by decide +kernel
theorem dX7_spelt_40 : decode cX7_spelt 40 = .ok (.aload_n 0, 1) := by decide +kernel
theorem dX7_spelt_41 : decode cX7_spelt 41 = .ok (.getfield 10, 3) := by decide +kernel
theorem dX7_spelt_44 : decode cX7_spelt 44 = .ok (.getfield 113, 3) := by decide +kernel
theorem dX7_spelt_47 : decode cX7_spelt 47 = .ok (.iload_n 1, 1) := by decide +kernel
theorem dX7_spelt_48 : decode cX7_spelt 48 = .ok (.aaload, 1) := by decide +kernel
theorem dX7_spelt_49 : decode cX7_spelt 49 = .ok (.getfield 117, 3) := by decide +kernel
theorem dX7_spelt_52 : decode cX7_spelt 52 = .ok (.iload_n 2, 1) := by decide +kernel
theorem dX7_spelt_53 : decode cX7_spelt 53 = .ok (.invokevirtual 171, 3) := by decide +kernel
theorem dX7_spelt_56 : decode cX7_spelt 56 = .ok (.ireturn, 1) := by decide +kernel
theorem dX7_step_0 : decode cX7_step 0 = .ok (.aload_n 0, 1) := by decide +kernel
theorem dX7_step_1 : decode cX7_step 1 = .ok (.getfield 10, 3) := by decide +kernel
theorem dX7_step_4 : decode cX7_step 4 = .ok (.iload_n 1, 1) := by decide +kernel
theorem dX7_step_5 : decode cX7_step 5 = .ok (.invokevirtual 109, 3) := by decide +kernel
theorem dX7_step_8 : decode cX7_step 8 = .ok (.ifCond .ne 9, 3) := by decide +kernel
theorem dX7_step_11 : decode cX7_step 11 = .ok (.aload_n 0, 1) := by decide +kernel
theorem dX7_step_12 : decode cX7_step 12 = .ok (.iconst (-1), 1) := by decide +kernel
theorem dX7_step_13 : decode cX7_step 13 = .ok (.invokevirtual 67, 3) := by decide +kernel
theorem dX7_step_16 : decode cX7_step 16 = .ok (.ireturn, 1) := by decide +kernel
theorem dX7_step_17 : decode cX7_step 17 = .ok (.aload_n 0, 1) := by decide +kernel
theorem dX7_step_18 : decode cX7_step 18 = .ok (.getfield 10, 3) := by decide +kernel
theorem dX7_step_21 : decode cX7_step 21 = .ok (.getfield 113, 3) := by decide +kernel
theorem dX7_step_24 : decode cX7_step 24 = .ok (.iload_n 1, 1) := by decide +kernel
theorem dX7_step_25 : decode cX7_step 25 = .ok (.aaload, 1) := by decide +kernel
theorem dX7_step_26 : decode cX7_step 26 = .ok (.astore 4, 2) := by decide +kernel
theorem dX7_step_28 : decode cX7_step 28 = .ok (.aload 4, 2) := by decide +kernel
theorem dX7_step_30 : decode cX7_step 30 = .ok (.invokevirtual 168, 3) := by decide +kernel
theorem dX7_step_33 : decode cX7_step 33 = .ok (.ifCond .ne 19, 3) := by decide +kernel
theorem dX7_step_36 : decode cX7_step 36 = .ok (.iload_n 2, 1) := by decide +kernel
theorem dX7_step_37 : decode cX7_step 37 = .ok (.ifCond .lt 15, 3) := by decide +kernel
theorem dX7_step_40 : decode cX7_step 40 = .ok (.iload_n 2, 1) := by decide +kernel
theorem dX7_step_41 : decode cX7_step 41 = .ok (.aload 4, 2) := by decide +kernel
theorem dX7_step_43 : decode cX7_step 43 = .ok (.getfield 198, 3) := by decide +kernel
theorem dX7_step_46 : decode cX7_step 46 = .ok (.getfield 201, 3) := by decide +kernel
theorem dX7_step_49 : decode cX7_step 49 = .ok (.if_icmp .lt 9, 3) := by decide +kernel
theorem dX7_step_52 : decode cX7_step 52 = .ok (.aload_n 0, 1) := by decide +kernel
theorem dX7_step_53 : decode cX7_step 53 = .ok (.iconst (-1), 1) := by decide +kernel
theorem dX7_step_54 : decode cX7_step 54 = .ok (.invokevirtual 67, 3) := by decide +kernel
theorem dX7_step_57 : decode cX7_step 57 = .ok (.ireturn, 1) := by decide +kernel
theorem dX7_step_58 : decode cX7_step 58 = .ok (.iload_n 3, 1) := by decide +kernel
theorem dX7_step_59 : decode cX7_step 59 = .ok (.ifCond .lt 8, 3) := by decide +kernel
theorem dX7_step_62 : decode cX7_step 62 = .ok (.iload_n 3, 1) := by decide +kernel
theorem dX7_step_63 : decode cX7_step 63 = .ok (.iconst 1, 1) := by decide +kernel
theorem dX7_step_64 : decode cX7_step 64 = .ok (.if_icmp .le 10, 3) := by decide +kernel
theorem dX7_step_67 : decode cX7_step 67 = .ok (.aload_n 0, 1) := by decide +kernel
theorem dX7_step_68 : decode cX7_step 68 = .ok (.bipush (-2), 2) := by decide +kernel
theorem dX7_step_70 : decode cX7_step 70 = .ok (.invokevirtual 67, 3) := by decide +kernel
theorem dX7_step_73 : decode cX7_step 73 = .ok (.ireturn, 1) := by decide +kernel
theorem dX7_step_74 : decode cX7_step 74 = .ok (.iload_n 3, 1) := by decide +kernel
theorem dX7_step_75 : decode cX7_step 75 = .ok (.ifCond .ne 16, 3) := by decide +kernel
theorem dX7_step_78 : decode cX7_step 78 = .ok (.aload 4, 2) := by decide +kernel
theorem dX7_step_80 : decode cX7_step 80 = .ok (.getfield 198, 3) := by decide +kernel
theorem dX7_step_83 : decode cX7_step 83 = .ok (.getfield 202, 3) := by decide +kernel
theorem dX7_step_86 : decode cX7_step 86 = .ok (.iload_n 2, 1) := by decide +kernel
theorem dX7_step_87 : decode cX7_step 87 = .ok (.iaload, 1) := by decide +kernel
theorem dX7_step_88 : decode cX7_step 88 = .ok (.goto 13, 3) := by decide +kernel
theorem dX7_step_91 : decode cX7_step 91 = .ok (.aload 4, 2) := by decide +kernel
theorem dX7_step_93 : decode cX7_step 93 = .ok (.getfield 198, 3) := by decide +kernel
theorem dX7_step_96 : decode cX7_step 96 = .ok (.getfield 205, 3) := by decide +kernel
theorem dX7_step_99 : decode cX7_step 99 = .ok (.iload_n 2, 1) := by decide +kernel
theorem dX7_step_100 : decode cX7_step 100 = .ok (.iaload, 1) := by decide +kernel
theorem dX7_step_101 : decode cX7_step 101 = .ok (.ireturn, 1) := by decide +kernel
theorem dX7_delta_0 : decode cX7_delta 0 = .ok (.aload_n 0, 1) := by decide +kernel
theorem dX7_delta_1 : decode cX7_delta 1 = .ok (.getfield 10, 3) := by decide +kernel
theorem dX7_delta_4 : decode cX7_delta 4 = .ok (.iload_n 1, 1) := by decide +kernel
theorem dX7_delta_5 : decode cX7_delta 5 = .ok (.invokevirtual 109, 3) := by decide +kernel
theorem dX7_delta_8 : decode cX7_delta 8 = .ok (.ifCond .eq 14, 3) := by decide +kernel
theorem dX7_delta_11 : decode cX7_delta 11 = .ok (.aload_n 0, 1) := by decide +kernel
theorem dX7_delta_12 : decode cX7_delta 12 = .ok (.getfield 10, 3) := by decide +kernel
theorem dX7_delta_15 : decode cX7_delta 15 = .ok (.iload_n 2, 1) := by decide +kernel
theorem dX7_delta_16 : decode cX7_delta 16 = .ok (.invokevirtual 109, 3) := by decide +kernel
theorem dX7_delta_19 : decode cX7_delta 19 = .ok (.ifCond .ne 9, 3) := by decide +kernel
theorem dX7_delta_22 : decode cX7_delta 22 = .ok (.aload_n 0, 1) := by decide +kernel
theorem dX7_delta_23 : decode cX7_delta 23 = .ok (.iconst (-1), 1) := by decide +kernel
theorem dX7_delta_24 : decode cX7_delta 24 = .ok (.invokevirtual 67, 3) := by decide +kernel
theorem dX7_delta_27 : decode cX7_delta 27 = .ok (.ireturn, 1) := by decide +kernel
theorem dX7_delta_28 : decode cX7_delta 28 = .ok (.iload_n 3, 1) := by decide +kernel
theorem dX7_delta_29 : decode cX7_delta 29 = .ok (.ifCond .lt 8, 3) := by decide +kernel
theorem dX7_delta_32 : decode cX7_delta 32 = .ok (.iload_n 3, 1) := by decide +kernel
theorem dX7_delta_33 : decode cX7_delta 33 = .ok (.iconst 2, 1) := by decide +kernel
theorem dX7_delta_34 : decode cX7_delta 34 = .ok (.if_icmp .le 10, 3) := by decide +kernel
theorem dX7_delta_37 : decode cX7_delta 37 = .ok (.aload_n 0, 1) := by decide +kernel
theorem dX7_delta_38 : decode cX7_delta 38 = .ok (.bipush (-2), 2) := by decide +kernel
theorem dX7_delta_40 : decode cX7_delta 40 = .ok (.invokevirtual 67, 3) := by decide +kernel
theorem dX7_delta_43 : decode cX7_delta 43 = .ok (.ireturn, 1) := by decide +kernel
theorem dX7_delta_44 : decode cX7_delta 44 = .ok (.aload_n 0, 1) := by decide +kernel
theorem dX7_delta_45 : decode cX7_delta 45 = .ok (.getfield 32, 3) := by decide +kernel
theorem dX7_delta_48 : decode cX7_delta 48 = .ok (.aload_n 0, 1) := by decide +kernel
theorem dX7_delta_49 : decode cX7_delta 49 = .ok (.getfield 10, 3) := by decide +kernel
theorem dX7_delta_52 : decode cX7_delta 52 = .ok (.getfield 113, 3) := by decide +kernel
theorem dX7_delta_55 : decode cX7_delta 55 = .ok (.iload_n 1, 1) := by decide +kernel
theorem dX7_delta_56 : decode cX7_delta 56 = .ok (.aaload, 1) := by decide +kernel
theorem dX7_delta_57 : decode cX7_delta 57 = .ok (.getfield 117, 3) := by decide +kernel
theorem dX7_delta_60 : decode cX7_delta 60 = .ok (.aload_n 0, 1) := by decide +kernel
theorem dX7_delta_61 : decode cX7_delta 61 = .ok (.getfield 10, 3) := by decide +kernel
theorem dX7_delta_64 : decode cX7_delta 64 = .ok (.getfield 113, 3) := by decide +kernel
theorem dX7_delta_67 : decode cX7_delta 67 = .ok (.iload_n 2, 1) := by decide +kernel
theorem dX7_delta_68 : decode cX7_delta 68 = .ok (.aaload, 1) := by decide +kernel
theorem dX7_delta_69 : decode cX7_delta 69 = .ok (.getfield 117, 3) := by decide +kernel
theorem dX7_delta_72 : decode cX7_delta 72 = .ok (.invokevirtual 208, 3) := by decide +kernel
theorem dX7_delta_75 : decode cX7_delta 75 = .ok (.iload_n 3, 1) := by decide +kernel
theorem dX7_delta_76 : decode cX7_delta 76 = .ok (.ifCond .ne 11, 3) := by decide +kernel
theorem dX7_delta_79 : decode cX7_delta 79 = .ok (.aload_n 0, 1) := by decide +kernel
theorem dX7_delta_80 : decode cX7_delta 80 = .ok (.getfield 32, 3) := by decide +kernel
theorem dX7_delta_83 : decode cX7_delta 83 = .ok (.invokevirtual 211, 3) := by decide +kernel
theorem dX7_delta_86 : decode cX7_delta 86 = .ok (.ireturn, 1) := by decide +kernel
theorem dX7_delta_87 : decode cX7_delta 87 = .ok (.iload_n 3, 1) := by decide +kernel
theorem dX7_delta_88 : decode cX7_delta 88 = .ok (.iconst 1, 1) := by decide +kernel
theorem dX7_delta_89 : decode cX7_delta 89 = .ok (.if_icmp .ne 13, 3) := by decide +kernel
theorem dX7_delta_92 : decode cX7_delta 92 = .ok (.aload_n 0, 1) := by decide +kernel
theorem dX7_delta_93 : decode cX7_delta 93 = .ok (.getfield 32, 3) := by decide +kernel
theorem dX7_delta_96 : decode cX7_delta 96 = .ok (.getfield 201, 3) := by decide +kernel
theorem dX7_delta_99 : decode cX7_delta 99 = .ok (.goto 10, 3) := by decide +kernel
theorem dX7_delta_102 : decode cX7_delta 102 = .ok (.aload_n 0, 1) := by decide +kernel
theorem dX7_delta_103 : decode cX7_delta 103 = .ok (.getfield 32, 3) := by decide +kernel
theorem dX7_delta_106 : decode cX7_delta 106 = .ok (.getfield 212, 3) := by decide +kernel
theorem dX7_delta_109 : decode cX7_delta 109 = .ok (.ireturn, 1) := by decide +kernel
theorem dX7_repacked_0 : decode cX7_repacked 0 = .ok (.iload_n 1, 1) := by decide +kernel
theorem dX7_repacked_1 : decode cX7_repacked 1 = .ok (.ifCond .lt 8, 3) := by decide +kernel
theorem dX7_repacked_4 : decode cX7_repacked 4 = .ok (.iload_n 1, 1) := by decide +kernel
theorem dX7_repacked_5 : decode cX7_repacked 5 = .ok (.iconst 2, 1) := by decide +kernel
theorem dX7_repacked_6 : decode cX7_repacked 6 = .ok (.if_icmp .le 10, 3) := by decide +kernel
theorem dX7_repacked_9 : decode cX7_repacked 9 = .ok (.aload_n 0, 1) := by decide +kernel
theorem dX7_repacked_10 : decode cX7_repacked 10 = .ok (.bipush (-2), 2) := by decide +kernel
theorem dX7_repacked_12 : decode cX7_repacked 12 = .ok (.invokevirtual 67, 3) := by decide +kernel
theorem dX7_repacked_15 : decode cX7_repacked 15 = .ok (.ireturn, 1) := by decide +kernel
theorem dX7_repacked_16 : decode cX7_repacked 16 = .ok (.aload_n 0, 1) := by decide +kernel
theorem dX7_repacked_17 : decode cX7_repacked 17 = .ok (.getfield 25, 3) := by decide +kernel
theorem dX7_repacked_20 : decode cX7_repacked 20 = .ok (.aload_n 0, 1) := by decide +kernel
theorem dX7_repacked_21 : decode cX7_repacked 21 = .ok (.getfield 10, 3) := by decide +kernel
theorem dX7_repacked_24 : decode cX7_repacked 24 = .ok (.invokevirtual 151, 3) := by decide +kernel
theorem dX7_repacked_27 : decode cX7_repacked 27 = .ok (.aload_n 0, 1) := by decide +kernel
theorem dX7_repacked_28 : decode cX7_repacked 28 = .ok (.getfield 25, 3) := by decide +kernel
theorem dX7_repacked_31 : decode cX7_repacked 31 = .ok (.aload_n 0, 1) := by decide +kernel
theorem dX7_repacked_32 : decode cX7_repacked 32 = .ok (.getfield 10, 3) := by decide +kernel
theorem dX7_repacked_35 : decode cX7_repacked 35 = .ok (.getfield 142, 3) := by decide +kernel
theorem dX7_repacked_38 : decode cX7_repacked 38 = .ok (.aload_n 0, 1) := by decide +kernel
theorem dX7_repacked_39 : decode cX7_repacked 39 = .ok (.getfield 10, 3) := by decide +kernel
theorem dX7_repacked_42 : decode cX7_repacked 42 = .ok (.getfield 145, 3) := by decide +kernel
theorem dX7_repacked_45 : decode cX7_repacked 45 = .ok (.aload_n 0, 1) := by decide +kernel
theorem dX7_repacked_46 : decode cX7_repacked 46 = .ok (.getfield 10, 3) := by decide +kernel
theorem dX7_repacked_49 : decode cX7_repacked 49 = .ok (.getfield 148, 3) := by decide +kernel
theorem dX7_repacked_52 : decode cX7_repacked 52 = .ok (.invokevirtual 154, 3) := by decide +kernel
theorem dX7_repacked_55 : decode cX7_repacked 55 = .ok (.iload_n 1, 1) := by decide +kernel
theorem dX7_repacked_56 : decode cX7_repacked 56 = .ok (.ifCond .ne 11, 3) := by decide +kernel
theorem dX7_repacked_59 : decode cX7_repacked 59 = .ok (.aload_n 0, 1) := by decide +kernel
theorem dX7_repacked_60 : decode cX7_repacked 60 = .ok (.getfield 25, 3) := by decide +kernel
theorem dX7_repacked_63 : decode cX7_repacked 63 = .ok (.getfield 215, 3) := by decide +kernel
theorem dX7_repacked_66 : decode cX7_repacked 66 = .ok (.ireturn, 1) := by decide +kernel
theorem dX7_repacked_67 : decode cX7_repacked 67 = .ok (.iload_n 1, 1) := by decide +kernel
theorem dX7_repacked_68 : decode cX7_repacked 68 = .ok (.iconst 1, 1) := by decide +kernel
theorem dX7_repacked_69 : decode cX7_repacked 69 = .ok (.if_icmp .ne 13, 3) := by decide +kernel
theorem dX7_repacked_72 : decode cX7_repacked 72 = .ok (.aload_n 0, 1) := by decide +kernel
theorem dX7_repacked_73 : decode cX7_repacked 73 = .ok (.getfield 25, 3) := by decide +kernel
theorem dX7_repacked_76 : decode cX7_repacked 76 = .ok (.getfield 217, 3) := by decide +kernel
theorem dX7_repacked_79 : decode cX7_repacked 79 = .ok (.goto 10, 3) := by decide +kernel
theorem dX7_repacked_82 : decode cX7_repacked 82 = .ok (.aload_n 0, 1) := by decide +kernel
theorem dX7_repacked_83 : decode cX7_repacked 83 = .ok (.getfield 25, 3) := by decide +kernel
theorem dX7_repacked_86 : decode cX7_repacked 86 = .ok (.getfield 220, 3) := by decide +kernel
theorem dX7_repacked_89 : decode cX7_repacked 89 = .ok (.ireturn, 1) := by decide +kernel
theorem dX7_best_0 : decode cX7_best 0 = .ok (.iload_n 1, 1) := by decide +kernel
theorem dX7_best_1 : decode cX7_best 1 = .ok (.ifCond .lt 8, 3) := by decide +kernel
theorem dX7_best_4 : decode cX7_best 4 = .ok (.iload_n 1, 1) := by decide +kernel
theorem dX7_best_5 : decode cX7_best 5 = .ok (.iconst 1, 1) := by decide +kernel
theorem dX7_best_6 : decode cX7_best 6 = .ok (.if_icmp .le 10, 3) := by decide +kernel
theorem dX7_best_9 : decode cX7_best 9 = .ok (.aload_n 0, 1) := by decide +kernel
theorem dX7_best_10 : decode cX7_best 10 = .ok (.bipush (-2), 2) := by decide +kernel
theorem dX7_best_12 : decode cX7_best 12 = .ok (.invokevirtual 67, 3) := by decide +kernel
theorem dX7_best_15 : decode cX7_best 15 = .ok (.ireturn, 1) := by decide +kernel
theorem dX7_best_16 : decode cX7_best 16 = .ok (.iload_n 1, 1) := by decide +kernel
theorem dX7_best_17 : decode cX7_best 17 = .ok (.ifCond .ne 8, 3) := by decide +kernel
theorem dX7_best_20 : decode cX7_best 20 = .ok (.bipush 9, 2) := by decide +kernel
theorem dX7_best_22 : decode cX7_best 22 = .ok (.goto 5, 3) := by decide +kernel
theorem dX7_best_25 : decode cX7_best 25 = .ok (.bipush 6, 2) := by decide +kernel
theorem dX7_best_27 : decode cX7_best 27 = .ok (.istore_n 2, 1) := by decide +kernel
theorem dX7_best_28 : decode cX7_best 28 = .ok (.iconst 0, 1) := by decide +kernel
theorem dX7_best_29 : decode cX7_best 29 = .ok (.istore_n 3, 1) := by decide +kernel
theorem dX7_best_30 : decode cX7_best 30 = .ok (.ldc 225, 2) := by decide +kernel
theorem dX7_best_32 : decode cX7_best 32 = .ok (.istore 4, 2) := by decide +kernel
theorem dX7_best_34 : decode cX7_best 34 = .ok (.aload_n 0, 1) := by decide +kernel
theorem dX7_best_35 : decode cX7_best 35 = .ok (.getfield 25, 3) := by decide +kernel
theorem dX7_best_38 : decode cX7_best 38 = .ok (.aload_n 0, 1) := by decide +kernel
theorem dX7_best_39 : decode cX7_best 39 = .ok (.getfield 10, 3) := by decide +kernel
theorem dX7_best_42 : decode cX7_best 42 = .ok (.invokevirtual 151, 3) := by decide +kernel
theorem dX7_best_45 : decode cX7_best 45 = .ok (.iconst 0, 1) := by decide +kernel
theorem dX7_best_46 : decode cX7_best 46 = .ok (.istore 5, 2) := by decide +kernel
theorem dX7_best_48 : decode cX7_best 48 = .ok (.iload 5, 2) := by decide +kernel
theorem dX7_best_50 : decode cX7_best 50 = .ok (.iload_n 2, 1) := by decide +kernel
theorem dX7_best_51 : decode cX7_best 51 = .ok (.if_icmp .ge 86, 3) := by decide +kernel
theorem dX7_best_54 : decode cX7_best 54 = .ok (.iload_n 1, 1) := by decide +kernel
theorem dX7_best_55 : decode cX7_best 55 = .ok (.ifCond .ne 29, 3) := by decide +kernel
theorem dX7_best_58 : decode cX7_best 58 = .ok (.aload_n 0, 1) := by decide +kernel
theorem dX7_best_59 : decode cX7_best 59 = .ok (.getfield 25, 3) := by decide +kernel
theorem dX7_best_62 : decode cX7_best 62 = .ok (.aload_n 0, 1) := by decide +kernel
theorem dX7_best_63 : decode cX7_best 63 = .ok (.getfield 10, 3) := by decide +kernel
theorem dX7_best_66 : decode cX7_best 66 = .ok (.getfield 142, 3) := by decide +kernel
theorem dX7_best_69 : decode cX7_best 69 = .ok (.aload_n 0, 1) := by decide +kernel
theorem dX7_best_70 : decode cX7_best 70 = .ok (.getfield 10, 3) := by decide +kernel
theorem dX7_best_73 : decode cX7_best 73 = .ok (.getfield 145, 3) := by decide +kernel
theorem dX7_best_76 : decode cX7_best 76 = .ok (.iload 5, 2) := by decide +kernel
theorem dX7_best_78 : decode cX7_best 78 = .ok (.invokevirtual 154, 3) := by decide +kernel
theorem dX7_best_81 : decode cX7_best 81 = .ok (.goto 26, 3) := by decide +kernel
theorem dX7_best_84 : decode cX7_best 84 = .ok (.aload_n 0, 1) := by decide +kernel
theorem dX7_best_85 : decode cX7_best 85 = .ok (.getfield 25, 3) := by decide +kernel
theorem dX7_best_88 : decode cX7_best 88 = .ok (.iload 5, 2) := by decide +kernel
theorem dX7_best_90 : decode cX7_best 90 = .ok (.aload_n 0, 1) := by decide +kernel
theorem dX7_best_91 : decode cX7_best 91 = .ok (.getfield 10, 3) := by decide +kernel
theorem dX7_best_94 : decode cX7_best 94 = .ok (.getfield 145, 3) := by decide +kernel
theorem dX7_best_97 : decode cX7_best 97 = .ok (.aload_n 0, 1) := by decide +kernel
theorem dX7_best_98 : decode cX7_best 98 = .ok (.getfield 10, 3) := by decide +kernel
theorem dX7_best_101 : decode cX7_best 101 = .ok (.getfield 148, 3) := by decide +kernel
theorem dX7_best_104 : decode cX7_best 104 = .ok (.invokevirtual 154, 3) := by decide +kernel
theorem dX7_best_107 : decode cX7_best 107 = .ok (.aload_n 0, 1) := by decide +kernel
theorem dX7_best_108 : decode cX7_best 108 = .ok (.getfield 25, 3) := by decide +kernel
theorem dX7_best_111 : decode cX7_best 111 = .ok (.getfield 215, 3) := by decide +kernel
theorem dX7_best_114 : decode cX7_best 114 = .ok (.iload 4, 2) := by decide +kernel
theorem dX7_best_116 : decode cX7_best 116 = .ok (.if_icmp .ge 15, 3) := by decide +kernel
theorem dX7_best_119 : decode cX7_best 119 = .ok (.aload_n 0, 1) := by decide +kernel
theorem dX7_best_120 : decode cX7_best 120 = .ok (.getfield 25, 3) := by decide +kernel
theorem dX7_best_123 : decode cX7_best 123 = .ok (.getfield 215, 3) := by decide +kernel
theorem dX7_best_126 : decode cX7_best 126 = .ok (.istore 4, 2) := by decide +kernel
theorem dX7_best_128 : decode cX7_best 128 = .ok (.iload 5, 2) := by decide +kernel
theorem dX7_best_130 : decode cX7_best 130 = .ok (.istore_n 3, 1) := by decide +kernel
theorem dX7_best_131 : decode cX7_best 131 = .ok (.iinc 5 1, 3) := by decide +kernel
theorem dX7_best_134 : decode cX7_best 134 = .ok (.goto (-86), 3) := by decide +kernel
theorem dX7_best_137 : decode cX7_best 137 = .ok (.iload_n 3, 1) := by decide +kernel
theorem dX7_best_138 : decode cX7_best 138 = .ok (.ireturn, 1) := by decide +kernel
theorem dX7_bestBase_0 : decode cX7_bestBase 0 = .ok (.aload_n 0, 1) := by decide +kernel
theorem dX7_bestBase_1 : decode cX7_bestBase 1 = .ok (.getfield 10, 3) := by decide +kernel
theorem dX7_bestBase_4 : decode cX7_bestBase 4 = .ok (.iload_n 1, 1) := by decide +kernel
theorem dX7_bestBase_5 : decode cX7_bestBase 5 = .ok (.invokevirtual 109, 3) := by decide +kernel
theorem dX7_bestBase_8 : decode cX7_bestBase 8 = .ok (.ifCond .ne 9, 3) := by decide +kernel
theorem dX7_bestBase_11 : decode cX7_bestBase 11 = .ok (.aload_n 0, 1) := by decide +kernel
theorem dX7_bestBase_12 : decode cX7_bestBase 12 = .ok (.iconst (-1), 1) := by decide +kernel
theorem dX7_bestBase_13 : decode cX7_bestBase 13 = .ok (.invokevirtual 67, 3) := by decide +kernel
theorem dX7_bestBase_16 : decode cX7_bestBase 16 = .ok (.ireturn, 1) := by decide +kernel
theorem dX7_bestBase_17 : decode cX7_bestBase 17 = .ok (.iload_n 2, 1) := by decide +kernel
theorem dX7_bestBase_18 : decode cX7_bestBase 18 = .ok (.ifCond .lt 8, 3) := by decide +kernel
theorem dX7_bestBase_21 : decode cX7_bestBase 21 = .ok (.iload_n 2, 1) := by decide +kernel
theorem dX7_bestBase_22 : decode cX7_bestBase 22 = .ok (.iconst 1, 1) := by decide +kernel
theorem dX7_bestBase_23 : decode cX7_bestBase 23 = .ok (.if_icmp .le 10, 3) := by decide +kernel
theorem dX7_bestBase_26 : decode cX7_bestBase 26 = .ok (.aload_n 0, 1) := by decide +kernel
theorem dX7_bestBase_27 : decode cX7_bestBase 27 = .ok (.bipush (-2), 2) := by decide +kernel
theorem dX7_bestBase_29 : decode cX7_bestBase 29 = .ok (.invokevirtual 67, 3) := by decide +kernel
theorem dX7_bestBase_32 : decode cX7_bestBase 32 = .ok (.ireturn, 1) := by decide +kernel
theorem dX7_bestBase_33 : decode cX7_bestBase 33 = .ok (.bipush (-9), 2) := by decide +kernel
theorem dX7_bestBase_35 : decode cX7_bestBase 35 = .ok (.istore_n 3, 1) := by decide +kernel
theorem dX7_bestBase_36 : decode cX7_bestBase 36 = .ok (.bipush (-9), 2) := by decide +kernel
theorem dX7_bestBase_38 : decode cX7_bestBase 38 = .ok (.istore 4, 2) := by decide +kernel
theorem dX7_bestBase_40 : decode cX7_bestBase 40 = .ok (.iconst 0, 1) := by decide +kernel
theorem dX7_bestBase_41 : decode cX7_bestBase 41 = .ok (.istore 5, 2) := by decide +kernel
theorem dX7_bestBase_43 : decode cX7_bestBase 43 = .ok (.iload 5, 2) := by decide +kernel
theorem dX7_bestBase_45 : decode cX7_bestBase 45 = .ok (.aload_n 0, 1) := by decide +kernel
theorem dX7_bestBase_46 : decode cX7_bestBase 46 = .ok (.getfield 10, 3) := by decide +kernel
theorem dX7_bestBase_49 : decode cX7_bestBase 49 = .ok (.getfield 226, 3) := by decide +kernel
theorem dX7_bestBase_52 : decode cX7_bestBase 52 = .ok (.if_icmp .ge 89, 3) := by decide +kernel
theorem dX7_bestBase_55 : decode cX7_bestBase 55 = .ok (.iload 5, 2) := by decide +kernel
theorem dX7_bestBase_57 : decode cX7_bestBase 57 = .ok (.iload_n 1, 1) := by decide +kernel
theorem dX7_bestBase_58 : decode cX7_bestBase 58 = .ok (.if_icmp .eq 77, 3) := by decide +kernel
theorem dX7_bestBase_61 : decode cX7_bestBase 61 = .ok (.aload_n 0, 1) := by decide +kernel
theorem dX7_bestBase_62 : decode cX7_bestBase 62 = .ok (.getfield 10, 3) := by decide +kernel
theorem dX7_bestBase_65 : decode cX7_bestBase 65 = .ok (.iload 5, 2) := by decide +kernel
end
section
theorem dX7_bestBase_67 : decode cX7_bestBase 67 = .ok (.invokevirtual 109, 3) := by decide +kernel
theorem dX7_bestBase_70 : decode cX7_bestBase 70 = .ok (.ifCond .eq 65, 3) := by decide +kernel
theorem dX7_bestBase_73 : decode cX7_bestBase 73 = .ok (.aload_n 0, 1) := by decide +kernel
theorem dX7_bestBase_74 : decode cX7_bestBase 74 = .ok (.getfield 32, 3) := by decide +kernel
theorem dX7_bestBase_77 : decode cX7_bestBase 77 = .ok (.aload_n 0, 1) := by decide +kernel
theorem dX7_bestBase_78 : decode cX7_bestBase 78 = .ok (.getfield 10, 3) := by decide +kernel
theorem dX7_bestBase_81 : decode cX7_bestBase 81 = .ok (.getfield 113, 3) := by decide +kernel
theorem dX7_bestBase_84 : decode cX7_bestBase 84 = .ok (.iload 5, 2) := by decide +kernel
theorem dX7_bestBase_86 : decode cX7_bestBase 86 = .ok (.aaload, 1) := by decide +kernel
theorem dX7_bestBase_87 : decode cX7_bestBase 87 = .ok (.getfield 117, 3) := by decide +kernel
theorem dX7_bestBase_90 : decode cX7_bestBase 90 = .ok (.aload_n 0, 1) := by decide +kernel
theorem dX7_bestBase_91 : decode cX7_bestBase 91 = .ok (.getfield 10, 3) := by decide +kernel
theorem dX7_bestBase_94 : decode cX7_bestBase 94 = .ok (.getfield 113, 3) := by decide +kernel
theorem dX7_bestBase_97 : decode cX7_bestBase 97 = .ok (.iload_n 1, 1) := by decide +kernel
theorem dX7_bestBase_98 : decode cX7_bestBase 98 = .ok (.aaload, 1) := by decide +kernel
theorem dX7_bestBase_99 : decode cX7_bestBase 99 = .ok (.getfield 117, 3) := by decide +kernel
theorem dX7_bestBase_102 : decode cX7_bestBase 102 = .ok (.invokevirtual 208, 3) := by decide +kernel
theorem dX7_bestBase_105 : decode cX7_bestBase 105 = .ok (.iload_n 3, 1) := by decide +kernel
theorem dX7_bestBase_106 : decode cX7_bestBase 106 = .ok (.bipush (-9), 2) := by decide +kernel
theorem dX7_bestBase_108 : decode cX7_bestBase 108 = .ok (.if_icmp .eq 15, 3) := by decide +kernel
theorem dX7_bestBase_111 : decode cX7_bestBase 111 = .ok (.aload_n 0, 1) := by decide +kernel
theorem dX7_bestBase_112 : decode cX7_bestBase 112 = .ok (.getfield 32, 3) := by decide +kernel
theorem dX7_bestBase_115 : decode cX7_bestBase 115 = .ok (.invokevirtual 211, 3) := by decide +kernel
theorem dX7_bestBase_118 : decode cX7_bestBase 118 = .ok (.iload 4, 2) := by decide +kernel
theorem dX7_bestBase_120 : decode cX7_bestBase 120 = .ok (.if_icmp .ge 15, 3) := by decide +kernel
theorem dX7_bestBase_123 : decode cX7_bestBase 123 = .ok (.iload 5, 2) := by decide +kernel
theorem dX7_bestBase_125 : decode cX7_bestBase 125 = .ok (.istore_n 3, 1) := by decide +kernel
theorem dX7_bestBase_126 : decode cX7_bestBase 126 = .ok (.aload_n 0, 1) := by decide +kernel
theorem dX7_bestBase_127 : decode cX7_bestBase 127 = .ok (.getfield 32, 3) := by decide +kernel
theorem dX7_bestBase_130 : decode cX7_bestBase 130 = .ok (.invokevirtual 211, 3) := by decide +kernel
theorem dX7_bestBase_133 : decode cX7_bestBase 133 = .ok (.istore 4, 2) := by decide +kernel
theorem dX7_bestBase_135 : decode cX7_bestBase 135 = .ok (.iinc 5 1, 3) := by decide +kernel
theorem dX7_bestBase_138 : decode cX7_bestBase 138 = .ok (.goto (-95), 3) := by decide +kernel
theorem dX7_bestBase_141 : decode cX7_bestBase 141 = .ok (.iload_n 2, 1) := by decide +kernel
theorem dX7_bestBase_142 : decode cX7_bestBase 142 = .ok (.ifCond .ne 7, 3) := by decide +kernel
theorem dX7_bestBase_145 : decode cX7_bestBase 145 = .ok (.iload_n 3, 1) := by decide +kernel
theorem dX7_bestBase_146 : decode cX7_bestBase 146 = .ok (.goto 5, 3) := by decide +kernel
theorem dX7_bestBase_149 : decode cX7_bestBase 149 = .ok (.iload 4, 2) := by decide +kernel
theorem dX7_bestBase_151 : decode cX7_bestBase 151 = .ok (.ireturn, 1) := by decide +kernel
theorem dX7_reached_0 : decode cX7_reached 0 = .ok (.iload_n 1, 1) := by decide +kernel
theorem dX7_reached_1 : decode cX7_reached 1 = .ok (.ifCond .lt 8, 3) := by decide +kernel
theorem dX7_reached_4 : decode cX7_reached 4 = .ok (.iload_n 1, 1) := by decide +kernel
theorem dX7_reached_5 : decode cX7_reached 5 = .ok (.iconst 2, 1) := by decide +kernel
theorem dX7_reached_6 : decode cX7_reached 6 = .ok (.if_icmp .le 10, 3) := by decide +kernel
theorem dX7_reached_9 : decode cX7_reached 9 = .ok (.aload_n 0, 1) := by decide +kernel
theorem dX7_reached_10 : decode cX7_reached 10 = .ok (.bipush (-2), 2) := by decide +kernel
theorem dX7_reached_12 : decode cX7_reached 12 = .ok (.invokevirtual 67, 3) := by decide +kernel
theorem dX7_reached_15 : decode cX7_reached 15 = .ok (.ireturn, 1) := by decide +kernel
theorem dX7_reached_16 : decode cX7_reached 16 = .ok (.iload_n 1, 1) := by decide +kernel
theorem dX7_reached_17 : decode cX7_reached 17 = .ok (.iconst 2, 1) := by decide +kernel
theorem dX7_reached_18 : decode cX7_reached 18 = .ok (.if_icmp .ne 11, 3) := by decide +kernel
theorem dX7_reached_21 : decode cX7_reached 21 = .ok (.aload_n 0, 1) := by decide +kernel
theorem dX7_reached_22 : decode cX7_reached 22 = .ok (.getfield 10, 3) := by decide +kernel
theorem dX7_reached_25 : decode cX7_reached 25 = .ok (.invokevirtual 229, 3) := by decide +kernel
theorem dX7_reached_28 : decode cX7_reached 28 = .ok (.ireturn, 1) := by decide +kernel
theorem dX7_reached_29 : decode cX7_reached 29 = .ok (.aload_n 0, 1) := by decide +kernel
theorem dX7_reached_30 : decode cX7_reached 30 = .ok (.getfield 10, 3) := by decide +kernel
theorem dX7_reached_33 : decode cX7_reached 33 = .ok (.invokevirtual 232, 3) := by decide +kernel
theorem dX7_reached_36 : decode cX7_reached 36 = .ok (.aload_n 0, 1) := by decide +kernel
theorem dX7_reached_37 : decode cX7_reached 37 = .ok (.getfield 10, 3) := by decide +kernel
theorem dX7_reached_40 : decode cX7_reached 40 = .ok (.getfield 235, 3) := by decide +kernel
theorem dX7_reached_43 : decode cX7_reached 43 = .ok (.iand, 1) := by decide +kernel
theorem dX7_reached_44 : decode cX7_reached 44 = .ok (.istore_n 2, 1) := by decide +kernel
theorem dX7_reached_45 : decode cX7_reached 45 = .ok (.iload_n 1, 1) := by decide +kernel
theorem dX7_reached_46 : decode cX7_reached 46 = .ok (.ifCond .ne 7, 3) := by decide +kernel
theorem dX7_reached_49 : decode cX7_reached 49 = .ok (.iload_n 2, 1) := by decide +kernel
theorem dX7_reached_50 : decode cX7_reached 50 = .ok (.goto 14, 3) := by decide +kernel
theorem dX7_reached_53 : decode cX7_reached 53 = .ok (.aload_n 0, 1) := by decide +kernel
theorem dX7_reached_54 : decode cX7_reached 54 = .ok (.getfield 10, 3) := by decide +kernel
theorem dX7_reached_57 : decode cX7_reached 57 = .ok (.getfield 235, 3) := by decide +kernel
theorem dX7_reached_60 : decode cX7_reached 60 = .ok (.iload_n 2, 1) := by decide +kernel
theorem dX7_reached_61 : decode cX7_reached 61 = .ok (.iconst (-1), 1) := by decide +kernel
theorem dX7_reached_62 : decode cX7_reached 62 = .ok (.ixor, 1) := by decide +kernel
theorem dX7_reached_63 : decode cX7_reached 63 = .ok (.iand, 1) := by decide +kernel
theorem dX7_reached_64 : decode cX7_reached 64 = .ok (.ireturn, 1) := by decide +kernel
theorem dX7_ancestors_0 : decode cX7_ancestors 0 = .ok (.aload_n 0, 1) := by decide +kernel
theorem dX7_ancestors_1 : decode cX7_ancestors 1 = .ok (.getfield 10, 3) := by decide +kernel
theorem dX7_ancestors_4 : decode cX7_ancestors 4 = .ok (.iload_n 1, 1) := by decide +kernel
theorem dX7_ancestors_5 : decode cX7_ancestors 5 = .ok (.invokevirtual 109, 3) := by decide +kernel
theorem dX7_ancestors_8 : decode cX7_ancestors 8 = .ok (.ifCond .ne 9, 3) := by decide +kernel
theorem dX7_ancestors_11 : decode cX7_ancestors 11 = .ok (.aload_n 0, 1) := by decide +kernel
theorem dX7_ancestors_12 : decode cX7_ancestors 12 = .ok (.iconst (-1), 1) := by decide +kernel
theorem dX7_ancestors_13 : decode cX7_ancestors 13 = .ok (.invokevirtual 67, 3) := by decide +kernel
theorem dX7_ancestors_16 : decode cX7_ancestors 16 = .ok (.ireturn, 1) := by decide +kernel
theorem dX7_ancestors_17 : decode cX7_ancestors 17 = .ok (.aload_n 0, 1) := by decide +kernel
theorem dX7_ancestors_18 : decode cX7_ancestors 18 = .ok (.getfield 10, 3) := by decide +kernel
theorem dX7_ancestors_21 : decode cX7_ancestors 21 = .ok (.getfield 113, 3) := by decide +kernel
theorem dX7_ancestors_24 : decode cX7_ancestors 24 = .ok (.iload_n 1, 1) := by decide +kernel
theorem dX7_ancestors_25 : decode cX7_ancestors 25 = .ok (.aaload, 1) := by decide +kernel
theorem dX7_ancestors_26 : decode cX7_ancestors 26 = .ok (.getfield 238, 3) := by decide +kernel
theorem dX7_ancestors_29 : decode cX7_ancestors 29 = .ok (.iconst 1, 1) := by decide +kernel
theorem dX7_ancestors_30 : decode cX7_ancestors 30 = .ok (.iload_n 1, 1) := by decide +kernel
theorem dX7_ancestors_31 : decode cX7_ancestors 31 = .ok (.ishl, 1) := by decide +kernel
theorem dX7_ancestors_32 : decode cX7_ancestors 32 = .ok (.iconst (-1), 1) := by decide +kernel
theorem dX7_ancestors_33 : decode cX7_ancestors 33 = .ok (.ixor, 1) := by decide +kernel
theorem dX7_ancestors_34 : decode cX7_ancestors 34 = .ok (.iand, 1) := by decide +kernel
theorem dX7_ancestors_35 : decode cX7_ancestors 35 = .ok (.ireturn, 1) := by decide +kernel
theorem dX7_common_0 : decode cX7_common 0 = .ok (.aload_n 0, 1) := by decide +kernel
theorem dX7_common_1 : decode cX7_common 1 = .ok (.getfield 10, 3) := by decide +kernel
theorem dX7_common_4 : decode cX7_common 4 = .ok (.iload_n 1, 1) := by decide +kernel
theorem dX7_common_5 : decode cX7_common 5 = .ok (.invokevirtual 109, 3) := by decide +kernel
theorem dX7_common_8 : decode cX7_common 8 = .ok (.ifCond .eq 14, 3) := by decide +kernel
theorem dX7_common_11 : decode cX7_common 11 = .ok (.aload_n 0, 1) := by decide +kernel
theorem dX7_common_12 : decode cX7_common 12 = .ok (.getfield 10, 3) := by decide +kernel
theorem dX7_common_15 : decode cX7_common 15 = .ok (.iload_n 2, 1) := by decide +kernel
theorem dX7_common_16 : decode cX7_common 16 = .ok (.invokevirtual 109, 3) := by decide +kernel
theorem dX7_common_19 : decode cX7_common 19 = .ok (.ifCond .ne 9, 3) := by decide +kernel
theorem dX7_common_22 : decode cX7_common 22 = .ok (.aload_n 0, 1) := by decide +kernel
theorem dX7_common_23 : decode cX7_common 23 = .ok (.iconst (-1), 1) := by decide +kernel
theorem dX7_common_24 : decode cX7_common 24 = .ok (.invokevirtual 67, 3) := by decide +kernel
theorem dX7_common_27 : decode cX7_common 27 = .ok (.ireturn, 1) := by decide +kernel
theorem dX7_common_28 : decode cX7_common 28 = .ok (.aload_n 0, 1) := by decide +kernel
theorem dX7_common_29 : decode cX7_common 29 = .ok (.getfield 10, 3) := by decide +kernel
theorem dX7_common_32 : decode cX7_common 32 = .ok (.getfield 113, 3) := by decide +kernel
theorem dX7_common_35 : decode cX7_common 35 = .ok (.iload_n 1, 1) := by decide +kernel
theorem dX7_common_36 : decode cX7_common 36 = .ok (.aaload, 1) := by decide +kernel
theorem dX7_common_37 : decode cX7_common 37 = .ok (.getfield 238, 3) := by decide +kernel
theorem dX7_common_40 : decode cX7_common 40 = .ok (.aload_n 0, 1) := by decide +kernel
theorem dX7_common_41 : decode cX7_common 41 = .ok (.getfield 10, 3) := by decide +kernel
theorem dX7_common_44 : decode cX7_common 44 = .ok (.getfield 113, 3) := by decide +kernel
theorem dX7_common_47 : decode cX7_common 47 = .ok (.iload_n 2, 1) := by decide +kernel
theorem dX7_common_48 : decode cX7_common 48 = .ok (.aaload, 1) := by decide +kernel
theorem dX7_common_49 : decode cX7_common 49 = .ok (.getfield 238, 3) := by decide +kernel
theorem dX7_common_52 : decode cX7_common 52 = .ok (.iand, 1) := by decide +kernel
theorem dX7_common_53 : decode cX7_common 53 = .ok (.istore_n 3, 1) := by decide +kernel
theorem dX7_common_54 : decode cX7_common 54 = .ok (.bipush 9, 2) := by decide +kernel
theorem dX7_common_56 : decode cX7_common 56 = .ok (.istore 4, 2) := by decide +kernel
theorem dX7_common_58 : decode cX7_common 58 = .ok (.iload 4, 2) := by decide +kernel
theorem dX7_common_60 : decode cX7_common 60 = .ok (.ifCond .lt 22, 3) := by decide +kernel
theorem dX7_common_63 : decode cX7_common 63 = .ok (.iload_n 3, 1) := by decide +kernel
theorem dX7_common_64 : decode cX7_common 64 = .ok (.iload 4, 2) := by decide +kernel
theorem dX7_common_66 : decode cX7_common 66 = .ok (.ishr, 1) := by decide +kernel
theorem dX7_common_67 : decode cX7_common 67 = .ok (.iconst 1, 1) := by decide +kernel
theorem dX7_common_68 : decode cX7_common 68 = .ok (.iand, 1) := by decide +kernel
theorem dX7_common_69 : decode cX7_common 69 = .ok (.iconst 1, 1) := by decide +kernel
theorem dX7_common_70 : decode cX7_common 70 = .ok (.if_icmp .ne 6, 3) := by decide +kernel
theorem dX7_common_73 : decode cX7_common 73 = .ok (.iload 4, 2) := by decide +kernel
theorem dX7_common_75 : decode cX7_common 75 = .ok (.ireturn, 1) := by decide +kernel
theorem dX7_common_76 : decode cX7_common 76 = .ok (.iinc 4 (-1), 3) := by decide +kernel
theorem dX7_common_79 : decode cX7_common 79 = .ok (.goto (-21), 3) := by decide +kernel
theorem dX7_common_82 : decode cX7_common 82 = .ok (.bipush (-9), 2) := by decide +kernel
theorem dX7_common_84 : decode cX7_common 84 = .ok (.ireturn, 1) := by decide +kernel
theorem dX7_generations_0 : decode cX7_generations 0 = .ok (.iload_n 1, 1) := by decide +kernel
theorem dX7_generations_1 : decode cX7_generations 1 = .ok (.invokestatic 133, 3) := by decide +kernel
theorem dX7_generations_4 : decode cX7_generations 4 = .ok (.ifCond .ne 9, 3) := by decide +kernel
theorem dX7_generations_7 : decode cX7_generations 7 = .ok (.aload_n 0, 1) := by decide +kernel
theorem dX7_generations_8 : decode cX7_generations 8 = .ok (.iconst (-1), 1) := by decide +kernel
theorem dX7_generations_9 : decode cX7_generations 9 = .ok (.invokevirtual 67, 3) := by decide +kernel
theorem dX7_generations_12 : decode cX7_generations 12 = .ok (.ireturn, 1) := by decide +kernel
theorem dX7_generations_13 : decode cX7_generations 13 = .ok (.iload_n 2, 1) := by decide +kernel
theorem dX7_generations_14 : decode cX7_generations 14 = .ok (.ifCond .ge 10, 3) := by decide +kernel
theorem dX7_generations_17 : decode cX7_generations 17 = .ok (.aload_n 0, 1) := by decide +kernel
theorem dX7_generations_18 : decode cX7_generations 18 = .ok (.bipush (-4), 2) := by decide +kernel
theorem dX7_generations_20 : decode cX7_generations 20 = .ok (.invokevirtual 67, 3) := by decide +kernel
theorem dX7_generations_23 : decode cX7_generations 23 = .ok (.ireturn, 1) := by decide +kernel
theorem dX7_generations_24 : decode cX7_generations 24 = .ok (.iload_n 2, 1) := by decide +kernel
theorem dX7_generations_25 : decode cX7_generations 25 = .ok (.bipush 9, 2) := by decide +kernel
theorem dX7_generations_27 : decode cX7_generations 27 = .ok (.if_icmp .le 10, 3) := by decide +kernel
theorem dX7_generations_30 : decode cX7_generations 30 = .ok (.aload_n 0, 1) := by decide +kernel
theorem dX7_generations_31 : decode cX7_generations 31 = .ok (.bipush (-6), 2) := by decide +kernel
theorem dX7_generations_33 : decode cX7_generations 33 = .ok (.invokevirtual 67, 3) := by decide +kernel
theorem dX7_generations_36 : decode cX7_generations 36 = .ok (.ireturn, 1) := by decide +kernel
theorem dX7_generations_37 : decode cX7_generations 37 = .ok (.aload_n 0, 1) := by decide +kernel
theorem dX7_generations_38 : decode cX7_generations 38 = .ok (.getfield 10, 3) := by decide +kernel
theorem dX7_generations_41 : decode cX7_generations 41 = .ok (.aload_n 0, 1) := by decide +kernel
theorem dX7_generations_42 : decode cX7_generations 42 = .ok (.getfield 10, 3) := by decide +kernel
theorem dX7_generations_45 : decode cX7_generations 45 = .ok (.getfield 136, 3) := by decide +kernel
theorem dX7_generations_48 : decode cX7_generations 48 = .ok (.iload_n 1, 1) := by decide +kernel
theorem dX7_generations_49 : decode cX7_generations 49 = .ok (.iaload, 1) := by decide +kernel
theorem dX7_generations_50 : decode cX7_generations 50 = .ok (.invokevirtual 109, 3) := by decide +kernel
theorem dX7_generations_53 : decode cX7_generations 53 = .ok (.ifCond .ne 5, 3) := by decide +kernel
theorem dX7_generations_56 : decode cX7_generations 56 = .ok (.iconst 0, 1) := by decide +kernel
theorem dX7_generations_57 : decode cX7_generations 57 = .ok (.ireturn, 1) := by decide +kernel
theorem dX7_generations_58 : decode cX7_generations 58 = .ok (.iconst 1, 1) := by decide +kernel
theorem dX7_generations_59 : decode cX7_generations 59 = .ok (.aload_n 0, 1) := by decide +kernel
theorem dX7_generations_60 : decode cX7_generations 60 = .ok (.getfield 10, 3) := by decide +kernel
theorem dX7_generations_63 : decode cX7_generations 63 = .ok (.getfield 136, 3) := by decide +kernel
theorem dX7_generations_66 : decode cX7_generations 66 = .ok (.iload_n 1, 1) := by decide +kernel
theorem dX7_generations_67 : decode cX7_generations 67 = .ok (.iaload, 1) := by decide +kernel
theorem dX7_generations_68 : decode cX7_generations 68 = .ok (.ishl, 1) := by decide +kernel
theorem dX7_generations_69 : decode cX7_generations 69 = .ok (.istore_n 3, 1) := by decide +kernel
theorem dX7_generations_70 : decode cX7_generations 70 = .ok (.iconst 0, 1) := by decide +kernel
theorem dX7_generations_71 : decode cX7_generations 71 = .ok (.istore 4, 2) := by decide +kernel
theorem dX7_generations_73 : decode cX7_generations 73 = .ok (.iload 4, 2) := by decide +kernel
theorem dX7_generations_75 : decode cX7_generations 75 = .ok (.iload_n 2, 1) := by decide +kernel
theorem dX7_generations_76 : decode cX7_generations 76 = .ok (.if_icmp .ge 20, 3) := by decide +kernel
theorem dX7_generations_79 : decode cX7_generations 79 = .ok (.iload_n 3, 1) := by decide +kernel
theorem dX7_generations_80 : decode cX7_generations 80 = .ok (.aload_n 0, 1) := by decide +kernel
theorem dX7_generations_81 : decode cX7_generations 81 = .ok (.getfield 10, 3) := by decide +kernel
theorem dX7_generations_84 : decode cX7_generations 84 = .ok (.iload_n 3, 1) := by decide +kernel
theorem dX7_generations_85 : decode cX7_generations 85 = .ok (.invokevirtual 241, 3) := by decide +kernel
theorem dX7_generations_88 : decode cX7_generations 88 = .ok (.ior, 1) := by decide +kernel
theorem dX7_generations_89 : decode cX7_generations 89 = .ok (.istore_n 3, 1) := by decide +kernel
theorem dX7_generations_90 : decode cX7_generations 90 = .ok (.iinc 4 1, 3) := by decide +kernel
theorem dX7_generations_93 : decode cX7_generations 93 = .ok (.goto (-20), 3) := by decide +kernel
theorem dX7_generations_96 : decode cX7_generations 96 = .ok (.iload_n 3, 1) := by decide +kernel
theorem dX7_generations_97 : decode cX7_generations 97 = .ok (.ireturn, 1) := by decide +kernel
theorem dX7_twin_0 : decode cX7_twin 0 = .ok (.aload_n 0, 1) := by decide +kernel
theorem dX7_twin_1 : decode cX7_twin 1 = .ok (.getfield 10, 3) := by decide +kernel
theorem dX7_twin_4 : decode cX7_twin 4 = .ok (.iload_n 1, 1) := by decide +kernel
theorem dX7_twin_5 : decode cX7_twin 5 = .ok (.invokevirtual 109, 3) := by decide +kernel
theorem dX7_twin_8 : decode cX7_twin 8 = .ok (.ifCond .ne 9, 3) := by decide +kernel
theorem dX7_twin_11 : decode cX7_twin 11 = .ok (.aload_n 0, 1) := by decide +kernel
theorem dX7_twin_12 : decode cX7_twin 12 = .ok (.iconst (-1), 1) := by decide +kernel
theorem dX7_twin_13 : decode cX7_twin 13 = .ok (.invokevirtual 67, 3) := by decide +kernel
theorem dX7_twin_16 : decode cX7_twin 16 = .ok (.ireturn, 1) := by decide +kernel
theorem dX7_twin_17 : decode cX7_twin 17 = .ok (.aload_n 0, 1) := by decide +kernel
theorem dX7_twin_18 : decode cX7_twin 18 = .ok (.getfield 10, 3) := by decide +kernel
theorem dX7_twin_21 : decode cX7_twin 21 = .ok (.iload_n 1, 1) := by decide +kernel
theorem dX7_twin_22 : decode cX7_twin 22 = .ok (.invokevirtual 244, 3) := by decide +kernel
theorem dX7_twin_25 : decode cX7_twin 25 = .ok (.ireturn, 1) := by decide +kernel
theorem dX7_fetch_0 : decode cX7_fetch 0 = .ok (.iload_n 1, 1) := by decide +kernel
theorem dX7_fetch_1 : decode cX7_fetch 1 = .ok (.invokestatic 133, 3) := by decide +kernel
theorem dX7_fetch_4 : decode cX7_fetch 4 = .ok (.ifCond .ne 9, 3) := by decide +kernel
theorem dX7_fetch_7 : decode cX7_fetch 7 = .ok (.aload_n 0, 1) := by decide +kernel
theorem dX7_fetch_8 : decode cX7_fetch 8 = .ok (.iconst (-1), 1) := by decide +kernel
theorem dX7_fetch_9 : decode cX7_fetch 9 = .ok (.invokevirtual 67, 3) := by decide +kernel
theorem dX7_fetch_12 : decode cX7_fetch 12 = .ok (.ireturn, 1) := by decide +kernel
theorem dX7_fetch_13 : decode cX7_fetch 13 = .ok (.iload_n 2, 1) := by decide +kernel
theorem dX7_fetch_14 : decode cX7_fetch 14 = .ok (.ifCond .ge 10, 3) := by decide +kernel
theorem dX7_fetch_17 : decode cX7_fetch 17 = .ok (.aload_n 0, 1) := by decide +kernel
theorem dX7_fetch_18 : decode cX7_fetch 18 = .ok (.bipush (-4), 2) := by decide +kernel
theorem dX7_fetch_20 : decode cX7_fetch 20 = .ok (.invokevirtual 67, 3) := by decide +kernel
theorem dX7_fetch_23 : decode cX7_fetch 23 = .ok (.ireturn, 1) := by decide +kernel
theorem dX7_fetch_24 : decode cX7_fetch 24 = .ok (.iload_n 2, 1) := by decide +kernel
theorem dX7_fetch_25 : decode cX7_fetch 25 = .ok (.sipush 1023, 3) := by decide +kernel
theorem dX7_fetch_28 : decode cX7_fetch 28 = .ok (.if_icmp .le 10, 3) := by decide +kernel
theorem dX7_fetch_31 : decode cX7_fetch 31 = .ok (.aload_n 0, 1) := by decide +kernel
theorem dX7_fetch_32 : decode cX7_fetch 32 = .ok (.bipush (-6), 2) := by decide +kernel
theorem dX7_fetch_34 : decode cX7_fetch 34 = .ok (.invokevirtual 67, 3) := by decide +kernel
theorem dX7_fetch_37 : decode cX7_fetch 37 = .ok (.ireturn, 1) := by decide +kernel
theorem dX7_fetch_38 : decode cX7_fetch 38 = .ok (.iload_n 3, 1) := by decide +kernel
theorem dX7_fetch_39 : decode cX7_fetch 39 = .ok (.ifCond .lt 8, 3) := by decide +kernel
theorem dX7_fetch_42 : decode cX7_fetch 42 = .ok (.iload_n 3, 1) := by decide +kernel
theorem dX7_fetch_43 : decode cX7_fetch 43 = .ok (.iconst 2, 1) := by decide +kernel
theorem dX7_fetch_44 : decode cX7_fetch 44 = .ok (.if_icmp .le 10, 3) := by decide +kernel
theorem dX7_fetch_47 : decode cX7_fetch 47 = .ok (.aload_n 0, 1) := by decide +kernel
theorem dX7_fetch_48 : decode cX7_fetch 48 = .ok (.bipush (-2), 2) := by decide +kernel
theorem dX7_fetch_50 : decode cX7_fetch 50 = .ok (.invokevirtual 67, 3) := by decide +kernel
theorem dX7_fetch_53 : decode cX7_fetch 53 = .ok (.ireturn, 1) := by decide +kernel
theorem dX7_fetch_54 : decode cX7_fetch 54 = .ok (.aload_n 0, 1) := by decide +kernel
theorem dX7_fetch_55 : decode cX7_fetch 55 = .ok (.getfield 10, 3) := by decide +kernel
theorem dX7_fetch_58 : decode cX7_fetch 58 = .ok (.getfield 136, 3) := by decide +kernel
theorem dX7_fetch_61 : decode cX7_fetch 61 = .ok (.iload_n 1, 1) := by decide +kernel
theorem dX7_fetch_62 : decode cX7_fetch 62 = .ok (.iaload, 1) := by decide +kernel
theorem dX7_fetch_63 : decode cX7_fetch 63 = .ok (.istore 4, 2) := by decide +kernel
theorem dX7_fetch_65 : decode cX7_fetch 65 = .ok (.aload_n 0, 1) := by decide +kernel
theorem dX7_fetch_66 : decode cX7_fetch 66 = .ok (.getfield 10, 3) := by decide +kernel
theorem dX7_fetch_69 : decode cX7_fetch 69 = .ok (.iload 4, 2) := by decide +kernel
theorem dX7_fetch_71 : decode cX7_fetch 71 = .ok (.invokevirtual 109, 3) := by decide +kernel
theorem dX7_fetch_74 : decode cX7_fetch 74 = .ok (.ifCond .ne 5, 3) := by decide +kernel
theorem dX7_fetch_77 : decode cX7_fetch 77 = .ok (.iconst 0, 1) := by decide +kernel
theorem dX7_fetch_78 : decode cX7_fetch 78 = .ok (.ireturn, 1) := by decide +kernel
theorem dX7_fetch_79 : decode cX7_fetch 79 = .ok (.aload_n 0, 1) := by decide +kernel
theorem dX7_fetch_80 : decode cX7_fetch 80 = .ok (.getfield 10, 3) := by decide +kernel
theorem dX7_fetch_83 : decode cX7_fetch 83 = .ok (.iload_n 2, 1) := by decide +kernel
theorem dX7_fetch_84 : decode cX7_fetch 84 = .ok (.invokevirtual 247, 3) := by decide +kernel
theorem dX7_fetch_87 : decode cX7_fetch 87 = .ok (.istore 5, 2) := by decide +kernel
theorem dX7_fetch_89 : decode cX7_fetch 89 = .ok (.aload_n 0, 1) := by decide +kernel
theorem dX7_fetch_90 : decode cX7_fetch 90 = .ok (.getfield 10, 3) := by decide +kernel
theorem dX7_fetch_93 : decode cX7_fetch 93 = .ok (.getfield 113, 3) := by decide +kernel
theorem dX7_fetch_96 : decode cX7_fetch 96 = .ok (.iload 4, 2) := by decide +kernel
theorem dX7_fetch_98 : decode cX7_fetch 98 = .ok (.aaload, 1) := by decide +kernel
theorem dX7_fetch_99 : decode cX7_fetch 99 = .ok (.getfield 238, 3) := by decide +kernel
theorem dX7_fetch_102 : decode cX7_fetch 102 = .ok (.aload_n 0, 1) := by decide +kernel
theorem dX7_fetch_103 : decode cX7_fetch 103 = .ok (.getfield 10, 3) := by decide +kernel
theorem dX7_fetch_106 : decode cX7_fetch 106 = .ok (.getfield 235, 3) := by decide +kernel
theorem dX7_fetch_109 : decode cX7_fetch 109 = .ok (.iand, 1) := by decide +kernel
theorem dX7_fetch_110 : decode cX7_fetch 110 = .ok (.iload 5, 2) := by decide +kernel
theorem dX7_fetch_112 : decode cX7_fetch 112 = .ok (.iconst (-1), 1) := by decide +kernel
theorem dX7_fetch_113 : decode cX7_fetch 113 = .ok (.ixor, 1) := by decide +kernel
theorem dX7_fetch_114 : decode cX7_fetch 114 = .ok (.iand, 1) := by decide +kernel
theorem dX7_fetch_115 : decode cX7_fetch 115 = .ok (.istore 6, 2) := by decide +kernel
theorem dX7_fetch_117 : decode cX7_fetch 117 = .ok (.iload_n 3, 1) := by decide +kernel
theorem dX7_fetch_118 : decode cX7_fetch 118 = .ok (.ifCond .ne 6, 3) := by decide +kernel
theorem dX7_fetch_121 : decode cX7_fetch 121 = .ok (.iload 6, 2) := by decide +kernel
theorem dX7_fetch_123 : decode cX7_fetch 123 = .ok (.ireturn, 1) := by decide +kernel
theorem dX7_fetch_124 : decode cX7_fetch 124 = .ok (.iload 6, 2) := by decide +kernel
theorem dX7_fetch_126 : decode cX7_fetch 126 = .ok (.iload 5, 2) := by decide +kernel
theorem dX7_fetch_128 : decode cX7_fetch 128 = .ok (.ior, 1) := by decide +kernel
theorem dX7_fetch_129 : decode cX7_fetch 129 = .ok (.aload_n 0, 1) := by decide +kernel
theorem dX7_fetch_130 : decode cX7_fetch 130 = .ok (.getfield 10, 3) := by decide +kernel
theorem dX7_fetch_133 : decode cX7_fetch 133 = .ok (.getfield 235, 3) := by decide +kernel
theorem dX7_fetch_136 : decode cX7_fetch 136 = .ok (.iand, 1) := by decide +kernel
theorem dX7_fetch_137 : decode cX7_fetch 137 = .ok (.istore 7, 2) := by decide +kernel
theorem dX7_fetch_139 : decode cX7_fetch 139 = .ok (.iload_n 3, 1) := by decide +kernel
theorem dX7_fetch_140 : decode cX7_fetch 140 = .ok (.iconst 1, 1) := by decide +kernel
theorem dX7_fetch_141 : decode cX7_fetch 141 = .ok (.if_icmp .ne 17, 3) := by decide +kernel
theorem dX7_fetch_144 : decode cX7_fetch 144 = .ok (.aload_n 0, 1) := by decide +kernel
theorem dX7_fetch_145 : decode cX7_fetch 145 = .ok (.getfield 10, 3) := by decide +kernel
theorem dX7_fetch_148 : decode cX7_fetch 148 = .ok (.iload 6, 2) := by decide +kernel
theorem dX7_fetch_150 : decode cX7_fetch 150 = .ok (.iload 7, 2) := by decide +kernel
theorem dX7_fetch_152 : decode cX7_fetch 152 = .ok (.invokevirtual 250, 3) := by decide +kernel
theorem dX7_fetch_155 : decode cX7_fetch 155 = .ok (.goto 17, 3) := by decide +kernel
theorem dX7_fetch_158 : decode cX7_fetch 158 = .ok (.aload_n 0, 1) := by decide +kernel
theorem dX7_fetch_159 : decode cX7_fetch 159 = .ok (.getfield 10, 3) := by decide +kernel
theorem dX7_fetch_162 : decode cX7_fetch 162 = .ok (.iload 6, 2) := by decide +kernel
theorem dX7_fetch_164 : decode cX7_fetch 164 = .ok (.iload 7, 2) := by decide +kernel
theorem dX7_fetch_166 : decode cX7_fetch 166 = .ok (.invokevirtual 253, 3) := by decide +kernel
theorem dX7_fetch_169 : decode cX7_fetch 169 = .ok (.invokestatic 256, 3) := by decide +kernel
theorem dX7_fetch_172 : decode cX7_fetch 172 = .ok (.ireturn, 1) := by decide +kernel
theorem dX7_wrong_0 : decode cX7_wrong 0 = .ok (.iconst 0, 1) := by decide +kernel
theorem dX7_wrong_1 : decode cX7_wrong 1 = .ok (.istore_n 1, 1) := by decide +kernel
theorem dX7_wrong_2 : decode cX7_wrong 2 = .ok (.iconst 0, 1) := by decide +kernel
theorem dX7_wrong_3 : decode cX7_wrong 3 = .ok (.istore_n 2, 1) := by decide +kernel
theorem dX7_wrong_4 : decode cX7_wrong 4 = .ok (.iload_n 2, 1) := by decide +kernel
theorem dX7_wrong_5 : decode cX7_wrong 5 = .ok (.aload_n 0, 1) := by decide +kernel
theorem dX7_wrong_6 : decode cX7_wrong 6 = .ok (.getfield 10, 3) := by decide +kernel
theorem dX7_wrong_9 : decode cX7_wrong 9 = .ok (.getfield 226, 3) := by decide +kernel
theorem dX7_wrong_12 : decode cX7_wrong 12 = .ok (.if_icmp .ge 41, 3) := by decide +kernel
theorem dX7_wrong_15 : decode cX7_wrong 15 = .ok (.aload_n 0, 1) := by decide +kernel
theorem dX7_wrong_16 : decode cX7_wrong 16 = .ok (.getfield 10, 3) := by decide +kernel
theorem dX7_wrong_19 : decode cX7_wrong 19 = .ok (.iload_n 2, 1) := by decide +kernel
theorem dX7_wrong_20 : decode cX7_wrong 20 = .ok (.invokevirtual 109, 3) := by decide +kernel
theorem dX7_wrong_23 : decode cX7_wrong 23 = .ok (.ifCond .eq 24, 3) := by decide +kernel
theorem dX7_wrong_26 : decode cX7_wrong 26 = .ok (.aload_n 0, 1) := by decide +kernel
theorem dX7_wrong_27 : decode cX7_wrong 27 = .ok (.getfield 10, 3) := by decide +kernel
theorem dX7_wrong_30 : decode cX7_wrong 30 = .ok (.getfield 113, 3) := by decide +kernel
theorem dX7_wrong_33 : decode cX7_wrong 33 = .ok (.iload_n 2, 1) := by decide +kernel
theorem dX7_wrong_34 : decode cX7_wrong 34 = .ok (.aaload, 1) := by decide +kernel
theorem dX7_wrong_35 : decode cX7_wrong 35 = .ok (.invokevirtual 195, 3) := by decide +kernel
theorem dX7_wrong_38 : decode cX7_wrong 38 = .ok (.ifCond .ne 9, 3) := by decide +kernel
theorem dX7_wrong_41 : decode cX7_wrong 41 = .ok (.iload_n 1, 1) := by decide +kernel
theorem dX7_wrong_42 : decode cX7_wrong 42 = .ok (.iconst 1, 1) := by decide +kernel
theorem dX7_wrong_43 : decode cX7_wrong 43 = .ok (.iload_n 2, 1) := by decide +kernel
theorem dX7_wrong_44 : decode cX7_wrong 44 = .ok (.ishl, 1) := by decide +kernel
theorem dX7_wrong_45 : decode cX7_wrong 45 = .ok (.ior, 1) := by decide +kernel
theorem dX7_wrong_46 : decode cX7_wrong 46 = .ok (.istore_n 1, 1) := by decide +kernel
theorem dX7_wrong_47 : decode cX7_wrong 47 = .ok (.iinc 2 1, 3) := by decide +kernel
theorem dX7_wrong_50 : decode cX7_wrong 50 = .ok (.goto (-46), 3) := by decide +kernel
theorem dX7_wrong_53 : decode cX7_wrong 53 = .ok (.iload_n 1, 1) := by decide +kernel
theorem dX7_wrong_54 : decode cX7_wrong 54 = .ok (.ireturn, 1) := by decide +kernel
theorem dX7_hurt_0 : decode cX7_hurt 0 = .ok (.aload_n 0, 1) := by decide +kernel
theorem dX7_hurt_1 : decode cX7_hurt 1 = .ok (.getfield 10, 3) := by decide +kernel
theorem dX7_hurt_4 : decode cX7_hurt 4 = .ok (.iload_n 1, 1) := by decide +kernel
theorem dX7_hurt_5 : decode cX7_hurt 5 = .ok (.invokevirtual 109, 3) := by decide +kernel
theorem dX7_hurt_8 : decode cX7_hurt 8 = .ok (.ifCond .ne 9, 3) := by decide +kernel
theorem dX7_hurt_11 : decode cX7_hurt 11 = .ok (.aload_n 0, 1) := by decide +kernel
theorem dX7_hurt_12 : decode cX7_hurt 12 = .ok (.iconst (-1), 1) := by decide +kernel
theorem dX7_hurt_13 : decode cX7_hurt 13 = .ok (.invokevirtual 67, 3) := by decide +kernel
theorem dX7_hurt_16 : decode cX7_hurt 16 = .ok (.ireturn, 1) := by decide +kernel
theorem dX7_hurt_17 : decode cX7_hurt 17 = .ok (.iconst 0, 1) := by decide +kernel
theorem dX7_hurt_18 : decode cX7_hurt 18 = .ok (.istore_n 2, 1) := by decide +kernel
theorem dX7_hurt_19 : decode cX7_hurt 19 = .ok (.iconst 0, 1) := by decide +kernel
theorem dX7_hurt_20 : decode cX7_hurt 20 = .ok (.istore_n 3, 1) := by decide +kernel
theorem dX7_hurt_21 : decode cX7_hurt 21 = .ok (.iload_n 3, 1) := by decide +kernel
theorem dX7_hurt_22 : decode cX7_hurt 22 = .ok (.aload_n 0, 1) := by decide +kernel
theorem dX7_hurt_23 : decode cX7_hurt 23 = .ok (.getfield 10, 3) := by decide +kernel
theorem dX7_hurt_26 : decode cX7_hurt 26 = .ok (.getfield 226, 3) := by decide +kernel
theorem dX7_hurt_29 : decode cX7_hurt 29 = .ok (.if_icmp .ge 42, 3) := by decide +kernel
theorem dX7_hurt_32 : decode cX7_hurt 32 = .ok (.aload_n 0, 1) := by decide +kernel
theorem dX7_hurt_33 : decode cX7_hurt 33 = .ok (.getfield 10, 3) := by decide +kernel
theorem dX7_hurt_36 : decode cX7_hurt 36 = .ok (.iload_n 3, 1) := by decide +kernel
theorem dX7_hurt_37 : decode cX7_hurt 37 = .ok (.invokevirtual 109, 3) := by decide +kernel
theorem dX7_hurt_40 : decode cX7_hurt 40 = .ok (.ifCond .eq 25, 3) := by decide +kernel
theorem dX7_hurt_43 : decode cX7_hurt 43 = .ok (.aload_n 0, 1) := by decide +kernel
theorem dX7_hurt_44 : decode cX7_hurt 44 = .ok (.getfield 10, 3) := by decide +kernel
theorem dX7_hurt_47 : decode cX7_hurt 47 = .ok (.iload_n 3, 1) := by decide +kernel
theorem dX7_hurt_48 : decode cX7_hurt 48 = .ok (.invokevirtual 259, 3) := by decide +kernel
theorem dX7_hurt_51 : decode cX7_hurt 51 = .ok (.iload_n 1, 1) := by decide +kernel
theorem dX7_hurt_52 : decode cX7_hurt 52 = .ok (.ishr, 1) := by decide +kernel
theorem dX7_hurt_53 : decode cX7_hurt 53 = .ok (.iconst 1, 1) := by decide +kernel
theorem dX7_hurt_54 : decode cX7_hurt 54 = .ok (.iand, 1) := by decide +kernel
theorem dX7_hurt_55 : decode cX7_hurt 55 = .ok (.iconst 1, 1) := by decide +kernel
theorem dX7_hurt_56 : decode cX7_hurt 56 = .ok (.if_icmp .ne 9, 3) := by decide +kernel
theorem dX7_hurt_59 : decode cX7_hurt 59 = .ok (.iload_n 2, 1) := by decide +kernel
theorem dX7_hurt_60 : decode cX7_hurt 60 = .ok (.iconst 1, 1) := by decide +kernel
theorem dX7_hurt_61 : decode cX7_hurt 61 = .ok (.iload_n 3, 1) := by decide +kernel
theorem dX7_hurt_62 : decode cX7_hurt 62 = .ok (.ishl, 1) := by decide +kernel
theorem dX7_hurt_63 : decode cX7_hurt 63 = .ok (.ior, 1) := by decide +kernel
theorem dX7_hurt_64 : decode cX7_hurt 64 = .ok (.istore_n 2, 1) := by decide +kernel
theorem dX7_hurt_65 : decode cX7_hurt 65 = .ok (.iinc 3 1, 3) := by decide +kernel
theorem dX7_hurt_68 : decode cX7_hurt 68 = .ok (.goto (-47), 3) := by decide +kernel
theorem dX7_hurt_71 : decode cX7_hurt 71 = .ok (.iload_n 2, 1) := by decide +kernel
theorem dX7_hurt_72 : decode cX7_hurt 72 = .ok (.ireturn, 1) := by decide +kernel
theorem dX7_lost_0 : decode cX7_lost 0 = .ok (.iload_n 1, 1) := by decide +kernel
theorem dX7_lost_1 : decode cX7_lost 1 = .ok (.invokestatic 133, 3) := by decide +kernel
theorem dX7_lost_4 : decode cX7_lost 4 = .ok (.ifCond .ne 9, 3) := by decide +kernel
theorem dX7_lost_7 : decode cX7_lost 7 = .ok (.aload_n 0, 1) := by decide +kernel
theorem dX7_lost_8 : decode cX7_lost 8 = .ok (.iconst (-1), 1) := by decide +kernel
theorem dX7_lost_9 : decode cX7_lost 9 = .ok (.invokevirtual 262, 3) := by decide +kernel
theorem dX7_lost_12 : decode cX7_lost 12 = .ok (.lreturn, 1) := by decide +kernel
theorem dX7_lost_13 : decode cX7_lost 13 = .ok (.aload_n 0, 1) := by decide +kernel
theorem dX7_lost_14 : decode cX7_lost 14 = .ok (.getfield 10, 3) := by decide +kernel
theorem dX7_lost_17 : decode cX7_lost 17 = .ok (.getfield 136, 3) := by decide +kernel
theorem dX7_lost_20 : decode cX7_lost 20 = .ok (.iload_n 1, 1) := by decide +kernel
theorem dX7_lost_21 : decode cX7_lost 21 = .ok (.iaload, 1) := by decide +kernel
theorem dX7_lost_22 : decode cX7_lost 22 = .ok (.iconst (-1), 1) := by decide +kernel
theorem dX7_lost_23 : decode cX7_lost 23 = .ok (.if_icmp .ne 10, 3) := by decide +kernel
theorem dX7_lost_26 : decode cX7_lost 26 = .ok (.aload_n 0, 1) := by decide +kernel
theorem dX7_lost_27 : decode cX7_lost 27 = .ok (.bipush (-3), 2) := by decide +kernel
theorem dX7_lost_29 : decode cX7_lost 29 = .ok (.invokevirtual 262, 3) := by decide +kernel
theorem dX7_lost_32 : decode cX7_lost 32 = .ok (.lreturn, 1) := by decide +kernel
theorem dX7_lost_33 : decode cX7_lost 33 = .ok (.iload_n 2, 1) := by decide +kernel
theorem dX7_lost_34 : decode cX7_lost 34 = .ok (.iconst 2, 1) := by decide +kernel
theorem dX7_lost_35 : decode cX7_lost 35 = .ok (.if_icmp .ge 10, 3) := by decide +kernel
theorem dX7_lost_38 : decode cX7_lost 38 = .ok (.aload_n 0, 1) := by decide +kernel
theorem dX7_lost_39 : decode cX7_lost 39 = .ok (.bipush (-4), 2) := by decide +kernel
theorem dX7_lost_41 : decode cX7_lost 41 = .ok (.invokevirtual 262, 3) := by decide +kernel
theorem dX7_lost_44 : decode cX7_lost 44 = .ok (.lreturn, 1) := by decide +kernel
theorem dX7_lost_45 : decode cX7_lost 45 = .ok (.iload_n 2, 1) := by decide +kernel
theorem dX7_lost_46 : decode cX7_lost 46 = .ok (.bipush 20, 2) := by decide +kernel
theorem dX7_lost_48 : decode cX7_lost 48 = .ok (.if_icmp .le 10, 3) := by decide +kernel
theorem dX7_lost_51 : decode cX7_lost 51 = .ok (.aload_n 0, 1) := by decide +kernel
theorem dX7_lost_52 : decode cX7_lost 52 = .ok (.bipush (-6), 2) := by decide +kernel
theorem dX7_lost_54 : decode cX7_lost 54 = .ok (.invokevirtual 262, 3) := by decide +kernel
theorem dX7_lost_57 : decode cX7_lost 57 = .ok (.lreturn, 1) := by decide +kernel
theorem dX7_lost_58 : decode cX7_lost 58 = .ok (.iload_n 3, 1) := by decide +kernel
theorem dX7_lost_59 : decode cX7_lost 59 = .ok (.ifCond .lt 8, 3) := by decide +kernel
theorem dX7_lost_62 : decode cX7_lost 62 = .ok (.iload_n 3, 1) := by decide +kernel
theorem dX7_lost_63 : decode cX7_lost 63 = .ok (.iconst 1, 1) := by decide +kernel
theorem dX7_lost_64 : decode cX7_lost 64 = .ok (.if_icmp .le 10, 3) := by decide +kernel
theorem dX7_lost_67 : decode cX7_lost 67 = .ok (.aload_n 0, 1) := by decide +kernel
theorem dX7_lost_68 : decode cX7_lost 68 = .ok (.bipush (-2), 2) := by decide +kernel
theorem dX7_lost_70 : decode cX7_lost 70 = .ok (.invokevirtual 262, 3) := by decide +kernel
theorem dX7_lost_73 : decode cX7_lost 73 = .ok (.lreturn, 1) := by decide +kernel
theorem dX7_lost_74 : decode cX7_lost 74 = .ok (.iload_n 3, 1) := by decide +kernel
theorem dX7_lost_75 : decode cX7_lost 75 = .ok (.ifCond .ne 10, 3) := by decide +kernel
theorem dX7_lost_78 : decode cX7_lost 78 = .ok (.iload_n 2, 1) := by decide +kernel
theorem dX7_lost_79 : decode cX7_lost 79 = .ok (.iconst 1, 1) := by decide +kernel
theorem dX7_lost_80 : decode cX7_lost 80 = .ok (.isub, 1) := by decide +kernel
theorem dX7_lost_81 : decode cX7_lost 81 = .ok (.i2l, 1) := by decide +kernel
theorem dX7_lost_82 : decode cX7_lost 82 = .ok (.goto 5, 3) := by decide +kernel
theorem dX7_lost_85 : decode cX7_lost 85 = .ok (.iload_n 2, 1) := by decide +kernel
theorem dX7_lost_86 : decode cX7_lost 86 = .ok (.i2l, 1) := by decide +kernel
theorem dX7_lost_87 : decode cX7_lost 87 = .ok (.lstore 4, 2) := by decide +kernel
theorem dX7_lost_89 : decode cX7_lost 89 = .ok (.aload_n 0, 1) := by decide +kernel
theorem dX7_lost_90 : decode cX7_lost 90 = .ok (.getfield 10, 3) := by decide +kernel
theorem dX7_lost_93 : decode cX7_lost 93 = .ok (.aload_n 0, 1) := by decide +kernel
theorem dX7_lost_94 : decode cX7_lost 94 = .ok (.getfield 10, 3) := by decide +kernel
theorem dX7_lost_97 : decode cX7_lost 97 = .ok (.getfield 136, 3) := by decide +kernel
theorem dX7_lost_100 : decode cX7_lost 100 = .ok (.iload_n 1, 1) := by decide +kernel
theorem dX7_lost_101 : decode cX7_lost 101 = .ok (.iaload, 1) := by decide +kernel
theorem dX7_lost_102 : decode cX7_lost 102 = .ok (.invokevirtual 259, 3) := by decide +kernel
theorem dX7_lost_105 : decode cX7_lost 105 = .ok (.bipush 63, 2) := by decide +kernel
theorem dX7_lost_107 : decode cX7_lost 107 = .ok (.iand, 1) := by decide +kernel
theorem dX7_lost_108 : decode cX7_lost 108 = .ok (.invokestatic 256, 3) := by decide +kernel
theorem dX7_lost_111 : decode cX7_lost 111 = .ok (.istore 6, 2) := by decide +kernel
theorem dX7_lost_113 : decode cX7_lost 113 = .ok (.lconst 1, 1) := by decide +kernel
theorem dX7_lost_114 : decode cX7_lost 114 = .ok (.lstore 7, 2) := by decide +kernel
theorem dX7_lost_116 : decode cX7_lost 116 = .ok (.iconst 0, 1) := by decide +kernel
theorem dX7_lost_117 : decode cX7_lost 117 = .ok (.istore 9, 2) := by decide +kernel
theorem dX7_lost_119 : decode cX7_lost 119 = .ok (.iload 9, 2) := by decide +kernel
theorem dX7_lost_121 : decode cX7_lost 121 = .ok (.iload 6, 2) := by decide +kernel
theorem dX7_lost_123 : decode cX7_lost 123 = .ok (.if_icmp .ge 16, 3) := by decide +kernel
theorem dX7_lost_126 : decode cX7_lost 126 = .ok (.lload 7, 2) := by decide +kernel
theorem dX7_lost_128 : decode cX7_lost 128 = .ok (.lload 4, 2) := by decide +kernel
theorem dX7_lost_130 : decode cX7_lost 130 = .ok (.lmul, 1) := by decide +kernel
theorem dX7_lost_131 : decode cX7_lost 131 = .ok (.lstore 7, 2) := by decide +kernel
theorem dX7_lost_133 : decode cX7_lost 133 = .ok (.iinc 9 1, 3) := by decide +kernel
theorem dX7_lost_136 : decode cX7_lost 136 = .ok (.goto (-17), 3) := by decide +kernel
theorem dX7_lost_139 : decode cX7_lost 139 = .ok (.lload 7, 2) := by decide +kernel
theorem dX7_lost_141 : decode cX7_lost 141 = .ok (.lreturn, 1) := by decide +kernel
theorem dX7_mean_0 : decode cX7_mean 0 = .ok (.iload_n 1, 1) := by decide +kernel
theorem dX7_mean_1 : decode cX7_mean 1 = .ok (.ifCond .lt 8, 3) := by decide +kernel
theorem dX7_mean_4 : decode cX7_mean 4 = .ok (.iload_n 1, 1) := by decide +kernel
theorem dX7_mean_5 : decode cX7_mean 5 = .ok (.iconst 1, 1) := by decide +kernel
theorem dX7_mean_6 : decode cX7_mean 6 = .ok (.if_icmp .le 10, 3) := by decide +kernel
theorem dX7_mean_9 : decode cX7_mean 9 = .ok (.aload_n 0, 1) := by decide +kernel
theorem dX7_mean_10 : decode cX7_mean 10 = .ok (.bipush (-2), 2) := by decide +kernel
theorem dX7_mean_12 : decode cX7_mean 12 = .ok (.invokevirtual 262, 3) := by decide +kernel
theorem dX7_mean_15 : decode cX7_mean 15 = .ok (.lreturn, 1) := by decide +kernel
theorem dX7_mean_16 : decode cX7_mean 16 = .ok (.aload_n 0, 1) := by decide +kernel
theorem dX7_mean_17 : decode cX7_mean 17 = .ok (.getfield 10, 3) := by decide +kernel
theorem dX7_mean_20 : decode cX7_mean 20 = .ok (.invokevirtual 162, 3) := by decide +kernel
theorem dX7_mean_23 : decode cX7_mean 23 = .ok (.istore_n 2, 1) := by decide +kernel
theorem dX7_mean_24 : decode cX7_mean 24 = .ok (.aload_n 0, 1) := by decide +kernel
theorem dX7_mean_25 : decode cX7_mean 25 = .ok (.getfield 10, 3) := by decide +kernel
theorem dX7_mean_28 : decode cX7_mean 28 = .ok (.getfield 235, 3) := by decide +kernel
theorem dX7_mean_31 : decode cX7_mean 31 = .ok (.invokestatic 256, 3) := by decide +kernel
theorem dX7_mean_34 : decode cX7_mean 34 = .ok (.istore_n 3, 1) := by decide +kernel
theorem dX7_mean_35 : decode cX7_mean 35 = .ok (.iload_n 2, 1) := by decide +kernel
theorem dX7_mean_36 : decode cX7_mean 36 = .ok (.iload_n 3, 1) := by decide +kernel
theorem dX7_mean_37 : decode cX7_mean 37 = .ok (.invokestatic 266, 3) := by decide +kernel
theorem dX7_mean_40 : decode cX7_mean 40 = .ok (.istore 4, 2) := by decide +kernel
theorem dX7_mean_42 : decode cX7_mean 42 = .ok (.iload 4, 2) := by decide +kernel
theorem dX7_mean_44 : decode cX7_mean 44 = .ok (.ifCond .ne 6, 3) := by decide +kernel
theorem dX7_mean_47 : decode cX7_mean 47 = .ok (.iload_n 1, 1) := by decide +kernel
theorem dX7_mean_48 : decode cX7_mean 48 = .ok (.i2l, 1) := by decide +kernel
theorem dX7_mean_49 : decode cX7_mean 49 = .ok (.lreturn, 1) := by decide +kernel
theorem dX7_mean_50 : decode cX7_mean 50 = .ok (.iload_n 1, 1) := by decide +kernel
theorem dX7_mean_51 : decode cX7_mean 51 = .ok (.ifCond .ne 11, 3) := by decide +kernel
theorem dX7_mean_54 : decode cX7_mean 54 = .ok (.iload_n 2, 1) := by decide +kernel
theorem dX7_mean_55 : decode cX7_mean 55 = .ok (.iload 4, 2) := by decide +kernel
theorem dX7_mean_57 : decode cX7_mean 57 = .ok (.idiv, 1) := by decide +kernel
theorem dX7_mean_58 : decode cX7_mean 58 = .ok (.i2l, 1) := by decide +kernel
theorem dX7_mean_59 : decode cX7_mean 59 = .ok (.goto 8, 3) := by decide +kernel
theorem dX7_mean_62 : decode cX7_mean 62 = .ok (.iload_n 3, 1) := by decide +kernel
theorem dX7_mean_63 : decode cX7_mean 63 = .ok (.iload 4, 2) := by decide +kernel
theorem dX7_mean_65 : decode cX7_mean 65 = .ok (.idiv, 1) := by decide +kernel
theorem dX7_mean_66 : decode cX7_mean 66 = .ok (.i2l, 1) := by decide +kernel
theorem dX7_mean_67 : decode cX7_mean 67 = .ok (.lreturn, 1) := by decide +kernel
theorem dX7_whatIs_0 : decode cX7_whatIs 0 = .ok (.iload_n 1, 1) := by decide +kernel
theorem dX7_whatIs_1 : decode cX7_whatIs 1 = .ok (.ifCond .lt 8, 3) := by decide +kernel
theorem dX7_whatIs_4 : decode cX7_whatIs 4 = .ok (.iload_n 1, 1) := by decide +kernel
theorem dX7_whatIs_5 : decode cX7_whatIs 5 = .ok (.iconst 1, 1) := by decide +kernel
theorem dX7_whatIs_6 : decode cX7_whatIs 6 = .ok (.if_icmp .le 10, 3) := by decide +kernel
theorem dX7_whatIs_9 : decode cX7_whatIs 9 = .ok (.aload_n 0, 1) := by decide +kernel
theorem dX7_whatIs_10 : decode cX7_whatIs 10 = .ok (.bipush (-2), 2) := by decide +kernel
theorem dX7_whatIs_12 : decode cX7_whatIs 12 = .ok (.invokevirtual 67, 3) := by decide +kernel
theorem dX7_whatIs_15 : decode cX7_whatIs 15 = .ok (.ireturn, 1) := by decide +kernel
theorem dX7_whatIs_16 : decode cX7_whatIs 16 = .ok (.iload_n 1, 1) := by decide +kernel
theorem dX7_whatIs_17 : decode cX7_whatIs 17 = .ok (.ifCond .ne 8, 3) := by decide +kernel
theorem dX7_whatIs_20 : decode cX7_whatIs 20 = .ok (.bipush 6, 2) := by decide +kernel
theorem dX7_whatIs_22 : decode cX7_whatIs 22 = .ok (.goto 5, 3) := by decide +kernel
theorem dX7_whatIs_25 : decode cX7_whatIs 25 = .ok (.bipush 10, 2) := by decide +kernel
theorem dX7_whatIs_27 : decode cX7_whatIs 27 = .ok (.istore_n 2, 1) := by decide +kernel
theorem dX7_whatIs_28 : decode cX7_whatIs 28 = .ok (.iconst 0, 1) := by decide +kernel
theorem dX7_whatIs_29 : decode cX7_whatIs 29 = .ok (.istore_n 3, 1) := by decide +kernel
theorem dX7_whatIs_30 : decode cX7_whatIs 30 = .ok (.aload_n 0, 1) := by decide +kernel
theorem dX7_whatIs_31 : decode cX7_whatIs 31 = .ok (.getfield 25, 3) := by decide +kernel
theorem dX7_whatIs_34 : decode cX7_whatIs 34 = .ok (.aload_n 0, 1) := by decide +kernel
theorem dX7_whatIs_35 : decode cX7_whatIs 35 = .ok (.getfield 10, 3) := by decide +kernel
theorem dX7_whatIs_38 : decode cX7_whatIs 38 = .ok (.invokevirtual 151, 3) := by decide +kernel
theorem dX7_whatIs_41 : decode cX7_whatIs 41 = .ok (.iconst 0, 1) := by decide +kernel
theorem dX7_whatIs_42 : decode cX7_whatIs 42 = .ok (.istore 4, 2) := by decide +kernel
theorem dX7_whatIs_44 : decode cX7_whatIs 44 = .ok (.iload 4, 2) := by decide +kernel
theorem dX7_whatIs_46 : decode cX7_whatIs 46 = .ok (.iload_n 2, 1) := by decide +kernel
theorem dX7_whatIs_47 : decode cX7_whatIs 47 = .ok (.if_icmp .ge 83, 3) := by decide +kernel
theorem dX7_whatIs_50 : decode cX7_whatIs 50 = .ok (.iload_n 1, 1) := by decide +kernel
theorem dX7_whatIs_51 : decode cX7_whatIs 51 = .ok (.ifCond .ne 29, 3) := by decide +kernel
theorem dX7_whatIs_54 : decode cX7_whatIs 54 = .ok (.aload_n 0, 1) := by decide +kernel
theorem dX7_whatIs_55 : decode cX7_whatIs 55 = .ok (.getfield 25, 3) := by decide +kernel
theorem dX7_whatIs_58 : decode cX7_whatIs 58 = .ok (.iload 4, 2) := by decide +kernel
theorem dX7_whatIs_60 : decode cX7_whatIs 60 = .ok (.aload_n 0, 1) := by decide +kernel
theorem dX7_whatIs_61 : decode cX7_whatIs 61 = .ok (.getfield 10, 3) := by decide +kernel
theorem dX7_whatIs_64 : decode cX7_whatIs 64 = .ok (.getfield 145, 3) := by decide +kernel
theorem dX7_whatIs_67 : decode cX7_whatIs 67 = .ok (.aload_n 0, 1) := by decide +kernel
theorem dX7_whatIs_68 : decode cX7_whatIs 68 = .ok (.getfield 10, 3) := by decide +kernel
theorem dX7_whatIs_71 : decode cX7_whatIs 71 = .ok (.getfield 148, 3) := by decide +kernel
theorem dX7_whatIs_74 : decode cX7_whatIs 74 = .ok (.invokevirtual 154, 3) := by decide +kernel
theorem dX7_whatIs_77 : decode cX7_whatIs 77 = .ok (.goto 26, 3) := by decide +kernel
theorem dX7_whatIs_80 : decode cX7_whatIs 80 = .ok (.aload_n 0, 1) := by decide +kernel
theorem dX7_whatIs_81 : decode cX7_whatIs 81 = .ok (.getfield 25, 3) := by decide +kernel
theorem dX7_whatIs_84 : decode cX7_whatIs 84 = .ok (.aload_n 0, 1) := by decide +kernel
theorem dX7_whatIs_85 : decode cX7_whatIs 85 = .ok (.getfield 10, 3) := by decide +kernel
theorem dX7_whatIs_88 : decode cX7_whatIs 88 = .ok (.getfield 142, 3) := by decide +kernel
theorem dX7_whatIs_91 : decode cX7_whatIs 91 = .ok (.iload 4, 2) := by decide +kernel
theorem dX7_whatIs_93 : decode cX7_whatIs 93 = .ok (.aload_n 0, 1) := by decide +kernel
theorem dX7_whatIs_94 : decode cX7_whatIs 94 = .ok (.getfield 10, 3) := by decide +kernel
theorem dX7_whatIs_97 : decode cX7_whatIs 97 = .ok (.getfield 148, 3) := by decide +kernel
theorem dX7_whatIs_100 : decode cX7_whatIs 100 = .ok (.invokevirtual 154, 3) := by decide +kernel
theorem dX7_whatIs_103 : decode cX7_whatIs 103 = .ok (.aload_n 0, 1) := by decide +kernel
theorem dX7_whatIs_104 : decode cX7_whatIs 104 = .ok (.getfield 25, 3) := by decide +kernel
theorem dX7_whatIs_107 : decode cX7_whatIs 107 = .ok (.aload_n 0, 1) := by decide +kernel
theorem dX7_whatIs_108 : decode cX7_whatIs 108 = .ok (.getfield 48, 3) := by decide +kernel
theorem dX7_whatIs_111 : decode cX7_whatIs 111 = .ok (.invokevirtual 269, 3) := by decide +kernel
theorem dX7_whatIs_114 : decode cX7_whatIs 114 = .ok (.ifCond .eq 10, 3) := by decide +kernel
theorem dX7_whatIs_117 : decode cX7_whatIs 117 = .ok (.iload_n 3, 1) := by decide +kernel
theorem dX7_whatIs_118 : decode cX7_whatIs 118 = .ok (.iconst 1, 1) := by decide +kernel
theorem dX7_whatIs_119 : decode cX7_whatIs 119 = .ok (.iload 4, 2) := by decide +kernel
theorem dX7_whatIs_121 : decode cX7_whatIs 121 = .ok (.ishl, 1) := by decide +kernel
theorem dX7_whatIs_122 : decode cX7_whatIs 122 = .ok (.ior, 1) := by decide +kernel
theorem dX7_whatIs_123 : decode cX7_whatIs 123 = .ok (.istore_n 3, 1) := by decide +kernel
theorem dX7_whatIs_124 : decode cX7_whatIs 124 = .ok (.iinc 4 1, 3) := by decide +kernel
theorem dX7_whatIs_127 : decode cX7_whatIs 127 = .ok (.goto (-83), 3) := by decide +kernel
theorem dX7_whatIs_130 : decode cX7_whatIs 130 = .ok (.iload_n 3, 1) := by decide +kernel
theorem dX7_whatIs_131 : decode cX7_whatIs 131 = .ok (.ireturn, 1) := by decide +kernel
theorem dX7_row_0 : decode cX7_row 0 = .ok (.iload_n 1, 1) := by decide +kernel
theorem dX7_row_1 : decode cX7_row 1 = .ok (.ifCond .ge 10, 3) := by decide +kernel
theorem dX7_row_4 : decode cX7_row 4 = .ok (.aload_n 0, 1) := by decide +kernel
theorem dX7_row_5 : decode cX7_row 5 = .ok (.bipush (-4), 2) := by decide +kernel
theorem dX7_row_7 : decode cX7_row 7 = .ok (.invokevirtual 67, 3) := by decide +kernel
theorem dX7_row_10 : decode cX7_row 10 = .ok (.ireturn, 1) := by decide +kernel
theorem dX7_row_11 : decode cX7_row 11 = .ok (.iload_n 1, 1) := by decide +kernel
theorem dX7_row_12 : decode cX7_row 12 = .ok (.bipush 99, 2) := by decide +kernel
theorem dX7_row_14 : decode cX7_row 14 = .ok (.if_icmp .gt 13, 3) := by decide +kernel
theorem dX7_row_17 : decode cX7_row 17 = .ok (.aload_n 0, 1) := by decide +kernel
theorem dX7_row_18 : decode cX7_row 18 = .ok (.getfield 48, 3) := by decide +kernel
theorem dX7_row_21 : decode cX7_row 21 = .ok (.invokevirtual 74, 3) := by decide +kernel
theorem dX7_row_24 : decode cX7_row 24 = .ok (.ifCond .eq 10, 3) := by decide +kernel
theorem dX7_row_27 : decode cX7_row 27 = .ok (.aload_n 0, 1) := by decide +kernel
theorem dX7_row_28 : decode cX7_row 28 = .ok (.bipush (-6), 2) := by decide +kernel
theorem dX7_row_30 : decode cX7_row 30 = .ok (.invokevirtual 67, 3) := by decide +kernel
theorem dX7_row_33 : decode cX7_row 33 = .ok (.ireturn, 1) := by decide +kernel
theorem dX7_row_34 : decode cX7_row 34 = .ok (.aload_n 0, 1) := by decide +kernel
theorem dX7_row_35 : decode cX7_row 35 = .ok (.getfield 48, 3) := by decide +kernel
theorem dX7_row_38 : decode cX7_row 38 = .ok (.iload_n 1, 1) := by decide +kernel
theorem dX7_row_39 : decode cX7_row 39 = .ok (.invokevirtual 78, 3) := by decide +kernel
theorem dX7_row_42 : decode cX7_row 42 = .ok (.aload_n 0, 1) := by decide +kernel
theorem dX7_row_43 : decode cX7_row 43 = .ok (.getfield 48, 3) := by decide +kernel
theorem dX7_row_46 : decode cX7_row 46 = .ok (.getfield 81, 3) := by decide +kernel
theorem dX7_row_49 : decode cX7_row 49 = .ok (.ireturn, 1) := by decide +kernel
theorem dX7_judge_0 : decode cX7_judge 0 = .ok (.aload_n 0, 1) := by decide +kernel
theorem dX7_judge_1 : decode cX7_judge 1 = .ok (.getfield 10, 3) := by decide +kernel
theorem dX7_judge_4 : decode cX7_judge 4 = .ok (.iload_n 1, 1) := by decide +kernel
theorem dX7_judge_5 : decode cX7_judge 5 = .ok (.invokevirtual 109, 3) := by decide +kernel
theorem dX7_judge_8 : decode cX7_judge 8 = .ok (.ifCond .ne 9, 3) := by decide +kernel
theorem dX7_judge_11 : decode cX7_judge 11 = .ok (.aload_n 0, 1) := by decide +kernel
theorem dX7_judge_12 : decode cX7_judge 12 = .ok (.iconst (-1), 1) := by decide +kernel
theorem dX7_judge_13 : decode cX7_judge 13 = .ok (.invokevirtual 67, 3) := by decide +kernel
theorem dX7_judge_16 : decode cX7_judge 16 = .ok (.ireturn, 1) := by decide +kernel
theorem dX7_judge_17 : decode cX7_judge 17 = .ok (.aload_n 0, 1) := by decide +kernel
theorem dX7_judge_18 : decode cX7_judge 18 = .ok (.getfield 10, 3) := by decide +kernel
theorem dX7_judge_21 : decode cX7_judge 21 = .ok (.getfield 113, 3) := by decide +kernel
theorem dX7_judge_24 : decode cX7_judge 24 = .ok (.iload_n 1, 1) := by decide +kernel
theorem dX7_judge_25 : decode cX7_judge 25 = .ok (.aaload, 1) := by decide +kernel
theorem dX7_judge_26 : decode cX7_judge 26 = .ok (.getfield 117, 3) := by decide +kernel
theorem dX7_judge_29 : decode cX7_judge 29 = .ok (.astore_n 2, 1) := by decide +kernel
theorem dX7_judge_30 : decode cX7_judge 30 = .ok (.aload_n 0, 1) := by decide +kernel
theorem dX7_judge_31 : decode cX7_judge 31 = .ok (.getfield 48, 3) := by decide +kernel
theorem dX7_judge_34 : decode cX7_judge 34 = .ok (.iconst 0, 1) := by decide +kernel
theorem dX7_judge_35 : decode cX7_judge 35 = .ok (.aload_n 2, 1) := by decide +kernel
theorem dX7_judge_36 : decode cX7_judge 36 = .ok (.iconst 0, 1) := by decide +kernel
theorem dX7_judge_37 : decode cX7_judge 37 = .ok (.invokevirtual 273, 3) := by decide +kernel
theorem dX7_judge_40 : decode cX7_judge 40 = .ok (.istore_n 3, 1) := by decide +kernel
theorem dX7_judge_41 : decode cX7_judge 41 = .ok (.iload_n 3, 1) := by decide +kernel
theorem dX7_judge_42 : decode cX7_judge 42 = .ok (.aload_n 0, 1) := by decide +kernel
theorem dX7_judge_43 : decode cX7_judge 43 = .ok (.getfield 48, 3) := by decide +kernel
theorem dX7_judge_46 : decode cX7_judge 46 = .ok (.getfield 81, 3) := by decide +kernel
theorem dX7_judge_49 : decode cX7_judge 49 = .ok (.if_icmp .ne 15, 3) := by decide +kernel
theorem dX7_judge_52 : decode cX7_judge 52 = .ok (.iload_n 3, 1) := by decide +kernel
theorem dX7_judge_53 : decode cX7_judge 53 = .ok (.aload_n 2, 1) := by decide +kernel
theorem dX7_judge_54 : decode cX7_judge 54 = .ok (.getfield 81, 3) := by decide +kernel
theorem dX7_judge_57 : decode cX7_judge 57 = .ok (.if_icmp .ne 7, 3) := by decide +kernel
theorem dX7_judge_60 : decode cX7_judge 60 = .ok (.iconst 1, 1) := by decide +kernel
theorem dX7_judge_61 : decode cX7_judge 61 = .ok (.goto 4, 3) := by decide +kernel
theorem dX7_judge_64 : decode cX7_judge 64 = .ok (.iconst 0, 1) := by decide +kernel
theorem dX7_judge_65 : decode cX7_judge 65 = .ok (.istore 4, 2) := by decide +kernel
theorem dX7_judge_67 : decode cX7_judge 67 = .ok (.aload_n 0, 1) := by decide +kernel
theorem dX7_judge_68 : decode cX7_judge 68 = .ok (.getfield 48, 3) := by decide +kernel
theorem dX7_judge_71 : decode cX7_judge 71 = .ok (.invokevirtual 106, 3) := by decide +kernel
theorem dX7_judge_74 : decode cX7_judge 74 = .ok (.iload 4, 2) := by decide +kernel
theorem dX7_judge_76 : decode cX7_judge 76 = .ok (.ifCond .eq 8, 3) := by decide +kernel
theorem dX7_judge_79 : decode cX7_judge 79 = .ok (.bipush (-9), 2) := by decide +kernel
theorem dX7_judge_81 : decode cX7_judge 81 = .ok (.goto 4, 3) := by decide +kernel
theorem dX7_judge_84 : decode cX7_judge 84 = .ok (.iload_n 3, 1) := by decide +kernel
theorem dX7_judge_85 : decode cX7_judge 85 = .ok (.ireturn, 1) := by decide +kernel
theorem dX7_clear_0 : decode cX7_clear 0 = .ok (.aload_n 0, 1) := by decide +kernel
theorem dX7_clear_1 : decode cX7_clear 1 = .ok (.getfield 48, 3) := by decide +kernel
theorem dX7_clear_4 : decode cX7_clear 4 = .ok (.getfield 81, 3) := by decide +kernel
theorem dX7_clear_7 : decode cX7_clear 7 = .ok (.istore_n 1, 1) := by decide +kernel
theorem dX7_clear_8 : decode cX7_clear 8 = .ok (.aload_n 0, 1) := by decide +kernel
theorem dX7_clear_9 : decode cX7_clear 9 = .ok (.getfield 48, 3) := by decide +kernel
theorem dX7_clear_12 : decode cX7_clear 12 = .ok (.invokevirtual 106, 3) := by decide +kernel
theorem dX7_clear_15 : decode cX7_clear 15 = .ok (.iload_n 1, 1) := by decide +kernel
theorem dX7_clear_16 : decode cX7_clear 16 = .ok (.ireturn, 1) := by decide +kernel
theorem dX7_lots_0 : decode cX7_lots 0 = .ok (.iload_n 1, 1) := by decide +kernel
theorem dX7_lots_1 : decode cX7_lots 1 = .ok (.iconst 1, 1) := by decide +kernel
theorem dX7_lots_2 : decode cX7_lots 2 = .ok (.if_icmp .ge 10, 3) := by decide +kernel
theorem dX7_lots_5 : decode cX7_lots 5 = .ok (.aload_n 0, 1) := by decide +kernel
theorem dX7_lots_6 : decode cX7_lots 6 = .ok (.bipush (-4), 2) := by decide +kernel
theorem dX7_lots_8 : decode cX7_lots 8 = .ok (.invokevirtual 67, 3) := by decide +kernel
theorem dX7_lots_11 : decode cX7_lots 11 = .ok (.ireturn, 1) := by decide +kernel
theorem dX7_lots_12 : decode cX7_lots 12 = .ok (.iload_n 1, 1) := by decide +kernel
theorem dX7_lots_13 : decode cX7_lots 13 = .ok (.bipush 20, 2) := by decide +kernel
theorem dX7_lots_15 : decode cX7_lots 15 = .ok (.if_icmp .le 10, 3) := by decide +kernel
theorem dX7_lots_18 : decode cX7_lots 18 = .ok (.aload_n 0, 1) := by decide +kernel
theorem dX7_lots_19 : decode cX7_lots 19 = .ok (.bipush (-6), 2) := by decide +kernel
theorem dX7_lots_21 : decode cX7_lots 21 = .ok (.invokevirtual 67, 3) := by decide +kernel
theorem dX7_lots_24 : decode cX7_lots 24 = .ok (.ireturn, 1) := by decide +kernel
theorem dX7_lots_25 : decode cX7_lots 25 = .ok (.iload_n 3, 1) := by decide +kernel
theorem dX7_lots_26 : decode cX7_lots 26 = .ok (.ifCond .lt 8, 3) := by decide +kernel
theorem dX7_lots_29 : decode cX7_lots 29 = .ok (.iload_n 3, 1) := by decide +kernel
theorem dX7_lots_30 : decode cX7_lots 30 = .ok (.iconst 1, 1) := by decide +kernel
theorem dX7_lots_31 : decode cX7_lots 31 = .ok (.if_icmp .le 10, 3) := by decide +kernel
theorem dX7_lots_34 : decode cX7_lots 34 = .ok (.aload_n 0, 1) := by decide +kernel
theorem dX7_lots_35 : decode cX7_lots 35 = .ok (.bipush (-2), 2) := by decide +kernel
theorem dX7_lots_37 : decode cX7_lots 37 = .ok (.invokevirtual 67, 3) := by decide +kernel
theorem dX7_lots_40 : decode cX7_lots 40 = .ok (.ireturn, 1) := by decide +kernel
theorem dX7_lots_41 : decode cX7_lots 41 = .ok (.aload_n 0, 1) := by decide +kernel
theorem dX7_lots_42 : decode cX7_lots 42 = .ok (.getfield 55, 3) := by decide +kernel
theorem dX7_lots_45 : decode cX7_lots 45 = .ok (.iload_n 2, 1) := by decide +kernel
theorem dX7_lots_46 : decode cX7_lots 46 = .ok (.putfield 277, 3) := by decide +kernel
theorem dX7_lots_49 : decode cX7_lots 49 = .ok (.iconst 0, 1) := by decide +kernel
theorem dX7_lots_50 : decode cX7_lots 50 = .ok (.istore 4, 2) := by decide +kernel
theorem dX7_lots_52 : decode cX7_lots 52 = .ok (.iconst 0, 1) := by decide +kernel
theorem dX7_lots_53 : decode cX7_lots 53 = .ok (.istore 5, 2) := by decide +kernel
theorem dX7_lots_55 : decode cX7_lots 55 = .ok (.iload 5, 2) := by decide +kernel
theorem dX7_lots_57 : decode cX7_lots 57 = .ok (.iload_n 1, 1) := by decide +kernel
theorem dX7_lots_58 : decode cX7_lots 58 = .ok (.if_icmp .ge 39, 3) := by decide +kernel
theorem dX7_lots_61 : decode cX7_lots 61 = .ok (.aload_n 0, 1) := by decide +kernel
theorem dX7_lots_62 : decode cX7_lots 62 = .ok (.invokevirtual 280, 3) := by decide +kernel
theorem dX7_lots_65 : decode cX7_lots 65 = .ok (.iload 4, 2) := by decide +kernel
theorem dX7_lots_67 : decode cX7_lots 67 = .ok (.iload_n 3, 1) := by decide +kernel
theorem dX7_lots_68 : decode cX7_lots 68 = .ok (.ifCond .ne 13, 3) := by decide +kernel
theorem dX7_lots_71 : decode cX7_lots 71 = .ok (.aload_n 0, 1) := by decide +kernel
theorem dX7_lots_72 : decode cX7_lots 72 = .ok (.getfield 25, 3) := by decide +kernel
theorem dX7_lots_75 : decode cX7_lots 75 = .ok (.getfield 215, 3) := by decide +kernel
theorem dX7_lots_78 : decode cX7_lots 78 = .ok (.goto 10, 3) := by decide +kernel
theorem dX7_lots_81 : decode cX7_lots 81 = .ok (.aload_n 0, 1) := by decide +kernel
theorem dX7_lots_82 : decode cX7_lots 82 = .ok (.getfield 25, 3) := by decide +kernel
theorem dX7_lots_85 : decode cX7_lots 85 = .ok (.getfield 220, 3) := by decide +kernel
theorem dX7_lots_88 : decode cX7_lots 88 = .ok (.iadd, 1) := by decide +kernel
theorem dX7_lots_89 : decode cX7_lots 89 = .ok (.istore 4, 2) := by decide +kernel
theorem dX7_lots_91 : decode cX7_lots 91 = .ok (.iinc 5 1, 3) := by decide +kernel
theorem dX7_lots_94 : decode cX7_lots 94 = .ok (.goto (-39), 3) := by decide +kernel
theorem dX7_lots_97 : decode cX7_lots 97 = .ok (.iload 4, 2) := by decide +kernel
theorem dX7_lots_99 : decode cX7_lots 99 = .ok (.ireturn, 1) := by decide +kernel
theorem dX7_image_0 : decode cX7_image 0 = .ok (.aload_n 0, 1) := by decide +kernel
theorem dX7_image_1 : decode cX7_image 1 = .ok (.getfield 16, 3) := by decide +kernel
theorem dX7_image_4 : decode cX7_image 4 = .ok (.aload_n 0, 1) := by decide +kernel
theorem dX7_image_5 : decode cX7_image 5 = .ok (.getfield 10, 3) := by decide +kernel
theorem dX7_image_8 : decode cX7_image 8 = .ok (.invokevirtual 89, 3) := by decide +kernel
theorem dX7_image_11 : decode cX7_image 11 = .ok (.aload_n 0, 1) := by decide +kernel
theorem dX7_image_12 : decode cX7_image 12 = .ok (.iconst 1, 1) := by decide +kernel
theorem dX7_image_13 : decode cX7_image 13 = .ok (.putfield 63, 3) := by decide +kernel
theorem dX7_image_16 : decode cX7_image 16 = .ok (.aload_n 0, 1) := by decide +kernel
theorem dX7_image_17 : decode cX7_image 17 = .ok (.getfield 10, 3) := by decide +kernel
theorem dX7_image_20 : decode cX7_image 20 = .ok (.getfield 235, 3) := by decide +kernel
theorem dX7_image_23 : decode cX7_image 23 = .ok (.invokestatic 256, 3) := by decide +kernel
theorem dX7_image_26 : decode cX7_image 26 = .ok (.ireturn, 1) := by decide +kernel
theorem dX7_on_0 : decode cX7_on 0 = .ok (.aload_n 0, 1) := by decide +kernel
theorem dX7_on_1 : decode cX7_on 1 = .ok (.getfield 63, 3) := by decide +kernel
theorem dX7_on_4 : decode cX7_on 4 = .ok (.ifCond .ne 10, 3) := by decide +kernel
theorem dX7_on_7 : decode cX7_on 7 = .ok (.aload_n 0, 1) := by decide +kernel
theorem dX7_on_8 : decode cX7_on 8 = .ok (.bipush (-3), 2) := by decide +kernel
theorem dX7_on_10 : decode cX7_on 10 = .ok (.invokevirtual 67, 3) := by decide +kernel
theorem dX7_on_13 : decode cX7_on 13 = .ok (.ireturn, 1) := by decide +kernel
theorem dX7_on_14 : decode cX7_on 14 = .ok (.aload_n 0, 1) := by decide +kernel
theorem dX7_on_15 : decode cX7_on 15 = .ok (.getfield 10, 3) := by decide +kernel
theorem dX7_on_18 : decode cX7_on 18 = .ok (.aload_n 0, 1) := by decide +kernel
theorem dX7_on_19 : decode cX7_on 19 = .ok (.getfield 16, 3) := by decide +kernel
theorem dX7_on_22 : decode cX7_on 22 = .ok (.invokevirtual 89, 3) := by decide +kernel
theorem dX7_on_25 : decode cX7_on 25 = .ok (.aload_n 0, 1) := by decide +kernel
theorem dX7_on_26 : decode cX7_on 26 = .ok (.getfield 10, 3) := by decide +kernel
theorem dX7_on_29 : decode cX7_on 29 = .ok (.getfield 235, 3) := by decide +kernel
theorem dX7_on_32 : decode cX7_on 32 = .ok (.invokestatic 256, 3) := by decide +kernel
theorem dX7_on_35 : decode cX7_on 35 = .ok (.ireturn, 1) := by decide +kernel
theorem dX7_count_0 : decode cX7_count 0 = .ok (.iload_n 1, 1) := by decide +kernel
theorem dX7_count_1 : decode cX7_count 1 = .ok (.tableswitch 114 0 7 #[47, 55, 63, 71, 79, 87, 95, 103], 47) := by decide +kernel
theorem dX7_count_48 : decode cX7_count 48 = .ok (.aload_n 0, 1) := by decide +kernel
theorem dX7_count_49 : decode cX7_count 49 = .ok (.getfield 10, 3) := by decide +kernel
theorem dX7_count_52 : decode cX7_count 52 = .ok (.getfield 226, 3) := by decide +kernel
theorem dX7_count_55 : decode cX7_count 55 = .ok (.ireturn, 1) := by decide +kernel
theorem dX7_count_56 : decode cX7_count 56 = .ok (.aload_n 0, 1) := by decide +kernel
theorem dX7_count_57 : decode cX7_count 57 = .ok (.getfield 10, 3) := by decide +kernel
theorem dX7_count_60 : decode cX7_count 60 = .ok (.getfield 235, 3) := by decide +kernel
theorem dX7_count_63 : decode cX7_count 63 = .ok (.ireturn, 1) := by decide +kernel
theorem dX7_count_64 : decode cX7_count 64 = .ok (.aload_n 0, 1) := by decide +kernel
theorem dX7_count_65 : decode cX7_count 65 = .ok (.getfield 10, 3) := by decide +kernel
theorem dX7_count_68 : decode cX7_count 68 = .ok (.invokevirtual 162, 3) := by decide +kernel
theorem dX7_count_71 : decode cX7_count 71 = .ok (.ireturn, 1) := by decide +kernel
theorem dX7_count_72 : decode cX7_count 72 = .ok (.aload_n 0, 1) := by decide +kernel
theorem dX7_count_73 : decode cX7_count 73 = .ok (.getfield 10, 3) := by decide +kernel
theorem dX7_count_76 : decode cX7_count 76 = .ok (.invokevirtual 283, 3) := by decide +kernel
theorem dX7_count_79 : decode cX7_count 79 = .ok (.ireturn, 1) := by decide +kernel
theorem dX7_count_80 : decode cX7_count 80 = .ok (.aload_n 0, 1) := by decide +kernel
theorem dX7_count_81 : decode cX7_count 81 = .ok (.getfield 10, 3) := by decide +kernel
theorem dX7_count_84 : decode cX7_count 84 = .ok (.invokevirtual 285, 3) := by decide +kernel
theorem dX7_count_87 : decode cX7_count 87 = .ok (.ireturn, 1) := by decide +kernel
theorem dX7_count_88 : decode cX7_count 88 = .ok (.aload_n 0, 1) := by decide +kernel
theorem dX7_count_89 : decode cX7_count 89 = .ok (.getfield 10, 3) := by decide +kernel
theorem dX7_count_92 : decode cX7_count 92 = .ok (.getfield 148, 3) := by decide +kernel
theorem dX7_count_95 : decode cX7_count 95 = .ok (.ireturn, 1) := by decide +kernel
theorem dX7_count_96 : decode cX7_count 96 = .ok (.aload_n 0, 1) := by decide +kernel
theorem dX7_count_97 : decode cX7_count 97 = .ok (.getfield 48, 3) := by decide +kernel
theorem dX7_count_100 : decode cX7_count 100 = .ok (.getfield 81, 3) := by decide +kernel
theorem dX7_count_103 : decode cX7_count 103 = .ok (.ireturn, 1) := by decide +kernel
theorem dX7_count_104 : decode cX7_count 104 = .ok (.aload_n 0, 1) := by decide +kernel
theorem dX7_count_105 : decode cX7_count 105 = .ok (.getfield 39, 3) := by decide +kernel
theorem dX7_count_108 : decode cX7_count 108 = .ok (.getfield 71, 3) := by decide +kernel
theorem dX7_count_111 : decode cX7_count 111 = .ok (.getfield 81, 3) := by decide +kernel
theorem dX7_count_114 : decode cX7_count 114 = .ok (.ireturn, 1) := by decide +kernel
theorem dX7_count_115 : decode cX7_count 115 = .ok (.iload_n 1, 1) := by decide +kernel
theorem dX7_count_116 : decode cX7_count 116 = .ok (.bipush 11, 2) := by decide +kernel
theorem dX7_count_118 : decode cX7_count 118 = .ok (.if_icmp .lt 21, 3) := by decide +kernel
theorem dX7_count_121 : decode cX7_count 121 = .ok (.iload_n 1, 1) := by decide +kernel
theorem dX7_count_122 : decode cX7_count 122 = .ok (.bipush 16, 2) := by decide +kernel
theorem dX7_count_124 : decode cX7_count 124 = .ok (.if_icmp .gt 15, 3) := by decide +kernel
theorem dX7_count_127 : decode cX7_count 127 = .ok (.aload_n 0, 1) := by decide +kernel
theorem dX7_count_128 : decode cX7_count 128 = .ok (.getfield 59, 3) := by decide +kernel
theorem dX7_count_131 : decode cX7_count 131 = .ok (.iload_n 1, 1) := by decide +kernel
theorem dX7_count_132 : decode cX7_count 132 = .ok (.bipush 10, 2) := by decide +kernel
theorem dX7_count_134 : decode cX7_count 134 = .ok (.isub, 1) := by decide +kernel
theorem dX7_count_135 : decode cX7_count 135 = .ok (.iaload, 1) := by decide +kernel
theorem dX7_count_136 : decode cX7_count 136 = .ok (.goto 5, 3) := by decide +kernel
theorem dX7_count_139 : decode cX7_count 139 = .ok (.bipush (-9), 2) := by decide +kernel
theorem dX7_count_141 : decode cX7_count 141 = .ok (.ireturn, 1) := by decide +kernel
theorem dX7_refuse_0 : decode cX7_refuse 0 = .ok (.iload_n 1, 1) := by decide +kernel
theorem dX7_refuse_1 : decode cX7_refuse 1 = .ok (.ifCond .ge 24, 3) := by decide +kernel
theorem dX7_refuse_4 : decode cX7_refuse 4 = .ok (.iload_n 1, 1) := by decide +kernel
theorem dX7_refuse_5 : decode cX7_refuse 5 = .ok (.aload_n 0, 1) := by decide +kernel
theorem dX7_refuse_6 : decode cX7_refuse 6 = .ok (.getfield 59, 3) := by decide +kernel
theorem dX7_refuse_9 : decode cX7_refuse 9 = .ok (.arraylength, 1) := by decide +kernel
theorem dX7_refuse_10 : decode cX7_refuse 10 = .ok (.ineg, 1) := by decide +kernel
theorem dX7_refuse_11 : decode cX7_refuse 11 = .ok (.if_icmp .le 14, 3) := by decide +kernel
theorem dX7_refuse_14 : decode cX7_refuse 14 = .ok (.aload_n 0, 1) := by decide +kernel
theorem dX7_refuse_15 : decode cX7_refuse 15 = .ok (.getfield 59, 3) := by decide +kernel
theorem dX7_refuse_18 : decode cX7_refuse 18 = .ok (.iload_n 1, 1) := by decide +kernel
theorem dX7_refuse_19 : decode cX7_refuse 19 = .ok (.ineg, 1) := by decide +kernel
theorem dX7_refuse_20 : decode cX7_refuse 20 = .ok (.dup2, 1) := by decide +kernel
theorem dX7_refuse_21 : decode cX7_refuse 21 = .ok (.iaload, 1) := by decide +kernel
theorem dX7_refuse_22 : decode cX7_refuse 22 = .ok (.iconst 1, 1) := by decide +kernel
theorem dX7_refuse_23 : decode cX7_refuse 23 = .ok (.iadd, 1) := by decide +kernel
theorem dX7_refuse_24 : decode cX7_refuse 24 = .ok (.iastore, 1) := by decide +kernel
theorem dX7_refuse_25 : decode cX7_refuse 25 = .ok (.iload_n 1, 1) := by decide +kernel
theorem dX7_refuse_26 : decode cX7_refuse 26 = .ok (.ireturn, 1) := by decide +kernel
theorem dX7_refuseLong_0 : decode cX7_refuseLong 0 = .ok (.ldc2_w 287, 3) := by decide +kernel
theorem dX7_refuseLong_3 : decode cX7_refuseLong 3 = .ok (.aload_n 0, 1) := by decide +kernel
theorem dX7_refuseLong_4 : decode cX7_refuseLong 4 = .ok (.iload_n 1, 1) := by decide +kernel
theorem dX7_refuseLong_5 : decode cX7_refuseLong 5 = .ok (.invokevirtual 67, 3) := by decide +kernel
theorem dX7_refuseLong_8 : decode cX7_refuseLong 8 = .ok (.i2l, 1) := by decide +kernel
theorem dX7_refuseLong_9 : decode cX7_refuseLong 9 = .ok (.lsub, 1) := by decide +kernel
theorem dX7_refuseLong_10 : decode cX7_refuseLong 10 = .ok (.lreturn, 1) := by decide +kernel
theorem dX7_orLacking_0 : decode cX7_orLacking 0 = .ok (.iload_n 0, 1) := by decide +kernel
theorem dX7_orLacking_1 : decode cX7_orLacking 1 = .ok (.iconst (-1), 1) := by decide +kernel
theorem dX7_orLacking_2 : decode cX7_orLacking 2 = .ok (.if_icmp .ne 8, 3) := by decide +kernel
theorem dX7_orLacking_5 : decode cX7_orLacking 5 = .ok (.bipush (-9), 2) := by decide +kernel
theorem dX7_orLacking_7 : decode cX7_orLacking 7 = .ok (.goto 4, 3) := by decide +kernel
theorem dX7_orLacking_10 : decode cX7_orLacking 10 = .ok (.iload_n 0, 1) := by decide +kernel
theorem dX7_orLacking_11 : decode cX7_orLacking 11 = .ok (.ireturn, 1) := by decide +kernel
theorem dX7_isHead_0 : decode cX7_isHead 0 = .ok (.iload_n 0, 1) := by decide +kernel
theorem dX7_isHead_1 : decode cX7_isHead 1 = .ok (.ifCond .lt 12, 3) := by decide +kernel
theorem dX7_isHead_4 : decode cX7_isHead 4 = .ok (.iload_n 0, 1) := by decide +kernel
theorem dX7_isHead_5 : decode cX7_isHead 5 = .ok (.iconst 4, 1) := by decide +kernel
theorem dX7_isHead_6 : decode cX7_isHead 6 = .ok (.if_icmp .ge 7, 3) := by decide +kernel
theorem dX7_isHead_9 : decode cX7_isHead 9 = .ok (.iconst 1, 1) := by decide +kernel
theorem dX7_isHead_10 : decode cX7_isHead 10 = .ok (.goto 4, 3) := by decide +kernel
theorem dX7_isHead_13 : decode cX7_isHead 13 = .ok (.iconst 0, 1) := by decide +kernel
theorem dX7_isHead_14 : decode cX7_isHead 14 = .ok (.ireturn, 1) := by decide +kernel
theorem dX7_greatestDivisor_0 : decode cX7_greatestDivisor 0 = .ok (.iload_n 0, 1) := by decide +kernel
theorem dX7_greatestDivisor_1 : decode cX7_greatestDivisor 1 = .ok (.istore_n 2, 1) := by decide +kernel
theorem dX7_greatestDivisor_2 : decode cX7_greatestDivisor 2 = .ok (.iload_n 1, 1) := by decide +kernel
theorem dX7_greatestDivisor_3 : decode cX7_greatestDivisor 3 = .ok (.istore_n 3, 1) := by decide +kernel
theorem dX7_greatestDivisor_4 : decode cX7_greatestDivisor 4 = .ok (.iconst 0, 1) := by decide +kernel
theorem dX7_greatestDivisor_5 : decode cX7_greatestDivisor 5 = .ok (.istore 4, 2) := by decide +kernel
theorem dX7_greatestDivisor_7 : decode cX7_greatestDivisor 7 = .ok (.iload 4, 2) := by decide +kernel
theorem dX7_greatestDivisor_9 : decode cX7_greatestDivisor 9 = .ok (.bipush 64, 2) := by decide +kernel
theorem dX7_greatestDivisor_11 : decode cX7_greatestDivisor 11 = .ok (.if_icmp .ge 23, 3) := by decide +kernel
theorem dX7_greatestDivisor_14 : decode cX7_greatestDivisor 14 = .ok (.iload_n 3, 1) := by decide +kernel
theorem dX7_greatestDivisor_15 : decode cX7_greatestDivisor 15 = .ok (.ifCond .eq 19, 3) := by decide +kernel
theorem dX7_greatestDivisor_18 : decode cX7_greatestDivisor 18 = .ok (.iload_n 2, 1) := by decide +kernel
theorem dX7_greatestDivisor_19 : decode cX7_greatestDivisor 19 = .ok (.iload_n 3, 1) := by decide +kernel
theorem dX7_greatestDivisor_20 : decode cX7_greatestDivisor 20 = .ok (.irem, 1) := by decide +kernel
theorem dX7_greatestDivisor_21 : decode cX7_greatestDivisor 21 = .ok (.istore 5, 2) := by decide +kernel
theorem dX7_greatestDivisor_23 : decode cX7_greatestDivisor 23 = .ok (.iload_n 3, 1) := by decide +kernel
theorem dX7_greatestDivisor_24 : decode cX7_greatestDivisor 24 = .ok (.istore_n 2, 1) := by decide +kernel
theorem dX7_greatestDivisor_25 : decode cX7_greatestDivisor 25 = .ok (.iload 5, 2) := by decide +kernel
theorem dX7_greatestDivisor_27 : decode cX7_greatestDivisor 27 = .ok (.istore_n 3, 1) := by decide +kernel
theorem dX7_greatestDivisor_28 : decode cX7_greatestDivisor 28 = .ok (.iinc 4 1, 3) := by decide +kernel
theorem dX7_greatestDivisor_31 : decode cX7_greatestDivisor 31 = .ok (.goto (-24), 3) := by decide +kernel
theorem dX7_greatestDivisor_34 : decode cX7_greatestDivisor 34 = .ok (.iload_n 2, 1) := by decide +kernel
theorem dX7_greatestDivisor_35 : decode cX7_greatestDivisor 35 = .ok (.ireturn, 1) := by decide +kernel
theorem dX7_drawLot_0 : decode cX7_drawLot 0 = .ok (.aload_n 0, 1) := by decide +kernel
theorem dX7_drawLot_1 : decode cX7_drawLot 1 = .ok (.getfield 19, 3) := by decide +kernel
theorem dX7_drawLot_4 : decode cX7_drawLot 4 = .ok (.aload_n 0, 1) := by decide +kernel
theorem dX7_drawLot_5 : decode cX7_drawLot 5 = .ok (.getfield 10, 3) := by decide +kernel
theorem dX7_drawLot_8 : decode cX7_drawLot 8 = .ok (.invokevirtual 89, 3) := by decide +kernel
theorem dX7_drawLot_11 : decode cX7_drawLot 11 = .ok (.iconst 0, 1) := by decide +kernel
theorem dX7_drawLot_12 : decode cX7_drawLot 12 = .ok (.istore_n 1, 1) := by decide +kernel
theorem dX7_drawLot_13 : decode cX7_drawLot 13 = .ok (.iload_n 1, 1) := by decide +kernel
theorem dX7_drawLot_14 : decode cX7_drawLot 14 = .ok (.bipush 6, 2) := by decide +kernel
theorem dX7_drawLot_16 : decode cX7_drawLot 16 = .ok (.if_icmp .ge 107, 3) := by decide +kernel
theorem dX7_drawLot_19 : decode cX7_drawLot 19 = .ok (.aload_n 0, 1) := by decide +kernel
theorem dX7_drawLot_20 : decode cX7_drawLot 20 = .ok (.getfield 19, 3) := by decide +kernel
theorem dX7_drawLot_23 : decode cX7_drawLot 23 = .ok (.invokevirtual 122, 3) := by decide +kernel
theorem dX7_drawLot_26 : decode cX7_drawLot 26 = .ok (.ifCond .eq 97, 3) := by decide +kernel
theorem dX7_drawLot_29 : decode cX7_drawLot 29 = .ok (.aload_n 0, 1) := by decide +kernel
theorem dX7_drawLot_30 : decode cX7_drawLot 30 = .ok (.getfield 19, 3) := by decide +kernel
theorem dX7_drawLot_33 : decode cX7_drawLot 33 = .ok (.getfield 235, 3) := by decide +kernel
theorem dX7_drawLot_36 : decode cX7_drawLot 36 = .ok (.ifCond .ne 14, 3) := by decide +kernel
theorem dX7_drawLot_39 : decode cX7_drawLot 39 = .ok (.aload_n 0, 1) := by decide +kernel
theorem dX7_drawLot_40 : decode cX7_drawLot 40 = .ok (.getfield 19, 3) := by decide +kernel
theorem dX7_drawLot_43 : decode cX7_drawLot 43 = .ok (.invokevirtual 289, 3) := by decide +kernel
theorem dX7_drawLot_46 : decode cX7_drawLot 46 = .ok (.pop, 1) := by decide +kernel
theorem dX7_drawLot_47 : decode cX7_drawLot 47 = .ok (.goto 70, 3) := by decide +kernel
theorem dX7_drawLot_50 : decode cX7_drawLot 50 = .ok (.aload_n 0, 1) := by decide +kernel
theorem dX7_drawLot_51 : decode cX7_drawLot 51 = .ok (.getfield 19, 3) := by decide +kernel
theorem dX7_drawLot_54 : decode cX7_drawLot 54 = .ok (.aload_n 0, 1) := by decide +kernel
theorem dX7_drawLot_55 : decode cX7_drawLot 55 = .ok (.getfield 55, 3) := by decide +kernel
theorem dX7_drawLot_58 : decode cX7_drawLot 58 = .ok (.aload_n 0, 1) := by decide +kernel
theorem dX7_drawLot_59 : decode cX7_drawLot 59 = .ok (.getfield 19, 3) := by decide +kernel
theorem dX7_drawLot_62 : decode cX7_drawLot 62 = .ok (.getfield 235, 3) := by decide +kernel
theorem dX7_drawLot_65 : decode cX7_drawLot 65 = .ok (.invokestatic 256, 3) := by decide +kernel
theorem dX7_drawLot_68 : decode cX7_drawLot 68 = .ok (.invokevirtual 292, 3) := by decide +kernel
theorem dX7_drawLot_71 : decode cX7_drawLot 71 = .ok (.invokevirtual 295, 3) := by decide +kernel
theorem dX7_drawLot_74 : decode cX7_drawLot 74 = .ok (.istore_n 2, 1) := by decide +kernel
theorem dX7_drawLot_75 : decode cX7_drawLot 75 = .ok (.aload_n 0, 1) := by decide +kernel
theorem dX7_drawLot_76 : decode cX7_drawLot 76 = .ok (.getfield 55, 3) := by decide +kernel
theorem dX7_drawLot_79 : decode cX7_drawLot 79 = .ok (.aload_n 0, 1) := by decide +kernel
theorem dX7_drawLot_80 : decode cX7_drawLot 80 = .ok (.getfield 19, 3) := by decide +kernel
theorem dX7_drawLot_83 : decode cX7_drawLot 83 = .ok (.getfield 113, 3) := by decide +kernel
theorem dX7_drawLot_86 : decode cX7_drawLot 86 = .ok (.iload_n 2, 1) := by decide +kernel
theorem dX7_drawLot_87 : decode cX7_drawLot 87 = .ok (.aaload, 1) := by decide +kernel
theorem dX7_drawLot_88 : decode cX7_drawLot 88 = .ok (.getfield 117, 3) := by decide +kernel
theorem dX7_drawLot_91 : decode cX7_drawLot 91 = .ok (.getfield 81, 3) := by decide +kernel
theorem dX7_drawLot_94 : decode cX7_drawLot 94 = .ok (.invokevirtual 292, 3) := by decide +kernel
theorem dX7_drawLot_97 : decode cX7_drawLot 97 = .ok (.istore_n 3, 1) := by decide +kernel
theorem dX7_drawLot_98 : decode cX7_drawLot 98 = .ok (.aload_n 0, 1) := by decide +kernel
theorem dX7_drawLot_99 : decode cX7_drawLot 99 = .ok (.getfield 19, 3) := by decide +kernel
theorem dX7_drawLot_102 : decode cX7_drawLot 102 = .ok (.iload_n 2, 1) := by decide +kernel
theorem dX7_drawLot_103 : decode cX7_drawLot 103 = .ok (.iload_n 3, 1) := by decide +kernel
theorem dX7_drawLot_104 : decode cX7_drawLot 104 = .ok (.aload_n 0, 1) := by decide +kernel
theorem dX7_drawLot_105 : decode cX7_drawLot 105 = .ok (.getfield 55, 3) := by decide +kernel
theorem dX7_drawLot_108 : decode cX7_drawLot 108 = .ok (.bipush 8, 2) := by decide +kernel
theorem dX7_drawLot_110 : decode cX7_drawLot 110 = .ok (.invokevirtual 292, 3) := by decide +kernel
theorem dX7_drawLot_113 : decode cX7_drawLot 113 = .ok (.invokevirtual 125, 3) := by decide +kernel
theorem dX7_drawLot_116 : decode cX7_drawLot 116 = .ok (.pop, 1) := by decide +kernel
theorem dX7_drawLot_117 : decode cX7_drawLot 117 = .ok (.iinc 1 1, 3) := by decide +kernel
theorem dX7_drawLot_120 : decode cX7_drawLot 120 = .ok (.goto (-107), 3) := by decide +kernel
theorem dX7_drawLot_123 : decode cX7_drawLot 123 = .ok (.aload_n 0, 1) := by decide +kernel
theorem dX7_drawLot_124 : decode cX7_drawLot 124 = .ok (.getfield 25, 3) := by decide +kernel
theorem dX7_drawLot_127 : decode cX7_drawLot 127 = .ok (.aload_n 0, 1) := by decide +kernel
theorem dX7_drawLot_128 : decode cX7_drawLot 128 = .ok (.getfield 19, 3) := by decide +kernel
theorem dX7_drawLot_131 : decode cX7_drawLot 131 = .ok (.invokevirtual 151, 3) := by decide +kernel
theorem dX7_drawLot_134 : decode cX7_drawLot 134 = .ok (.aload_n 0, 1) := by decide +kernel
theorem dX7_drawLot_135 : decode cX7_drawLot 135 = .ok (.getfield 25, 3) := by decide +kernel
theorem dX7_drawLot_138 : decode cX7_drawLot 138 = .ok (.aload_n 0, 1) := by decide +kernel
theorem dX7_drawLot_139 : decode cX7_drawLot 139 = .ok (.getfield 19, 3) := by decide +kernel
theorem dX7_drawLot_142 : decode cX7_drawLot 142 = .ok (.getfield 142, 3) := by decide +kernel
theorem dX7_drawLot_145 : decode cX7_drawLot 145 = .ok (.aload_n 0, 1) := by decide +kernel
theorem dX7_drawLot_146 : decode cX7_drawLot 146 = .ok (.getfield 19, 3) := by decide +kernel
theorem dX7_drawLot_149 : decode cX7_drawLot 149 = .ok (.getfield 145, 3) := by decide +kernel
theorem dX7_drawLot_152 : decode cX7_drawLot 152 = .ok (.aload_n 0, 1) := by decide +kernel
theorem dX7_drawLot_153 : decode cX7_drawLot 153 = .ok (.getfield 19, 3) := by decide +kernel
theorem dX7_drawLot_156 : decode cX7_drawLot 156 = .ok (.getfield 148, 3) := by decide +kernel
theorem dX7_drawLot_159 : decode cX7_drawLot 159 = .ok (.invokevirtual 154, 3) := by decide +kernel
theorem dX7_drawLot_162 : decode cX7_drawLot 162 = .ok (.return_, 1) := by decide +kernel
theorem dX8_init_0 : decode cX8_init 0 = .ok (.aload_n 0, 1) := by decide +kernel
theorem dX8_init_1 : decode cX8_init 1 = .ok (.invokespecial 1, 3) := by decide +kernel
theorem dX8_init_4 : decode cX8_init 4 = .ok (.aload_n 0, 1) := by decide +kernel
theorem dX8_init_5 : decode cX8_init 5 = .ok (.sipush 520, 3) := by decide +kernel
theorem dX8_init_8 : decode cX8_init 8 = .ok (.newarray .int, 2) := by decide +kernel
theorem dX8_init_10 : decode cX8_init 10 = .ok (.putfield 9, 3) := by decide +kernel
theorem dX8_init_13 : decode cX8_init 13 = .ok (.aload_n 0, 1) := by decide +kernel
theorem dX8_init_14 : decode cX8_init 14 = .ok (.sipush 520, 3) := by decide +kernel
theorem dX8_init_17 : decode cX8_init 17 = .ok (.newarray .int, 2) := by decide +kernel
theorem dX8_init_19 : decode cX8_init 19 = .ok (.putfield 13, 3) := by decide +kernel
theorem dX8_init_22 : decode cX8_init 22 = .ok (.aload_n 0, 1) := by decide +kernel
theorem dX8_init_23 : decode cX8_init 23 = .ok (.sipush 520, 3) := by decide +kernel
theorem dX8_init_26 : decode cX8_init 26 = .ok (.newarray .int, 2) := by decide +kernel
theorem dX8_init_28 : decode cX8_init 28 = .ok (.putfield 16, 3) := by decide +kernel
theorem dX8_init_31 : decode cX8_init 31 = .ok (.aload_n 0, 1) := by decide +kernel
theorem dX8_init_32 : decode cX8_init 32 = .ok (.sipush 520, 3) := by decide +kernel
theorem dX8_init_35 : decode cX8_init 35 = .ok (.newarray .int, 2) := by decide +kernel
theorem dX8_init_37 : decode cX8_init 37 = .ok (.putfield 19, 3) := by decide +kernel
theorem dX8_init_40 : decode cX8_init 40 = .ok (.aload_n 0, 1) := by decide +kernel
theorem dX8_init_41 : decode cX8_init 41 = .ok (.bipush 8, 2) := by decide +kernel
theorem dX8_init_43 : decode cX8_init 43 = .ok (.newarray .int, 2) := by decide +kernel
theorem dX8_init_45 : decode cX8_init 45 = .ok (.putfield 22, 3) := by decide +kernel
theorem dX8_init_48 : decode cX8_init 48 = .ok (.aload_n 0, 1) := by decide +kernel
theorem dX8_init_49 : decode cX8_init 49 = .ok (.bipush 96, 2) := by decide +kernel
theorem dX8_init_51 : decode cX8_init 51 = .ok (.newarray .int, 2) := by decide +kernel
theorem dX8_init_53 : decode cX8_init 53 = .ok (.putfield 25, 3) := by decide +kernel
theorem dX8_init_56 : decode cX8_init 56 = .ok (.aload_n 0, 1) := by decide +kernel
theorem dX8_init_57 : decode cX8_init 57 = .ok (.bipush 12, 2) := by decide +kernel
theorem dX8_init_59 : decode cX8_init 59 = .ok (.newarray .int, 2) := by decide +kernel
theorem dX8_init_61 : decode cX8_init 61 = .ok (.putfield 28, 3) := by decide +kernel
theorem dX8_init_64 : decode cX8_init 64 = .ok (.aload_n 0, 1) := by decide +kernel
theorem dX8_init_65 : decode cX8_init 65 = .ok (.bipush 120, 2) := by decide +kernel
theorem dX8_init_67 : decode cX8_init 67 = .ok (.newarray .int, 2) := by decide +kernel
theorem dX8_init_69 : decode cX8_init 69 = .ok (.putfield 31, 3) := by decide +kernel
theorem dX8_init_72 : decode cX8_init 72 = .ok (.aload_n 0, 1) := by decide +kernel
theorem dX8_init_73 : decode cX8_init 73 = .ok (.bipush 10, 2) := by decide +kernel
theorem dX8_init_75 : decode cX8_init 75 = .ok (.newarray .int, 2) := by decide +kernel
theorem dX8_init_77 : decode cX8_init 77 = .ok (.putfield 34, 3) := by decide +kernel
theorem dX8_init_80 : decode cX8_init 80 = .ok (.aload_n 0, 1) := by decide +kernel
theorem dX8_init_81 : decode cX8_init 81 = .ok (.bipush 24, 2) := by decide +kernel
theorem dX8_init_83 : decode cX8_init 83 = .ok (.newarray .int, 2) := by decide +kernel
theorem dX8_init_85 : decode cX8_init 85 = .ok (.putfield 37, 3) := by decide +kernel
theorem dX8_init_88 : decode cX8_init 88 = .ok (.aload_n 0, 1) := by decide +kernel
theorem dX8_init_89 : decode cX8_init 89 = .ok (.bipush 10, 2) := by decide +kernel
theorem dX8_init_91 : decode cX8_init 91 = .ok (.newarray .int, 2) := by decide +kernel
theorem dX8_init_93 : decode cX8_init 93 = .ok (.putfield 40, 3) := by decide +kernel
theorem dX8_init_96 : decode cX8_init 96 = .ok (.aload_n 0, 1) := by decide +kernel
theorem dX8_init_97 : decode cX8_init 97 = .ok (.bipush 10, 2) := by decide +kernel
theorem dX8_init_99 : decode cX8_init 99 = .ok (.newarray .int, 2) := by decide +kernel
theorem dX8_init_101 : decode cX8_init 101 = .ok (.putfield 43, 3) := by decide +kernel
theorem dX8_init_104 : decode cX8_init 104 = .ok (.aload_n 0, 1) := by decide +kernel
theorem dX8_init_105 : decode cX8_init 105 = .ok (.bipush 10, 2) := by decide +kernel
theorem dX8_init_107 : decode cX8_init 107 = .ok (.newarray .int, 2) := by decide +kernel
theorem dX8_init_109 : decode cX8_init 109 = .ok (.putfield 46, 3) := by decide +kernel
theorem dX8_init_112 : decode cX8_init 112 = .ok (.iconst 0, 1) := by decide +kernel
theorem dX8_init_113 : decode cX8_init 113 = .ok (.istore_n 1, 1) := by decide +kernel
theorem dX8_init_114 : decode cX8_init 114 = .ok (.iload_n 1, 1) := by decide +kernel
theorem dX8_init_115 : decode cX8_init 115 = .ok (.iconst 4, 1) := by decide +kernel
theorem dX8_init_116 : decode cX8_init 116 = .ok (.if_icmp .ge 21, 3) := by decide +kernel
theorem dX8_init_119 : decode cX8_init 119 = .ok (.aload_n 0, 1) := by decide +kernel
theorem dX8_init_120 : decode cX8_init 120 = .ok (.getfield 9, 3) := by decide +kernel
theorem dX8_init_123 : decode cX8_init 123 = .ok (.sipush 501, 3) := by decide +kernel
theorem dX8_init_126 : decode cX8_init 126 = .ok (.iload_n 1, 1) := by decide +kernel
theorem dX8_init_127 : decode cX8_init 127 = .ok (.iadd, 1) := by decide +kernel
theorem dX8_init_128 : decode cX8_init 128 = .ok (.bipush (-9), 2) := by decide +kernel
theorem dX8_init_130 : decode cX8_init 130 = .ok (.iastore, 1) := by decide +kernel
theorem dX8_init_131 : decode cX8_init 131 = .ok (.iinc 1 1, 3) := by decide +kernel
theorem dX8_init_134 : decode cX8_init 134 = .ok (.goto (-20), 3) := by decide +kernel
theorem dX8_init_137 : decode cX8_init 137 = .ok (.aload_n 0, 1) := by decide +kernel
theorem dX8_init_138 : decode cX8_init 138 = .ok (.getfield 9, 3) := by decide +kernel
theorem dX8_init_141 : decode cX8_init 141 = .ok (.sipush 507, 3) := by decide +kernel
theorem dX8_init_144 : decode cX8_init 144 = .ok (.iconst 4, 1) := by decide +kernel
theorem dX8_init_145 : decode cX8_init 145 = .ok (.iastore, 1) := by decide +kernel
theorem dX8_init_146 : decode cX8_init 146 = .ok (.return_, 1) := by decide +kernel
theorem dX8_no_0 : decode cX8_no 0 = .ok (.aload_n 0, 1) := by decide +kernel
theorem dX8_no_1 : decode cX8_no 1 = .ok (.getfield 22, 3) := by decide +kernel
theorem dX8_no_4 : decode cX8_no 4 = .ok (.iload_n 1, 1) := by decide +kernel
theorem dX8_no_5 : decode cX8_no 5 = .ok (.ineg, 1) := by decide +kernel
theorem dX8_no_6 : decode cX8_no 6 = .ok (.dup2, 1) := by decide +kernel
theorem dX8_no_7 : decode cX8_no 7 = .ok (.iaload, 1) := by decide +kernel
theorem dX8_no_8 : decode cX8_no 8 = .ok (.iconst 1, 1) := by decide +kernel
theorem dX8_no_9 : decode cX8_no 9 = .ok (.iadd, 1) := by decide +kernel
theorem dX8_no_10 : decode cX8_no 10 = .ok (.iastore, 1) := by decide +kernel
theorem dX8_no_11 : decode cX8_no 11 = .ok (.iload_n 1, 1) := by decide +kernel
theorem dX8_no_12 : decode cX8_no 12 = .ok (.ireturn, 1) := by decide +kernel
theorem dX8_noLong_0 : decode cX8_noLong 0 = .ok (.ldc2_w 49, 3) := by decide +kernel
theorem dX8_noLong_3 : decode cX8_noLong 3 = .ok (.aload_n 0, 1) := by decide +kernel
theorem dX8_noLong_4 : decode cX8_noLong 4 = .ok (.iload_n 1, 1) := by decide +kernel
theorem dX8_noLong_5 : decode cX8_noLong 5 = .ok (.invokevirtual 51, 3) := by decide +kernel
theorem dX8_noLong_8 : decode cX8_noLong 8 = .ok (.i2l, 1) := by decide +kernel
theorem dX8_noLong_9 : decode cX8_noLong 9 = .ok (.lsub, 1) := by decide +kernel
theorem dX8_noLong_10 : decode cX8_noLong 10 = .ok (.lreturn, 1) := by decide +kernel
theorem dX8_isIn_0 : decode cX8_isIn 0 = .ok (.iload_n 0, 1) := by decide +kernel
theorem dX8_isIn_1 : decode cX8_isIn 1 = .ok (.iload_n 1, 1) := by decide +kernel
theorem dX8_isIn_2 : decode cX8_isIn 2 = .ok (.if_icmp .lt 12, 3) := by decide +kernel
theorem dX8_isIn_5 : decode cX8_isIn 5 = .ok (.iload_n 0, 1) := by decide +kernel
theorem dX8_isIn_6 : decode cX8_isIn 6 = .ok (.iload_n 2, 1) := by decide +kernel
theorem dX8_isIn_7 : decode cX8_isIn 7 = .ok (.if_icmp .gt 7, 3) := by decide +kernel
theorem dX8_isIn_10 : decode cX8_isIn 10 = .ok (.iconst 1, 1) := by decide +kernel
theorem dX8_isIn_11 : decode cX8_isIn 11 = .ok (.goto 4, 3) := by decide +kernel
theorem dX8_isIn_14 : decode cX8_isIn 14 = .ok (.iconst 0, 1) := by decide +kernel
theorem dX8_isIn_15 : decode cX8_isIn 15 = .ok (.ireturn, 1) := by decide +kernel
theorem dX8_isThere_0 : decode cX8_isThere 0 = .ok (.iload_n 1, 1) := by decide +kernel
theorem dX8_isThere_1 : decode cX8_isThere 1 = .ok (.iconst 0, 1) := by decide +kernel
theorem dX8_isThere_2 : decode cX8_isThere 2 = .ok (.bipush 9, 2) := by decide +kernel
theorem dX8_isThere_4 : decode cX8_isThere 4 = .ok (.invokestatic 55, 3) := by decide +kernel
theorem dX8_isThere_7 : decode cX8_isThere 7 = .ok (.ifCond .eq 22, 3) := by decide +kernel
theorem dX8_isThere_10 : decode cX8_isThere 10 = .ok (.aload_n 0, 1) := by decide +kernel
theorem dX8_isThere_11 : decode cX8_isThere 11 = .ok (.getfield 9, 3) := by decide +kernel
theorem dX8_isThere_14 : decode cX8_isThere 14 = .ok (.bipush 50, 2) := by decide +kernel
theorem dX8_isThere_16 : decode cX8_isThere 16 = .ok (.iload_n 1, 1) := by decide +kernel
theorem dX8_isThere_17 : decode cX8_isThere 17 = .ok (.imul, 1) := by decide +kernel
theorem dX8_isThere_18 : decode cX8_isThere 18 = .ok (.iconst 0, 1) := by decide +kernel
theorem dX8_isThere_19 : decode cX8_isThere 19 = .ok (.iadd, 1) := by decide +kernel
theorem dX8_isThere_20 : decode cX8_isThere 20 = .ok (.iaload, 1) := by decide +kernel
theorem dX8_isThere_21 : decode cX8_isThere 21 = .ok (.iconst 1, 1) := by decide +kernel
theorem dX8_isThere_22 : decode cX8_isThere 22 = .ok (.if_icmp .ne 7, 3) := by decide +kernel
theorem dX8_isThere_25 : decode cX8_isThere 25 = .ok (.iconst 1, 1) := by decide +kernel
theorem dX8_isThere_26 : decode cX8_isThere 26 = .ok (.goto 4, 3) := by decide +kernel
theorem dX8_isThere_29 : decode cX8_isThere 29 = .ok (.iconst 0, 1) := by decide +kernel
theorem dX8_isThere_30 : decode cX8_isThere 30 = .ok (.ireturn, 1) := by decide +kernel
theorem dX8_copies_0 : decode cX8_copies 0 = .ok (.iconst 0, 1) := by decide +kernel
theorem dX8_copies_1 : decode cX8_copies 1 = .ok (.istore_n 2, 1) := by decide +kernel
theorem dX8_copies_2 : decode cX8_copies 2 = .ok (.iload_n 2, 1) := by decide +kernel
theorem dX8_copies_3 : decode cX8_copies 3 = .ok (.sipush 520, 3) := by decide +kernel
theorem dX8_copies_6 : decode cX8_copies 6 = .ok (.if_icmp .ge 15, 3) := by decide +kernel
theorem dX8_copies_9 : decode cX8_copies 9 = .ok (.aload_n 1, 1) := by decide +kernel
theorem dX8_copies_10 : decode cX8_copies 10 = .ok (.iload_n 2, 1) := by decide +kernel
theorem dX8_copies_11 : decode cX8_copies 11 = .ok (.aload_n 0, 1) := by decide +kernel
theorem dX8_copies_12 : decode cX8_copies 12 = .ok (.iload_n 2, 1) := by decide +kernel
theorem dX8_copies_13 : decode cX8_copies 13 = .ok (.iaload, 1) := by decide +kernel
theorem dX8_copies_14 : decode cX8_copies 14 = .ok (.iastore, 1) := by decide +kernel
theorem dX8_copies_15 : decode cX8_copies 15 = .ok (.iinc 2 1, 3) := by decide +kernel
theorem dX8_copies_18 : decode cX8_copies 18 = .ok (.goto (-16), 3) := by decide +kernel
theorem dX8_copies_21 : decode cX8_copies 21 = .ok (.return_, 1) := by decide +kernel
theorem dX8_restores_0 : decode cX8_restores 0 = .ok (.iconst 0, 1) := by decide +kernel
theorem dX8_restores_1 : decode cX8_restores 1 = .ok (.istore_n 1, 1) := by decide +kernel
theorem dX8_restores_2 : decode cX8_restores 2 = .ok (.iload_n 1, 1) := by decide +kernel
theorem dX8_restores_3 : decode cX8_restores 3 = .ok (.bipush 10, 2) := by decide +kernel
theorem dX8_restores_5 : decode cX8_restores 5 = .ok (.if_icmp .ge 17, 3) := by decide +kernel
theorem dX8_restores_8 : decode cX8_restores 8 = .ok (.aload_n 0, 1) := by decide +kernel
theorem dX8_restores_9 : decode cX8_restores 9 = .ok (.getfield 34, 3) := by decide +kernel
theorem dX8_restores_12 : decode cX8_restores 12 = .ok (.iload_n 1, 1) := by decide +kernel
theorem dX8_restores_13 : decode cX8_restores 13 = .ok (.bipush (-9), 2) := by decide +kernel
theorem dX8_restores_15 : decode cX8_restores 15 = .ok (.iastore, 1) := by decide +kernel
theorem dX8_restores_16 : decode cX8_restores 16 = .ok (.iinc 1 1, 3) := by decide +kernel
theorem dX8_restores_19 : decode cX8_restores 19 = .ok (.goto (-17), 3) := by decide +kernel
theorem dX8_restores_22 : decode cX8_restores 22 = .ok (.iconst 0, 1) := by decide +kernel
theorem dX8_restores_23 : decode cX8_restores 23 = .ok (.istore_n 1, 1) := by decide +kernel
theorem dX8_restores_24 : decode cX8_restores 24 = .ok (.iload_n 1, 1) := by decide +kernel
theorem dX8_restores_25 : decode cX8_restores 25 = .ok (.aload_n 0, 1) := by decide +kernel
theorem dX8_restores_26 : decode cX8_restores 26 = .ok (.getfield 9, 3) := by decide +kernel
theorem dX8_restores_29 : decode cX8_restores 29 = .ok (.sipush 500, 3) := by decide +kernel
theorem dX8_restores_32 : decode cX8_restores 32 = .ok (.iaload, 1) := by decide +kernel
theorem dX8_restores_33 : decode cX8_restores 33 = .ok (.if_icmp .ge 22, 3) := by decide +kernel
theorem dX8_restores_36 : decode cX8_restores 36 = .ok (.aload_n 0, 1) := by decide +kernel
theorem dX8_restores_37 : decode cX8_restores 37 = .ok (.iload_n 1, 1) := by decide +kernel
theorem dX8_restores_38 : decode cX8_restores 38 = .ok (.invokevirtual 59, 3) := by decide +kernel
theorem dX8_restores_41 : decode cX8_restores 41 = .ok (.ifCond .eq 8, 3) := by decide +kernel
theorem dX8_restores_44 : decode cX8_restores 44 = .ok (.aload_n 0, 1) := by decide +kernel
theorem dX8_restores_45 : decode cX8_restores 45 = .ok (.iload_n 1, 1) := by decide +kernel
theorem dX8_restores_46 : decode cX8_restores 46 = .ok (.invokevirtual 63, 3) := by decide +kernel
theorem dX8_restores_49 : decode cX8_restores 49 = .ok (.iinc 1 1, 3) := by decide +kernel
theorem dX8_restores_52 : decode cX8_restores 52 = .ok (.goto (-28), 3) := by decide +kernel
theorem dX8_restores_55 : decode cX8_restores 55 = .ok (.return_, 1) := by decide +kernel
theorem dX8_restores__0 : decode cX8_restores_ 0 = .ok (.aload_n 0, 1) := by decide +kernel
theorem dX8_restores__1 : decode cX8_restores_ 1 = .ok (.getfield 34, 3) := by decide +kernel
theorem dX8_restores__4 : decode cX8_restores_ 4 = .ok (.iload_n 1, 1) := by decide +kernel
theorem dX8_restores__5 : decode cX8_restores_ 5 = .ok (.iaload, 1) := by decide +kernel
theorem dX8_restores__6 : decode cX8_restores_ 6 = .ok (.bipush (-9), 2) := by decide +kernel
theorem dX8_restores__8 : decode cX8_restores_ 8 = .ok (.if_icmp .eq 4, 3) := by decide +kernel
theorem dX8_restores__11 : decode cX8_restores_ 11 = .ok (.return_, 1) := by decide +kernel
theorem dX8_restores__12 : decode cX8_restores_ 12 = .ok (.bipush 50, 2) := by decide +kernel
theorem dX8_restores__14 : decode cX8_restores_ 14 = .ok (.iload_n 1, 1) := by decide +kernel
theorem dX8_restores__15 : decode cX8_restores_ 15 = .ok (.imul, 1) := by decide +kernel
theorem dX8_restores__16 : decode cX8_restores_ 16 = .ok (.istore_n 2, 1) := by decide +kernel
theorem dX8_restores__17 : decode cX8_restores_ 17 = .ok (.aload_n 0, 1) := by decide +kernel
theorem dX8_restores__18 : decode cX8_restores_ 18 = .ok (.getfield 9, 3) := by decide +kernel
theorem dX8_restores__21 : decode cX8_restores_ 21 = .ok (.iload_n 2, 1) := by decide +kernel
theorem dX8_restores__22 : decode cX8_restores_ 22 = .ok (.iconst 4, 1) := by decide +kernel
theorem dX8_restores__23 : decode cX8_restores_ 23 = .ok (.iadd, 1) := by decide +kernel
theorem dX8_restores__24 : decode cX8_restores_ 24 = .ok (.iaload, 1) := by decide +kernel
theorem dX8_restores__25 : decode cX8_restores_ 25 = .ok (.istore_n 3, 1) := by decide +kernel
theorem dX8_restores__26 : decode cX8_restores_ 26 = .ok (.iconst 0, 1) := by decide +kernel
theorem dX8_restores__27 : decode cX8_restores_ 27 = .ok (.istore 4, 2) := by decide +kernel
theorem dX8_restores__29 : decode cX8_restores_ 29 = .ok (.iload_n 3, 1) := by decide +kernel
theorem dX8_restores__30 : decode cX8_restores_ 30 = .ok (.bipush (-9), 2) := by decide +kernel
theorem dX8_restores__32 : decode cX8_restores_ 32 = .ok (.if_icmp .ne 56, 3) := by decide +kernel
theorem dX8_restores__35 : decode cX8_restores_ 35 = .ok (.aload_n 0, 1) := by decide +kernel
theorem dX8_restores__36 : decode cX8_restores_ 36 = .ok (.getfield 9, 3) := by decide +kernel
theorem dX8_restores__39 : decode cX8_restores_ 39 = .ok (.iload_n 2, 1) := by decide +kernel
theorem dX8_restores__40 : decode cX8_restores_ 40 = .ok (.iconst 5, 1) := by decide +kernel
theorem dX8_restores__41 : decode cX8_restores_ 41 = .ok (.iadd, 1) := by decide +kernel
theorem dX8_restores__42 : decode cX8_restores_ 42 = .ok (.iaload, 1) := by decide +kernel
theorem dX8_restores__43 : decode cX8_restores_ 43 = .ok (.istore 4, 2) := by decide +kernel
theorem dX8_restores__45 : decode cX8_restores_ 45 = .ok (.iconst 0, 1) := by decide +kernel
theorem dX8_restores__46 : decode cX8_restores_ 46 = .ok (.istore 5, 2) := by decide +kernel
theorem dX8_restores__48 : decode cX8_restores_ 48 = .ok (.iload 5, 2) := by decide +kernel
theorem dX8_restores__50 : decode cX8_restores_ 50 = .ok (.iload 4, 2) := by decide +kernel
theorem dX8_restores__52 : decode cX8_restores_ 52 = .ok (.if_icmp .ge 33, 3) := by decide +kernel
theorem dX8_restores__55 : decode cX8_restores_ 55 = .ok (.aload_n 0, 1) := by decide +kernel
theorem dX8_restores__56 : decode cX8_restores_ 56 = .ok (.getfield 31, 3) := by decide +kernel
theorem dX8_restores__59 : decode cX8_restores_ 59 = .ok (.bipush 12, 2) := by decide +kernel
theorem dX8_restores__61 : decode cX8_restores_ 61 = .ok (.iload_n 1, 1) := by decide +kernel
theorem dX8_restores__62 : decode cX8_restores_ 62 = .ok (.imul, 1) := by decide +kernel
theorem dX8_restores__63 : decode cX8_restores_ 63 = .ok (.iload 5, 2) := by decide +kernel
theorem dX8_restores__65 : decode cX8_restores_ 65 = .ok (.iadd, 1) := by decide +kernel
theorem dX8_restores__66 : decode cX8_restores_ 66 = .ok (.aload_n 0, 1) := by decide +kernel
theorem dX8_restores__67 : decode cX8_restores_ 67 = .ok (.getfield 9, 3) := by decide +kernel
theorem dX8_restores__70 : decode cX8_restores_ 70 = .ok (.iload_n 2, 1) := by decide +kernel
theorem dX8_restores__71 : decode cX8_restores_ 71 = .ok (.bipush 6, 2) := by decide +kernel
theorem dX8_restores__73 : decode cX8_restores_ 73 = .ok (.iadd, 1) := by decide +kernel
theorem dX8_restores__74 : decode cX8_restores_ 74 = .ok (.iload 5, 2) := by decide +kernel
theorem dX8_restores__76 : decode cX8_restores_ 76 = .ok (.iadd, 1) := by decide +kernel
theorem dX8_restores__77 : decode cX8_restores_ 77 = .ok (.iaload, 1) := by decide +kernel
theorem dX8_restores__78 : decode cX8_restores_ 78 = .ok (.iastore, 1) := by decide +kernel
theorem dX8_restores__79 : decode cX8_restores_ 79 = .ok (.iinc 5 1, 3) := by decide +kernel
theorem dX8_restores__82 : decode cX8_restores_ 82 = .ok (.goto (-34), 3) := by decide +kernel
theorem dX8_restores__85 : decode cX8_restores_ 85 = .ok (.goto 125, 3) := by decide +kernel
theorem dX8_restores__88 : decode cX8_restores_ 88 = .ok (.aload_n 0, 1) := by decide +kernel
theorem dX8_restores__89 : decode cX8_restores_ 89 = .ok (.iload_n 3, 1) := by decide +kernel
theorem dX8_restores__90 : decode cX8_restores_ 90 = .ok (.invokevirtual 63, 3) := by decide +kernel
theorem dX8_restores__93 : decode cX8_restores_ 93 = .ok (.iconst 0, 1) := by decide +kernel
theorem dX8_restores__94 : decode cX8_restores_ 94 = .ok (.istore 5, 2) := by decide +kernel
theorem dX8_restores__96 : decode cX8_restores_ 96 = .ok (.iload 5, 2) := by decide +kernel
theorem dX8_restores__98 : decode cX8_restores_ 98 = .ok (.aload_n 0, 1) := by decide +kernel
theorem dX8_restores__99 : decode cX8_restores_ 99 = .ok (.getfield 9, 3) := by decide +kernel
theorem dX8_restores__102 : decode cX8_restores_ 102 = .ok (.iload_n 2, 1) := by decide +kernel
theorem dX8_restores__103 : decode cX8_restores_ 103 = .ok (.bipush 18, 2) := by decide +kernel
theorem dX8_restores__105 : decode cX8_restores_ 105 = .ok (.iadd, 1) := by decide +kernel
theorem dX8_restores__106 : decode cX8_restores_ 106 = .ok (.iaload, 1) := by decide +kernel
theorem dX8_restores__107 : decode cX8_restores_ 107 = .ok (.if_icmp .ge 103, 3) := by decide +kernel
theorem dX8_restores__110 : decode cX8_restores_ 110 = .ok (.aload_n 0, 1) := by decide +kernel
theorem dX8_restores__111 : decode cX8_restores_ 111 = .ok (.getfield 9, 3) := by decide +kernel
theorem dX8_restores__114 : decode cX8_restores_ 114 = .ok (.iload_n 2, 1) := by decide +kernel
theorem dX8_restores__115 : decode cX8_restores_ 115 = .ok (.bipush 20, 2) := by decide +kernel
theorem dX8_restores__117 : decode cX8_restores_ 117 = .ok (.iadd, 1) := by decide +kernel
theorem dX8_restores__118 : decode cX8_restores_ 118 = .ok (.iconst 2, 1) := by decide +kernel
theorem dX8_restores__119 : decode cX8_restores_ 119 = .ok (.iload 5, 2) := by decide +kernel
theorem dX8_restores__121 : decode cX8_restores_ 121 = .ok (.imul, 1) := by decide +kernel
theorem dX8_restores__122 : decode cX8_restores_ 122 = .ok (.iadd, 1) := by decide +kernel
theorem dX8_restores__123 : decode cX8_restores_ 123 = .ok (.iaload, 1) := by decide +kernel
theorem dX8_restores__124 : decode cX8_restores_ 124 = .ok (.istore 6, 2) := by decide +kernel
theorem dX8_restores__126 : decode cX8_restores_ 126 = .ok (.aload_n 0, 1) := by decide +kernel
theorem dX8_restores__127 : decode cX8_restores_ 127 = .ok (.getfield 9, 3) := by decide +kernel
theorem dX8_restores__130 : decode cX8_restores_ 130 = .ok (.iload_n 2, 1) := by decide +kernel
theorem dX8_restores__131 : decode cX8_restores_ 131 = .ok (.bipush 20, 2) := by decide +kernel
theorem dX8_restores__133 : decode cX8_restores_ 133 = .ok (.iadd, 1) := by decide +kernel
theorem dX8_restores__134 : decode cX8_restores_ 134 = .ok (.iconst 2, 1) := by decide +kernel
theorem dX8_restores__135 : decode cX8_restores_ 135 = .ok (.iload 5, 2) := by decide +kernel
theorem dX8_restores__137 : decode cX8_restores_ 137 = .ok (.imul, 1) := by decide +kernel
theorem dX8_restores__138 : decode cX8_restores_ 138 = .ok (.iadd, 1) := by decide +kernel
theorem dX8_restores__139 : decode cX8_restores_ 139 = .ok (.iconst 1, 1) := by decide +kernel
theorem dX8_restores__140 : decode cX8_restores_ 140 = .ok (.iadd, 1) := by decide +kernel
theorem dX8_restores__141 : decode cX8_restores_ 141 = .ok (.iaload, 1) := by decide +kernel
theorem dX8_restores__142 : decode cX8_restores_ 142 = .ok (.istore 7, 2) := by decide +kernel
theorem dX8_restores__144 : decode cX8_restores_ 144 = .ok (.iconst 0, 1) := by decide +kernel
theorem dX8_restores__145 : decode cX8_restores_ 145 = .ok (.istore 8, 2) := by decide +kernel
theorem dX8_restores__147 : decode cX8_restores_ 147 = .ok (.iload 8, 2) := by decide +kernel
theorem dX8_restores__149 : decode cX8_restores_ 149 = .ok (.iconst 1, 1) := by decide +kernel
theorem dX8_restores__150 : decode cX8_restores_ 150 = .ok (.iload 6, 2) := by decide +kernel
theorem dX8_restores__152 : decode cX8_restores_ 152 = .ok (.invokestatic 67, 3) := by decide +kernel
theorem dX8_restores__155 : decode cX8_restores_ 155 = .ok (.if_icmp .ge 49, 3) := by decide +kernel
theorem dX8_restores__158 : decode cX8_restores_ 158 = .ok (.aload_n 0, 1) := by decide +kernel
theorem dX8_restores__159 : decode cX8_restores_ 159 = .ok (.getfield 31, 3) := by decide +kernel
theorem dX8_restores__162 : decode cX8_restores_ 162 = .ok (.bipush 12, 2) := by decide +kernel
theorem dX8_restores__164 : decode cX8_restores_ 164 = .ok (.iload_n 1, 1) := by decide +kernel
theorem dX8_restores__165 : decode cX8_restores_ 165 = .ok (.imul, 1) := by decide +kernel
theorem dX8_restores__166 : decode cX8_restores_ 166 = .ok (.iload 4, 2) := by decide +kernel
theorem dX8_restores__168 : decode cX8_restores_ 168 = .ok (.iadd, 1) := by decide +kernel
theorem dX8_restores__169 : decode cX8_restores_ 169 = .ok (.iload 6, 2) := by decide +kernel
theorem dX8_restores__171 : decode cX8_restores_ 171 = .ok (.ifCond .ne 8, 3) := by decide +kernel
theorem dX8_restores__174 : decode cX8_restores_ 174 = .ok (.iload 7, 2) := by decide +kernel
theorem dX8_restores__176 : decode cX8_restores_ 176 = .ok (.goto 18, 3) := by decide +kernel
theorem dX8_restores__179 : decode cX8_restores_ 179 = .ok (.aload_n 0, 1) := by decide +kernel
theorem dX8_restores__180 : decode cX8_restores_ 180 = .ok (.getfield 31, 3) := by decide +kernel
theorem dX8_restores__183 : decode cX8_restores_ 183 = .ok (.bipush 12, 2) := by decide +kernel
theorem dX8_restores__185 : decode cX8_restores_ 185 = .ok (.iload_n 3, 1) := by decide +kernel
theorem dX8_restores__186 : decode cX8_restores_ 186 = .ok (.imul, 1) := by decide +kernel
theorem dX8_restores__187 : decode cX8_restores_ 187 = .ok (.iload 7, 2) := by decide +kernel
theorem dX8_restores__189 : decode cX8_restores_ 189 = .ok (.iadd, 1) := by decide +kernel
theorem dX8_restores__190 : decode cX8_restores_ 190 = .ok (.iload 8, 2) := by decide +kernel
theorem dX8_restores__192 : decode cX8_restores_ 192 = .ok (.iadd, 1) := by decide +kernel
theorem dX8_restores__193 : decode cX8_restores_ 193 = .ok (.iaload, 1) := by decide +kernel
theorem dX8_restores__194 : decode cX8_restores_ 194 = .ok (.iastore, 1) := by decide +kernel
theorem dX8_restores__195 : decode cX8_restores_ 195 = .ok (.iinc 4 1, 3) := by decide +kernel
theorem dX8_restores__198 : decode cX8_restores_ 198 = .ok (.iinc 8 1, 3) := by decide +kernel
theorem dX8_restores__201 : decode cX8_restores_ 201 = .ok (.goto (-54), 3) := by decide +kernel
theorem dX8_restores__204 : decode cX8_restores_ 204 = .ok (.iinc 5 1, 3) := by decide +kernel
theorem dX8_restores__207 : decode cX8_restores_ 207 = .ok (.goto (-111), 3) := by decide +kernel
theorem dX8_restores__210 : decode cX8_restores_ 210 = .ok (.aload_n 0, 1) := by decide +kernel
theorem dX8_restores__211 : decode cX8_restores_ 211 = .ok (.getfield 34, 3) := by decide +kernel
theorem dX8_restores__214 : decode cX8_restores_ 214 = .ok (.iload_n 1, 1) := by decide +kernel
theorem dX8_restores__215 : decode cX8_restores_ 215 = .ok (.iload 4, 2) := by decide +kernel
theorem dX8_restores__217 : decode cX8_restores_ 217 = .ok (.iastore, 1) := by decide +kernel
theorem dX8_restores__218 : decode cX8_restores_ 218 = .ok (.return_, 1) := by decide +kernel
theorem dX8_hash_0 : decode cX8_hash 0 = .ok (.bipush 7, 2) := by decide +kernel
theorem dX8_hash_2 : decode cX8_hash 2 = .ok (.istore_n 2, 1) := by decide +kernel
theorem dX8_hash_3 : decode cX8_hash 3 = .ok (.iconst 0, 1) := by decide +kernel
theorem dX8_hash_4 : decode cX8_hash 4 = .ok (.istore_n 3, 1) := by decide +kernel
theorem dX8_hash_5 : decode cX8_hash 5 = .ok (.iload_n 3, 1) := by decide +kernel
theorem dX8_hash_6 : decode cX8_hash 6 = .ok (.aload_n 0, 1) := by decide +kernel
theorem dX8_hash_7 : decode cX8_hash 7 = .ok (.getfield 34, 3) := by decide +kernel
theorem dX8_hash_10 : decode cX8_hash 10 = .ok (.iload_n 1, 1) := by decide +kernel
theorem dX8_hash_11 : decode cX8_hash 11 = .ok (.iaload, 1) := by decide +kernel
theorem dX8_hash_12 : decode cX8_hash 12 = .ok (.if_icmp .ge 30, 3) := by decide +kernel
theorem dX8_hash_15 : decode cX8_hash 15 = .ok (.bipush 31, 2) := by decide +kernel
theorem dX8_hash_17 : decode cX8_hash 17 = .ok (.iload_n 2, 1) := by decide +kernel
theorem dX8_hash_18 : decode cX8_hash 18 = .ok (.imul, 1) := by decide +kernel
theorem dX8_hash_19 : decode cX8_hash 19 = .ok (.aload_n 0, 1) := by decide +kernel
theorem dX8_hash_20 : decode cX8_hash 20 = .ok (.getfield 31, 3) := by decide +kernel
theorem dX8_hash_23 : decode cX8_hash 23 = .ok (.bipush 12, 2) := by decide +kernel
theorem dX8_hash_25 : decode cX8_hash 25 = .ok (.iload_n 1, 1) := by decide +kernel
theorem dX8_hash_26 : decode cX8_hash 26 = .ok (.imul, 1) := by decide +kernel
theorem dX8_hash_27 : decode cX8_hash 27 = .ok (.iload_n 3, 1) := by decide +kernel
theorem dX8_hash_28 : decode cX8_hash 28 = .ok (.iadd, 1) := by decide +kernel
theorem dX8_hash_29 : decode cX8_hash 29 = .ok (.iaload, 1) := by decide +kernel
theorem dX8_hash_30 : decode cX8_hash 30 = .ok (.iadd, 1) := by decide +kernel
theorem dX8_hash_31 : decode cX8_hash 31 = .ok (.sipush 9973, 3) := by decide +kernel
theorem dX8_hash_34 : decode cX8_hash 34 = .ok (.irem, 1) := by decide +kernel
theorem dX8_hash_35 : decode cX8_hash 35 = .ok (.istore_n 2, 1) := by decide +kernel
theorem dX8_hash_36 : decode cX8_hash 36 = .ok (.iinc 3 1, 3) := by decide +kernel
theorem dX8_hash_39 : decode cX8_hash 39 = .ok (.goto (-34), 3) := by decide +kernel
theorem dX8_hash_42 : decode cX8_hash 42 = .ok (.iload_n 2, 1) := by decide +kernel
theorem dX8_hash_43 : decode cX8_hash 43 = .ok (.ireturn, 1) := by decide +kernel
theorem dX8_alike_0 : decode cX8_alike 0 = .ok (.iconst 0, 1) := by decide +kernel
theorem dX8_alike_1 : decode cX8_alike 1 = .ok (.istore 5, 2) := by decide +kernel
theorem dX8_alike_3 : decode cX8_alike 3 = .ok (.iload_n 2, 1) := by decide +kernel
theorem dX8_alike_4 : decode cX8_alike 4 = .ok (.iload 5, 2) := by decide +kernel
theorem dX8_alike_6 : decode cX8_alike 6 = .ok (.iadd, 1) := by decide +kernel
theorem dX8_alike_7 : decode cX8_alike 7 = .ok (.aload_n 0, 1) := by decide +kernel
theorem dX8_alike_8 : decode cX8_alike 8 = .ok (.getfield 34, 3) := by decide +kernel
theorem dX8_alike_11 : decode cX8_alike 11 = .ok (.iload_n 1, 1) := by decide +kernel
theorem dX8_alike_12 : decode cX8_alike 12 = .ok (.iaload, 1) := by decide +kernel
theorem dX8_alike_13 : decode cX8_alike 13 = .ok (.if_icmp .ge 55, 3) := by decide +kernel
theorem dX8_alike_16 : decode cX8_alike 16 = .ok (.iload 4, 2) := by decide +kernel
theorem dX8_alike_18 : decode cX8_alike 18 = .ok (.iload 5, 2) := by decide +kernel
theorem dX8_alike_20 : decode cX8_alike 20 = .ok (.iadd, 1) := by decide +kernel
theorem dX8_alike_21 : decode cX8_alike 21 = .ok (.aload_n 0, 1) := by decide +kernel
theorem dX8_alike_22 : decode cX8_alike 22 = .ok (.getfield 34, 3) := by decide +kernel
theorem dX8_alike_25 : decode cX8_alike 25 = .ok (.iload_n 3, 1) := by decide +kernel
theorem dX8_alike_26 : decode cX8_alike 26 = .ok (.iaload, 1) := by decide +kernel
theorem dX8_alike_27 : decode cX8_alike 27 = .ok (.if_icmp .ge 41, 3) := by decide +kernel
theorem dX8_alike_30 : decode cX8_alike 30 = .ok (.aload_n 0, 1) := by decide +kernel
theorem dX8_alike_31 : decode cX8_alike 31 = .ok (.getfield 31, 3) := by decide +kernel
theorem dX8_alike_34 : decode cX8_alike 34 = .ok (.bipush 12, 2) := by decide +kernel
theorem dX8_alike_36 : decode cX8_alike 36 = .ok (.iload_n 1, 1) := by decide +kernel
theorem dX8_alike_37 : decode cX8_alike 37 = .ok (.imul, 1) := by decide +kernel
theorem dX8_alike_38 : decode cX8_alike 38 = .ok (.iload_n 2, 1) := by decide +kernel
theorem dX8_alike_39 : decode cX8_alike 39 = .ok (.iadd, 1) := by decide +kernel
theorem dX8_alike_40 : decode cX8_alike 40 = .ok (.iload 5, 2) := by decide +kernel
theorem dX8_alike_42 : decode cX8_alike 42 = .ok (.iadd, 1) := by decide +kernel
theorem dX8_alike_43 : decode cX8_alike 43 = .ok (.iaload, 1) := by decide +kernel
theorem dX8_alike_44 : decode cX8_alike 44 = .ok (.aload_n 0, 1) := by decide +kernel
theorem dX8_alike_45 : decode cX8_alike 45 = .ok (.getfield 31, 3) := by decide +kernel
theorem dX8_alike_48 : decode cX8_alike 48 = .ok (.bipush 12, 2) := by decide +kernel
theorem dX8_alike_50 : decode cX8_alike 50 = .ok (.iload_n 3, 1) := by decide +kernel
theorem dX8_alike_51 : decode cX8_alike 51 = .ok (.imul, 1) := by decide +kernel
theorem dX8_alike_52 : decode cX8_alike 52 = .ok (.iload 4, 2) := by decide +kernel
theorem dX8_alike_54 : decode cX8_alike 54 = .ok (.iadd, 1) := by decide +kernel
theorem dX8_alike_55 : decode cX8_alike 55 = .ok (.iload 5, 2) := by decide +kernel
theorem dX8_alike_57 : decode cX8_alike 57 = .ok (.iadd, 1) := by decide +kernel
theorem dX8_alike_58 : decode cX8_alike 58 = .ok (.iaload, 1) := by decide +kernel
theorem dX8_alike_59 : decode cX8_alike 59 = .ok (.if_icmp .ne 9, 3) := by decide +kernel
theorem dX8_alike_62 : decode cX8_alike 62 = .ok (.iinc 5 1, 3) := by decide +kernel
theorem dX8_alike_65 : decode cX8_alike 65 = .ok (.goto (-62), 3) := by decide +kernel
theorem dX8_alike_68 : decode cX8_alike 68 = .ok (.iload 5, 2) := by decide +kernel
theorem dX8_alike_70 : decode cX8_alike 70 = .ok (.ireturn, 1) := by decide +kernel
theorem dX8_delta_0 : decode cX8_delta 0 = .ok (.aload_n 0, 1) := by decide +kernel
theorem dX8_delta_1 : decode cX8_delta 1 = .ok (.iconst 0, 1) := by decide +kernel
theorem dX8_delta_2 : decode cX8_delta 2 = .ok (.putfield 73, 3) := by decide +kernel
theorem dX8_delta_5 : decode cX8_delta 5 = .ok (.aload_n 0, 1) := by decide +kernel
theorem dX8_delta_6 : decode cX8_delta 6 = .ok (.iconst 0, 1) := by decide +kernel
theorem dX8_delta_7 : decode cX8_delta 7 = .ok (.putfield 77, 3) := by decide +kernel
theorem dX8_delta_10 : decode cX8_delta 10 = .ok (.iconst 0, 1) := by decide +kernel
theorem dX8_delta_11 : decode cX8_delta 11 = .ok (.istore_n 3, 1) := by decide +kernel
theorem dX8_delta_12 : decode cX8_delta 12 = .ok (.iload_n 3, 1) := by decide +kernel
theorem dX8_delta_13 : decode cX8_delta 13 = .ok (.aload_n 0, 1) := by decide +kernel
theorem dX8_delta_14 : decode cX8_delta 14 = .ok (.getfield 34, 3) := by decide +kernel
theorem dX8_delta_17 : decode cX8_delta 17 = .ok (.iload_n 2, 1) := by decide +kernel
theorem dX8_delta_18 : decode cX8_delta 18 = .ok (.iaload, 1) := by decide +kernel
theorem dX8_delta_19 : decode cX8_delta 19 = .ok (.if_icmp .ge 170, 3) := by decide +kernel
theorem dX8_delta_22 : decode cX8_delta 22 = .ok (.iconst 0, 1) := by decide +kernel
theorem dX8_delta_23 : decode cX8_delta 23 = .ok (.istore 4, 2) := by decide +kernel
theorem dX8_delta_25 : decode cX8_delta 25 = .ok (.iconst 0, 1) := by decide +kernel
theorem dX8_delta_26 : decode cX8_delta 26 = .ok (.istore 5, 2) := by decide +kernel
theorem dX8_delta_28 : decode cX8_delta 28 = .ok (.iconst 0, 1) := by decide +kernel
theorem dX8_delta_29 : decode cX8_delta 29 = .ok (.istore 6, 2) := by decide +kernel
theorem dX8_delta_31 : decode cX8_delta 31 = .ok (.iload 6, 2) := by decide +kernel
theorem dX8_delta_33 : decode cX8_delta 33 = .ok (.aload_n 0, 1) := by decide +kernel
theorem dX8_delta_34 : decode cX8_delta 34 = .ok (.getfield 34, 3) := by decide +kernel
theorem dX8_delta_37 : decode cX8_delta 37 = .ok (.iload_n 1, 1) := by decide +kernel
theorem dX8_delta_38 : decode cX8_delta 38 = .ok (.iaload, 1) := by decide +kernel
theorem dX8_delta_39 : decode cX8_delta 39 = .ok (.if_icmp .ge 35, 3) := by decide +kernel
theorem dX8_delta_42 : decode cX8_delta 42 = .ok (.aload_n 0, 1) := by decide +kernel
theorem dX8_delta_43 : decode cX8_delta 43 = .ok (.iload_n 1, 1) := by decide +kernel
theorem dX8_delta_44 : decode cX8_delta 44 = .ok (.iload 6, 2) := by decide +kernel
theorem dX8_delta_46 : decode cX8_delta 46 = .ok (.iload_n 2, 1) := by decide +kernel
theorem dX8_delta_47 : decode cX8_delta 47 = .ok (.iload_n 3, 1) := by decide +kernel
theorem dX8_delta_48 : decode cX8_delta 48 = .ok (.invokevirtual 80, 3) := by decide +kernel
theorem dX8_delta_51 : decode cX8_delta 51 = .ok (.istore 7, 2) := by decide +kernel
theorem dX8_delta_53 : decode cX8_delta 53 = .ok (.iload 7, 2) := by decide +kernel
theorem dX8_delta_55 : decode cX8_delta 55 = .ok (.iload 4, 2) := by decide +kernel
theorem dX8_delta_57 : decode cX8_delta 57 = .ok (.if_icmp .le 11, 3) := by decide +kernel
theorem dX8_delta_60 : decode cX8_delta 60 = .ok (.iload 7, 2) := by decide +kernel
theorem dX8_delta_62 : decode cX8_delta 62 = .ok (.istore 4, 2) := by decide +kernel
theorem dX8_delta_64 : decode cX8_delta 64 = .ok (.iload 6, 2) := by decide +kernel
theorem dX8_delta_66 : decode cX8_delta 66 = .ok (.istore 5, 2) := by decide +kernel
theorem dX8_delta_68 : decode cX8_delta 68 = .ok (.iinc 6 1, 3) := by decide +kernel
theorem dX8_delta_71 : decode cX8_delta 71 = .ok (.goto (-40), 3) := by decide +kernel
theorem dX8_delta_74 : decode cX8_delta 74 = .ok (.iload 4, 2) := by decide +kernel
theorem dX8_delta_76 : decode cX8_delta 76 = .ok (.iconst 2, 1) := by decide +kernel
theorem dX8_delta_77 : decode cX8_delta 77 = .ok (.if_icmp .lt 7, 3) := by decide +kernel
theorem dX8_delta_80 : decode cX8_delta 80 = .ok (.iconst 1, 1) := by decide +kernel
theorem dX8_delta_81 : decode cX8_delta 81 = .ok (.goto 4, 3) := by decide +kernel
theorem dX8_delta_84 : decode cX8_delta 84 = .ok (.iconst 0, 1) := by decide +kernel
theorem dX8_delta_85 : decode cX8_delta 85 = .ok (.istore 6, 2) := by decide +kernel
theorem dX8_delta_87 : decode cX8_delta 87 = .ok (.aload_n 0, 1) := by decide +kernel
theorem dX8_delta_88 : decode cX8_delta 88 = .ok (.getfield 37, 3) := by decide +kernel
theorem dX8_delta_91 : decode cX8_delta 91 = .ok (.iconst 2, 1) := by decide +kernel
theorem dX8_delta_92 : decode cX8_delta 92 = .ok (.aload_n 0, 1) := by decide +kernel
theorem dX8_delta_93 : decode cX8_delta 93 = .ok (.getfield 73, 3) := by decide +kernel
theorem dX8_delta_96 : decode cX8_delta 96 = .ok (.imul, 1) := by decide +kernel
theorem dX8_delta_97 : decode cX8_delta 97 = .ok (.iload 6, 2) := by decide +kernel
theorem dX8_delta_99 : decode cX8_delta 99 = .ok (.ifCond .eq 8, 3) := by decide +kernel
theorem dX8_delta_102 : decode cX8_delta 102 = .ok (.iload 4, 2) := by decide +kernel
theorem dX8_delta_104 : decode cX8_delta 104 = .ok (.goto 4, 3) := by decide +kernel
theorem dX8_delta_107 : decode cX8_delta 107 = .ok (.iconst 0, 1) := by decide +kernel
theorem dX8_delta_108 : decode cX8_delta 108 = .ok (.iastore, 1) := by decide +kernel
theorem dX8_delta_109 : decode cX8_delta 109 = .ok (.aload_n 0, 1) := by decide +kernel
theorem dX8_delta_110 : decode cX8_delta 110 = .ok (.getfield 37, 3) := by decide +kernel
theorem dX8_delta_113 : decode cX8_delta 113 = .ok (.iconst 2, 1) := by decide +kernel
theorem dX8_delta_114 : decode cX8_delta 114 = .ok (.aload_n 0, 1) := by decide +kernel
theorem dX8_delta_115 : decode cX8_delta 115 = .ok (.getfield 73, 3) := by decide +kernel
theorem dX8_delta_118 : decode cX8_delta 118 = .ok (.imul, 1) := by decide +kernel
theorem dX8_delta_119 : decode cX8_delta 119 = .ok (.iconst 1, 1) := by decide +kernel
theorem dX8_delta_120 : decode cX8_delta 120 = .ok (.iadd, 1) := by decide +kernel
theorem dX8_delta_121 : decode cX8_delta 121 = .ok (.iload 6, 2) := by decide +kernel
theorem dX8_delta_123 : decode cX8_delta 123 = .ok (.ifCond .eq 8, 3) := by decide +kernel
theorem dX8_delta_126 : decode cX8_delta 126 = .ok (.iload 5, 2) := by decide +kernel
theorem dX8_delta_128 : decode cX8_delta 128 = .ok (.goto 14, 3) := by decide +kernel
theorem dX8_delta_131 : decode cX8_delta 131 = .ok (.aload_n 0, 1) := by decide +kernel
theorem dX8_delta_132 : decode cX8_delta 132 = .ok (.getfield 31, 3) := by decide +kernel
theorem dX8_delta_135 : decode cX8_delta 135 = .ok (.bipush 12, 2) := by decide +kernel
theorem dX8_delta_137 : decode cX8_delta 137 = .ok (.iload_n 2, 1) := by decide +kernel
theorem dX8_delta_138 : decode cX8_delta 138 = .ok (.imul, 1) := by decide +kernel
theorem dX8_delta_139 : decode cX8_delta 139 = .ok (.iload_n 3, 1) := by decide +kernel
theorem dX8_delta_140 : decode cX8_delta 140 = .ok (.iadd, 1) := by decide +kernel
theorem dX8_delta_141 : decode cX8_delta 141 = .ok (.iaload, 1) := by decide +kernel
theorem dX8_delta_142 : decode cX8_delta 142 = .ok (.iastore, 1) := by decide +kernel
theorem dX8_delta_143 : decode cX8_delta 143 = .ok (.aload_n 0, 1) := by decide +kernel
theorem dX8_delta_144 : decode cX8_delta 144 = .ok (.dup, 1) := by decide +kernel
theorem dX8_delta_145 : decode cX8_delta 145 = .ok (.getfield 77, 3) := by decide +kernel
theorem dX8_delta_148 : decode cX8_delta 148 = .ok (.iload 6, 2) := by decide +kernel
theorem dX8_delta_150 : decode cX8_delta 150 = .ok (.ifCond .eq 7, 3) := by decide +kernel
theorem dX8_delta_153 : decode cX8_delta 153 = .ok (.iconst 1, 1) := by decide +kernel
theorem dX8_delta_154 : decode cX8_delta 154 = .ok (.goto 4, 3) := by decide +kernel
theorem dX8_delta_157 : decode cX8_delta 157 = .ok (.iconst 0, 1) := by decide +kernel
theorem dX8_delta_158 : decode cX8_delta 158 = .ok (.iadd, 1) := by decide +kernel
theorem dX8_delta_159 : decode cX8_delta 159 = .ok (.putfield 77, 3) := by decide +kernel
theorem dX8_delta_162 : decode cX8_delta 162 = .ok (.aload_n 0, 1) := by decide +kernel
theorem dX8_delta_163 : decode cX8_delta 163 = .ok (.dup, 1) := by decide +kernel
theorem dX8_delta_164 : decode cX8_delta 164 = .ok (.getfield 73, 3) := by decide +kernel
theorem dX8_delta_167 : decode cX8_delta 167 = .ok (.iconst 1, 1) := by decide +kernel
theorem dX8_delta_168 : decode cX8_delta 168 = .ok (.iadd, 1) := by decide +kernel
theorem dX8_delta_169 : decode cX8_delta 169 = .ok (.putfield 73, 3) := by decide +kernel
theorem dX8_delta_172 : decode cX8_delta 172 = .ok (.iload_n 3, 1) := by decide +kernel
theorem dX8_delta_173 : decode cX8_delta 173 = .ok (.iload 6, 2) := by decide +kernel
theorem dX8_delta_175 : decode cX8_delta 175 = .ok (.ifCond .eq 8, 3) := by decide +kernel
theorem dX8_delta_178 : decode cX8_delta 178 = .ok (.iload 4, 2) := by decide +kernel
theorem dX8_delta_180 : decode cX8_delta 180 = .ok (.goto 4, 3) := by decide +kernel
theorem dX8_delta_183 : decode cX8_delta 183 = .ok (.iconst 1, 1) := by decide +kernel
theorem dX8_delta_184 : decode cX8_delta 184 = .ok (.iadd, 1) := by decide +kernel
theorem dX8_delta_185 : decode cX8_delta 185 = .ok (.istore_n 3, 1) := by decide +kernel
theorem dX8_delta_186 : decode cX8_delta 186 = .ok (.goto (-174), 3) := by decide +kernel
theorem dX8_delta_189 : decode cX8_delta 189 = .ok (.iconst 1, 1) := by decide +kernel
theorem dX8_delta_190 : decode cX8_delta 190 = .ok (.aload_n 0, 1) := by decide +kernel
theorem dX8_delta_191 : decode cX8_delta 191 = .ok (.getfield 73, 3) := by decide +kernel
theorem dX8_delta_194 : decode cX8_delta 194 = .ok (.iadd, 1) := by decide +kernel
theorem dX8_delta_195 : decode cX8_delta 195 = .ok (.aload_n 0, 1) := by decide +kernel
theorem dX8_delta_196 : decode cX8_delta 196 = .ok (.getfield 77, 3) := by decide +kernel
theorem dX8_delta_199 : decode cX8_delta 199 = .ok (.iadd, 1) := by decide +kernel
theorem dX8_delta_200 : decode cX8_delta 200 = .ok (.ireturn, 1) := by decide +kernel
theorem dX8_costOf_0 : decode cX8_costOf 0 = .ok (.bipush 50, 2) := by decide +kernel
theorem dX8_costOf_2 : decode cX8_costOf 2 = .ok (.iload_n 1, 1) := by decide +kernel
theorem dX8_costOf_3 : decode cX8_costOf 3 = .ok (.imul, 1) := by decide +kernel
theorem dX8_costOf_4 : decode cX8_costOf 4 = .ok (.istore_n 2, 1) := by decide +kernel
theorem dX8_costOf_5 : decode cX8_costOf 5 = .ok (.iconst 1, 1) := by decide +kernel
theorem dX8_costOf_6 : decode cX8_costOf 6 = .ok (.aload_n 0, 1) := by decide +kernel
theorem dX8_costOf_7 : decode cX8_costOf 7 = .ok (.getfield 34, 3) := by decide +kernel
theorem dX8_costOf_10 : decode cX8_costOf 10 = .ok (.iload_n 1, 1) := by decide +kernel
theorem dX8_costOf_11 : decode cX8_costOf 11 = .ok (.iaload, 1) := by decide +kernel
theorem dX8_costOf_12 : decode cX8_costOf 12 = .ok (.iadd, 1) := by decide +kernel
theorem dX8_costOf_13 : decode cX8_costOf 13 = .ok (.istore_n 3, 1) := by decide +kernel
theorem dX8_costOf_14 : decode cX8_costOf 14 = .ok (.aload_n 0, 1) := by decide +kernel
theorem dX8_costOf_15 : decode cX8_costOf 15 = .ok (.getfield 9, 3) := by decide +kernel
theorem dX8_costOf_18 : decode cX8_costOf 18 = .ok (.iload_n 2, 1) := by decide +kernel
theorem dX8_costOf_19 : decode cX8_costOf 19 = .ok (.iconst 4, 1) := by decide +kernel
theorem dX8_costOf_20 : decode cX8_costOf 20 = .ok (.iadd, 1) := by decide +kernel
theorem dX8_costOf_21 : decode cX8_costOf 21 = .ok (.iaload, 1) := by decide +kernel
theorem dX8_costOf_22 : decode cX8_costOf 22 = .ok (.bipush (-9), 2) := by decide +kernel
theorem dX8_costOf_24 : decode cX8_costOf 24 = .ok (.if_icmp .eq 53, 3) := by decide +kernel
theorem dX8_costOf_27 : decode cX8_costOf 27 = .ok (.iconst 1, 1) := by decide +kernel
theorem dX8_costOf_28 : decode cX8_costOf 28 = .ok (.istore_n 3, 1) := by decide +kernel
theorem dX8_costOf_29 : decode cX8_costOf 29 = .ok (.iconst 0, 1) := by decide +kernel
theorem dX8_costOf_30 : decode cX8_costOf 30 = .ok (.istore 4, 2) := by decide +kernel
theorem dX8_costOf_32 : decode cX8_costOf 32 = .ok (.iload 4, 2) := by decide +kernel
theorem dX8_costOf_34 : decode cX8_costOf 34 = .ok (.aload_n 0, 1) := by decide +kernel
theorem dX8_costOf_35 : decode cX8_costOf 35 = .ok (.getfield 9, 3) := by decide +kernel
theorem dX8_costOf_38 : decode cX8_costOf 38 = .ok (.iload_n 2, 1) := by decide +kernel
theorem dX8_costOf_39 : decode cX8_costOf 39 = .ok (.bipush 18, 2) := by decide +kernel
theorem dX8_costOf_41 : decode cX8_costOf 41 = .ok (.iadd, 1) := by decide +kernel
theorem dX8_costOf_42 : decode cX8_costOf 42 = .ok (.iaload, 1) := by decide +kernel
theorem dX8_costOf_43 : decode cX8_costOf 43 = .ok (.if_icmp .ge 34, 3) := by decide +kernel
theorem dX8_costOf_46 : decode cX8_costOf 46 = .ok (.iload_n 3, 1) := by decide +kernel
theorem dX8_costOf_47 : decode cX8_costOf 47 = .ok (.aload_n 0, 1) := by decide +kernel
theorem dX8_costOf_48 : decode cX8_costOf 48 = .ok (.getfield 9, 3) := by decide +kernel
theorem dX8_costOf_51 : decode cX8_costOf 51 = .ok (.iload_n 2, 1) := by decide +kernel
theorem dX8_costOf_52 : decode cX8_costOf 52 = .ok (.bipush 20, 2) := by decide +kernel
theorem dX8_costOf_54 : decode cX8_costOf 54 = .ok (.iadd, 1) := by decide +kernel
theorem dX8_costOf_55 : decode cX8_costOf 55 = .ok (.iconst 2, 1) := by decide +kernel
theorem dX8_costOf_56 : decode cX8_costOf 56 = .ok (.iload 4, 2) := by decide +kernel
theorem dX8_costOf_58 : decode cX8_costOf 58 = .ok (.imul, 1) := by decide +kernel
theorem dX8_costOf_59 : decode cX8_costOf 59 = .ok (.iadd, 1) := by decide +kernel
theorem dX8_costOf_60 : decode cX8_costOf 60 = .ok (.iaload, 1) := by decide +kernel
theorem dX8_costOf_61 : decode cX8_costOf 61 = .ok (.ifCond .le 7, 3) := by decide +kernel
theorem dX8_costOf_64 : decode cX8_costOf 64 = .ok (.iconst 2, 1) := by decide +kernel
theorem dX8_costOf_65 : decode cX8_costOf 65 = .ok (.goto 4, 3) := by decide +kernel
theorem dX8_costOf_68 : decode cX8_costOf 68 = .ok (.iconst 1, 1) := by decide +kernel
theorem dX8_costOf_69 : decode cX8_costOf 69 = .ok (.iadd, 1) := by decide +kernel
theorem dX8_costOf_70 : decode cX8_costOf 70 = .ok (.istore_n 3, 1) := by decide +kernel
theorem dX8_costOf_71 : decode cX8_costOf 71 = .ok (.iinc 4 1, 3) := by decide +kernel
theorem dX8_costOf_74 : decode cX8_costOf 74 = .ok (.goto (-42), 3) := by decide +kernel
theorem dX8_costOf_77 : decode cX8_costOf 77 = .ok (.iload_n 3, 1) := by decide +kernel
theorem dX8_costOf_78 : decode cX8_costOf 78 = .ok (.ireturn, 1) := by decide +kernel
theorem dX8_cost_0 : decode cX8_cost 0 = .ok (.aload_n 0, 1) := by decide +kernel
theorem dX8_cost_1 : decode cX8_cost 1 = .ok (.invokevirtual 84, 3) := by decide +kernel
theorem dX8_cost_4 : decode cX8_cost 4 = .ok (.iconst 0, 1) := by decide +kernel
theorem dX8_cost_5 : decode cX8_cost 5 = .ok (.istore_n 1, 1) := by decide +kernel
theorem dX8_cost_6 : decode cX8_cost 6 = .ok (.iconst 0, 1) := by decide +kernel
theorem dX8_cost_7 : decode cX8_cost 7 = .ok (.istore_n 2, 1) := by decide +kernel
theorem dX8_cost_8 : decode cX8_cost 8 = .ok (.iload_n 2, 1) := by decide +kernel
theorem dX8_cost_9 : decode cX8_cost 9 = .ok (.bipush 10, 2) := by decide +kernel
theorem dX8_cost_11 : decode cX8_cost 11 = .ok (.if_icmp .ge 29, 3) := by decide +kernel
theorem dX8_cost_14 : decode cX8_cost 14 = .ok (.iload_n 1, 1) := by decide +kernel
theorem dX8_cost_15 : decode cX8_cost 15 = .ok (.aload_n 0, 1) := by decide +kernel
theorem dX8_cost_16 : decode cX8_cost 16 = .ok (.iload_n 2, 1) := by decide +kernel
theorem dX8_cost_17 : decode cX8_cost 17 = .ok (.invokevirtual 59, 3) := by decide +kernel
theorem dX8_cost_20 : decode cX8_cost 20 = .ok (.ifCond .eq 11, 3) := by decide +kernel
theorem dX8_cost_23 : decode cX8_cost 23 = .ok (.aload_n 0, 1) := by decide +kernel
theorem dX8_cost_24 : decode cX8_cost 24 = .ok (.iload_n 2, 1) := by decide +kernel
theorem dX8_cost_25 : decode cX8_cost 25 = .ok (.invokevirtual 86, 3) := by decide +kernel
theorem dX8_cost_28 : decode cX8_cost 28 = .ok (.goto 4, 3) := by decide +kernel
theorem dX8_cost_31 : decode cX8_cost 31 = .ok (.iconst 0, 1) := by decide +kernel
theorem dX8_cost_32 : decode cX8_cost 32 = .ok (.iadd, 1) := by decide +kernel
theorem dX8_cost_33 : decode cX8_cost 33 = .ok (.istore_n 1, 1) := by decide +kernel
theorem dX8_cost_34 : decode cX8_cost 34 = .ok (.iinc 2 1, 3) := by decide +kernel
theorem dX8_cost_37 : decode cX8_cost 37 = .ok (.goto (-29), 3) := by decide +kernel
theorem dX8_cost_40 : decode cX8_cost 40 = .ok (.iload_n 1, 1) := by decide +kernel
theorem dX8_cost_41 : decode cX8_cost 41 = .ok (.ireturn, 1) := by decide +kernel
theorem dX8_depth_0 : decode cX8_depth 0 = .ok (.aload_n 0, 1) := by decide +kernel
theorem dX8_depth_1 : decode cX8_depth 1 = .ok (.getfield 9, 3) := by decide +kernel
theorem dX8_depth_4 : decode cX8_depth 4 = .ok (.bipush 50, 2) := by decide +kernel
theorem dX8_depth_6 : decode cX8_depth 6 = .ok (.iload_n 1, 1) := by decide +kernel
theorem dX8_depth_7 : decode cX8_depth 7 = .ok (.imul, 1) := by decide +kernel
theorem dX8_depth_8 : decode cX8_depth 8 = .ok (.iconst 4, 1) := by decide +kernel
theorem dX8_depth_9 : decode cX8_depth 9 = .ok (.iadd, 1) := by decide +kernel
theorem dX8_depth_10 : decode cX8_depth 10 = .ok (.iaload, 1) := by decide +kernel
theorem dX8_depth_11 : decode cX8_depth 11 = .ok (.bipush (-9), 2) := by decide +kernel
theorem dX8_depth_13 : decode cX8_depth 13 = .ok (.if_icmp .ne 7, 3) := by decide +kernel
theorem dX8_depth_16 : decode cX8_depth 16 = .ok (.iconst 0, 1) := by decide +kernel
theorem dX8_depth_17 : decode cX8_depth 17 = .ok (.goto 20, 3) := by decide +kernel
theorem dX8_depth_20 : decode cX8_depth 20 = .ok (.iconst 1, 1) := by decide +kernel
theorem dX8_depth_21 : decode cX8_depth 21 = .ok (.aload_n 0, 1) := by decide +kernel
theorem dX8_depth_22 : decode cX8_depth 22 = .ok (.aload_n 0, 1) := by decide +kernel
theorem dX8_depth_23 : decode cX8_depth 23 = .ok (.getfield 9, 3) := by decide +kernel
theorem dX8_depth_26 : decode cX8_depth 26 = .ok (.bipush 50, 2) := by decide +kernel
theorem dX8_depth_28 : decode cX8_depth 28 = .ok (.iload_n 1, 1) := by decide +kernel
theorem dX8_depth_29 : decode cX8_depth 29 = .ok (.imul, 1) := by decide +kernel
theorem dX8_depth_30 : decode cX8_depth 30 = .ok (.iconst 4, 1) := by decide +kernel
theorem dX8_depth_31 : decode cX8_depth 31 = .ok (.iadd, 1) := by decide +kernel
theorem dX8_depth_32 : decode cX8_depth 32 = .ok (.iaload, 1) := by decide +kernel
theorem dX8_depth_33 : decode cX8_depth 33 = .ok (.invokevirtual 89, 3) := by decide +kernel
theorem dX8_depth_36 : decode cX8_depth 36 = .ok (.iadd, 1) := by decide +kernel
theorem dX8_depth_37 : decode cX8_depth 37 = .ok (.ireturn, 1) := by decide +kernel
theorem dX8_whole_0 : decode cX8_whole 0 = .ok (.bipush 50, 2) := by decide +kernel
theorem dX8_whole_2 : decode cX8_whole 2 = .ok (.iload_n 1, 1) := by decide +kernel
theorem dX8_whole_3 : decode cX8_whole 3 = .ok (.imul, 1) := by decide +kernel
theorem dX8_whole_4 : decode cX8_whole 4 = .ok (.istore_n 2, 1) := by decide +kernel
theorem dX8_whole_5 : decode cX8_whole 5 = .ok (.aload_n 0, 1) := by decide +kernel
theorem dX8_whole_6 : decode cX8_whole 6 = .ok (.getfield 9, 3) := by decide +kernel
end
section
theorem dX8_whole_9 : decode cX8_whole 9 = .ok (.iload_n 2, 1) := by decide +kernel
theorem dX8_whole_10 : decode cX8_whole 10 = .ok (.iconst 4, 1) := by decide +kernel
theorem dX8_whole_11 : decode cX8_whole 11 = .ok (.iadd, 1) := by decide +kernel
theorem dX8_whole_12 : decode cX8_whole 12 = .ok (.bipush (-9), 2) := by decide +kernel
theorem dX8_whole_14 : decode cX8_whole 14 = .ok (.iastore, 1) := by decide +kernel
theorem dX8_whole_15 : decode cX8_whole 15 = .ok (.aload_n 0, 1) := by decide +kernel
theorem dX8_whole_16 : decode cX8_whole 16 = .ok (.getfield 9, 3) := by decide +kernel
theorem dX8_whole_19 : decode cX8_whole 19 = .ok (.iload_n 2, 1) := by decide +kernel
theorem dX8_whole_20 : decode cX8_whole 20 = .ok (.iconst 5, 1) := by decide +kernel
theorem dX8_whole_21 : decode cX8_whole 21 = .ok (.iadd, 1) := by decide +kernel
theorem dX8_whole_22 : decode cX8_whole 22 = .ok (.aload_n 0, 1) := by decide +kernel
theorem dX8_whole_23 : decode cX8_whole 23 = .ok (.getfield 34, 3) := by decide +kernel
theorem dX8_whole_26 : decode cX8_whole 26 = .ok (.iload_n 1, 1) := by decide +kernel
theorem dX8_whole_27 : decode cX8_whole 27 = .ok (.iaload, 1) := by decide +kernel
theorem dX8_whole_28 : decode cX8_whole 28 = .ok (.iastore, 1) := by decide +kernel
theorem dX8_whole_29 : decode cX8_whole 29 = .ok (.aload_n 0, 1) := by decide +kernel
theorem dX8_whole_30 : decode cX8_whole 30 = .ok (.getfield 9, 3) := by decide +kernel
theorem dX8_whole_33 : decode cX8_whole 33 = .ok (.iload_n 2, 1) := by decide +kernel
theorem dX8_whole_34 : decode cX8_whole 34 = .ok (.bipush 18, 2) := by decide +kernel
theorem dX8_whole_36 : decode cX8_whole 36 = .ok (.iadd, 1) := by decide +kernel
theorem dX8_whole_37 : decode cX8_whole 37 = .ok (.iconst 0, 1) := by decide +kernel
theorem dX8_whole_38 : decode cX8_whole 38 = .ok (.iastore, 1) := by decide +kernel
theorem dX8_whole_39 : decode cX8_whole 39 = .ok (.iconst 0, 1) := by decide +kernel
theorem dX8_whole_40 : decode cX8_whole 40 = .ok (.istore_n 3, 1) := by decide +kernel
theorem dX8_whole_41 : decode cX8_whole 41 = .ok (.iload_n 3, 1) := by decide +kernel
theorem dX8_whole_42 : decode cX8_whole 42 = .ok (.aload_n 0, 1) := by decide +kernel
theorem dX8_whole_43 : decode cX8_whole 43 = .ok (.getfield 34, 3) := by decide +kernel
theorem dX8_whole_46 : decode cX8_whole 46 = .ok (.iload_n 1, 1) := by decide +kernel
theorem dX8_whole_47 : decode cX8_whole 47 = .ok (.iaload, 1) := by decide +kernel
theorem dX8_whole_48 : decode cX8_whole 48 = .ok (.if_icmp .ge 31, 3) := by decide +kernel
theorem dX8_whole_51 : decode cX8_whole 51 = .ok (.aload_n 0, 1) := by decide +kernel
theorem dX8_whole_52 : decode cX8_whole 52 = .ok (.getfield 9, 3) := by decide +kernel
theorem dX8_whole_55 : decode cX8_whole 55 = .ok (.iload_n 2, 1) := by decide +kernel
theorem dX8_whole_56 : decode cX8_whole 56 = .ok (.bipush 6, 2) := by decide +kernel
theorem dX8_whole_58 : decode cX8_whole 58 = .ok (.iadd, 1) := by decide +kernel
theorem dX8_whole_59 : decode cX8_whole 59 = .ok (.iload_n 3, 1) := by decide +kernel
theorem dX8_whole_60 : decode cX8_whole 60 = .ok (.iadd, 1) := by decide +kernel
theorem dX8_whole_61 : decode cX8_whole 61 = .ok (.aload_n 0, 1) := by decide +kernel
theorem dX8_whole_62 : decode cX8_whole 62 = .ok (.getfield 31, 3) := by decide +kernel
theorem dX8_whole_65 : decode cX8_whole 65 = .ok (.bipush 12, 2) := by decide +kernel
theorem dX8_whole_67 : decode cX8_whole 67 = .ok (.iload_n 1, 1) := by decide +kernel
theorem dX8_whole_68 : decode cX8_whole 68 = .ok (.imul, 1) := by decide +kernel
theorem dX8_whole_69 : decode cX8_whole 69 = .ok (.iload_n 3, 1) := by decide +kernel
theorem dX8_whole_70 : decode cX8_whole 70 = .ok (.iadd, 1) := by decide +kernel
theorem dX8_whole_71 : decode cX8_whole 71 = .ok (.iaload, 1) := by decide +kernel
theorem dX8_whole_72 : decode cX8_whole 72 = .ok (.iastore, 1) := by decide +kernel
theorem dX8_whole_73 : decode cX8_whole 73 = .ok (.iinc 3 1, 3) := by decide +kernel
theorem dX8_whole_76 : decode cX8_whole 76 = .ok (.goto (-35), 3) := by decide +kernel
theorem dX8_whole_79 : decode cX8_whole 79 = .ok (.return_, 1) := by decide +kernel
theorem dX8_isKind_0 : decode cX8_isKind 0 = .ok (.iload_n 1, 1) := by decide +kernel
theorem dX8_isKind_1 : decode cX8_isKind 1 = .ok (.iload_n 2, 1) := by decide +kernel
theorem dX8_isKind_2 : decode cX8_isKind 2 = .ok (.if_icmp .eq 28, 3) := by decide +kernel
theorem dX8_isKind_5 : decode cX8_isKind 5 = .ok (.iload_n 2, 1) := by decide +kernel
theorem dX8_isKind_6 : decode cX8_isKind 6 = .ok (.iconst 1, 1) := by decide +kernel
theorem dX8_isKind_7 : decode cX8_isKind 7 = .ok (.if_icmp .ne 13, 3) := by decide +kernel
theorem dX8_isKind_10 : decode cX8_isKind 10 = .ok (.iload_n 1, 1) := by decide +kernel
theorem dX8_isKind_11 : decode cX8_isKind 11 = .ok (.iconst 4, 1) := by decide +kernel
theorem dX8_isKind_12 : decode cX8_isKind 12 = .ok (.if_icmp .eq 18, 3) := by decide +kernel
theorem dX8_isKind_15 : decode cX8_isKind 15 = .ok (.iload_n 1, 1) := by decide +kernel
theorem dX8_isKind_16 : decode cX8_isKind 16 = .ok (.iconst 5, 1) := by decide +kernel
theorem dX8_isKind_17 : decode cX8_isKind 17 = .ok (.if_icmp .eq 13, 3) := by decide +kernel
theorem dX8_isKind_20 : decode cX8_isKind 20 = .ok (.iload_n 2, 1) := by decide +kernel
theorem dX8_isKind_21 : decode cX8_isKind 21 = .ok (.iconst 2, 1) := by decide +kernel
theorem dX8_isKind_22 : decode cX8_isKind 22 = .ok (.if_icmp .ne 12, 3) := by decide +kernel
theorem dX8_isKind_25 : decode cX8_isKind 25 = .ok (.iload_n 1, 1) := by decide +kernel
theorem dX8_isKind_26 : decode cX8_isKind 26 = .ok (.iconst 3, 1) := by decide +kernel
theorem dX8_isKind_27 : decode cX8_isKind 27 = .ok (.if_icmp .ne 7, 3) := by decide +kernel
theorem dX8_isKind_30 : decode cX8_isKind 30 = .ok (.iconst 1, 1) := by decide +kernel
theorem dX8_isKind_31 : decode cX8_isKind 31 = .ok (.goto 4, 3) := by decide +kernel
theorem dX8_isKind_34 : decode cX8_isKind 34 = .ok (.iconst 0, 1) := by decide +kernel
theorem dX8_isKind_35 : decode cX8_isKind 35 = .ok (.ireturn, 1) := by decide +kernel
theorem dX8_isAhead_0 : decode cX8_isAhead 0 = .ok (.aload_n 0, 1) := by decide +kernel
theorem dX8_isAhead_1 : decode cX8_isAhead 1 = .ok (.getfield 9, 3) := by decide +kernel
theorem dX8_isAhead_4 : decode cX8_isAhead 4 = .ok (.sipush 505, 3) := by decide +kernel
theorem dX8_isAhead_7 : decode cX8_isAhead 7 = .ok (.iaload, 1) := by decide +kernel
theorem dX8_isAhead_8 : decode cX8_isAhead 8 = .ok (.istore_n 3, 1) := by decide +kernel
theorem dX8_isAhead_9 : decode cX8_isAhead 9 = .ok (.aload_n 0, 1) := by decide +kernel
theorem dX8_isAhead_10 : decode cX8_isAhead 10 = .ok (.iload_n 3, 1) := by decide +kernel
theorem dX8_isAhead_11 : decode cX8_isAhead 11 = .ok (.iconst 1, 1) := by decide +kernel
theorem dX8_isAhead_12 : decode cX8_isAhead 12 = .ok (.invokevirtual 92, 3) := by decide +kernel
theorem dX8_isAhead_15 : decode cX8_isAhead 15 = .ok (.ifCond .eq 39, 3) := by decide +kernel
theorem dX8_isAhead_18 : decode cX8_isAhead 18 = .ok (.aload_n 0, 1) := by decide +kernel
theorem dX8_isAhead_19 : decode cX8_isAhead 19 = .ok (.getfield 34, 3) := by decide +kernel
theorem dX8_isAhead_22 : decode cX8_isAhead 22 = .ok (.iload_n 1, 1) := by decide +kernel
theorem dX8_isAhead_23 : decode cX8_isAhead 23 = .ok (.iaload, 1) := by decide +kernel
theorem dX8_isAhead_24 : decode cX8_isAhead 24 = .ok (.aload_n 0, 1) := by decide +kernel
theorem dX8_isAhead_25 : decode cX8_isAhead 25 = .ok (.getfield 34, 3) := by decide +kernel
theorem dX8_isAhead_28 : decode cX8_isAhead 28 = .ok (.iload_n 2, 1) := by decide +kernel
theorem dX8_isAhead_29 : decode cX8_isAhead 29 = .ok (.iaload, 1) := by decide +kernel
theorem dX8_isAhead_30 : decode cX8_isAhead 30 = .ok (.if_icmp .eq 24, 3) := by decide +kernel
theorem dX8_isAhead_33 : decode cX8_isAhead 33 = .ok (.aload_n 0, 1) := by decide +kernel
theorem dX8_isAhead_34 : decode cX8_isAhead 34 = .ok (.getfield 34, 3) := by decide +kernel
theorem dX8_isAhead_37 : decode cX8_isAhead 37 = .ok (.iload_n 1, 1) := by decide +kernel
theorem dX8_isAhead_38 : decode cX8_isAhead 38 = .ok (.iaload, 1) := by decide +kernel
theorem dX8_isAhead_39 : decode cX8_isAhead 39 = .ok (.aload_n 0, 1) := by decide +kernel
theorem dX8_isAhead_40 : decode cX8_isAhead 40 = .ok (.getfield 34, 3) := by decide +kernel
theorem dX8_isAhead_43 : decode cX8_isAhead 43 = .ok (.iload_n 2, 1) := by decide +kernel
theorem dX8_isAhead_44 : decode cX8_isAhead 44 = .ok (.iaload, 1) := by decide +kernel
theorem dX8_isAhead_45 : decode cX8_isAhead 45 = .ok (.if_icmp .le 7, 3) := by decide +kernel
theorem dX8_isAhead_48 : decode cX8_isAhead 48 = .ok (.iconst 1, 1) := by decide +kernel
theorem dX8_isAhead_49 : decode cX8_isAhead 49 = .ok (.goto 4, 3) := by decide +kernel
theorem dX8_isAhead_52 : decode cX8_isAhead 52 = .ok (.iconst 0, 1) := by decide +kernel
theorem dX8_isAhead_53 : decode cX8_isAhead 53 = .ok (.ireturn, 1) := by decide +kernel
theorem dX8_isAhead_54 : decode cX8_isAhead 54 = .ok (.aload_n 0, 1) := by decide +kernel
theorem dX8_isAhead_55 : decode cX8_isAhead 55 = .ok (.iload_n 3, 1) := by decide +kernel
theorem dX8_isAhead_56 : decode cX8_isAhead 56 = .ok (.iconst 2, 1) := by decide +kernel
theorem dX8_isAhead_57 : decode cX8_isAhead 57 = .ok (.invokevirtual 92, 3) := by decide +kernel
theorem dX8_isAhead_60 : decode cX8_isAhead 60 = .ok (.ifCond .eq 16, 3) := by decide +kernel
theorem dX8_isAhead_63 : decode cX8_isAhead 63 = .ok (.iload_n 1, 1) := by decide +kernel
theorem dX8_isAhead_64 : decode cX8_isAhead 64 = .ok (.iload_n 2, 1) := by decide +kernel
theorem dX8_isAhead_65 : decode cX8_isAhead 65 = .ok (.if_icmp .le 7, 3) := by decide +kernel
theorem dX8_isAhead_68 : decode cX8_isAhead 68 = .ok (.iconst 1, 1) := by decide +kernel
theorem dX8_isAhead_69 : decode cX8_isAhead 69 = .ok (.goto 17, 3) := by decide +kernel
theorem dX8_isAhead_72 : decode cX8_isAhead 72 = .ok (.iconst 0, 1) := by decide +kernel
theorem dX8_isAhead_73 : decode cX8_isAhead 73 = .ok (.goto 13, 3) := by decide +kernel
theorem dX8_isAhead_76 : decode cX8_isAhead 76 = .ok (.iload_n 1, 1) := by decide +kernel
theorem dX8_isAhead_77 : decode cX8_isAhead 77 = .ok (.iload_n 2, 1) := by decide +kernel
theorem dX8_isAhead_78 : decode cX8_isAhead 78 = .ok (.if_icmp .ge 7, 3) := by decide +kernel
theorem dX8_isAhead_81 : decode cX8_isAhead 81 = .ok (.iconst 1, 1) := by decide +kernel
theorem dX8_isAhead_82 : decode cX8_isAhead 82 = .ok (.goto 4, 3) := by decide +kernel
theorem dX8_isAhead_85 : decode cX8_isAhead 85 = .ok (.iconst 0, 1) := by decide +kernel
theorem dX8_isAhead_86 : decode cX8_isAhead 86 = .ok (.ireturn, 1) := by decide +kernel
theorem dX8_isParent_0 : decode cX8_isParent 0 = .ok (.aload_n 0, 1) := by decide +kernel
theorem dX8_isParent_1 : decode cX8_isParent 1 = .ok (.getfield 9, 3) := by decide +kernel
theorem dX8_isParent_4 : decode cX8_isParent 4 = .ok (.bipush 50, 2) := by decide +kernel
theorem dX8_isParent_6 : decode cX8_isParent 6 = .ok (.iload_n 2, 1) := by decide +kernel
theorem dX8_isParent_7 : decode cX8_isParent 7 = .ok (.imul, 1) := by decide +kernel
theorem dX8_isParent_8 : decode cX8_isParent 8 = .ok (.iconst 2, 1) := by decide +kernel
theorem dX8_isParent_9 : decode cX8_isParent 9 = .ok (.iadd, 1) := by decide +kernel
theorem dX8_isParent_10 : decode cX8_isParent 10 = .ok (.iaload, 1) := by decide +kernel
theorem dX8_isParent_11 : decode cX8_isParent 11 = .ok (.iload_n 1, 1) := by decide +kernel
theorem dX8_isParent_12 : decode cX8_isParent 12 = .ok (.if_icmp .eq 20, 3) := by decide +kernel
theorem dX8_isParent_15 : decode cX8_isParent 15 = .ok (.aload_n 0, 1) := by decide +kernel
theorem dX8_isParent_16 : decode cX8_isParent 16 = .ok (.getfield 9, 3) := by decide +kernel
theorem dX8_isParent_19 : decode cX8_isParent 19 = .ok (.bipush 50, 2) := by decide +kernel
theorem dX8_isParent_21 : decode cX8_isParent 21 = .ok (.iload_n 2, 1) := by decide +kernel
theorem dX8_isParent_22 : decode cX8_isParent 22 = .ok (.imul, 1) := by decide +kernel
theorem dX8_isParent_23 : decode cX8_isParent 23 = .ok (.iconst 2, 1) := by decide +kernel
theorem dX8_isParent_24 : decode cX8_isParent 24 = .ok (.iadd, 1) := by decide +kernel
theorem dX8_isParent_25 : decode cX8_isParent 25 = .ok (.iconst 1, 1) := by decide +kernel
theorem dX8_isParent_26 : decode cX8_isParent 26 = .ok (.iadd, 1) := by decide +kernel
theorem dX8_isParent_27 : decode cX8_isParent 27 = .ok (.iaload, 1) := by decide +kernel
theorem dX8_isParent_28 : decode cX8_isParent 28 = .ok (.iload_n 1, 1) := by decide +kernel
theorem dX8_isParent_29 : decode cX8_isParent 29 = .ok (.if_icmp .ne 7, 3) := by decide +kernel
theorem dX8_isParent_32 : decode cX8_isParent 32 = .ok (.iconst 1, 1) := by decide +kernel
theorem dX8_isParent_33 : decode cX8_isParent 33 = .ok (.goto 4, 3) := by decide +kernel
theorem dX8_isParent_36 : decode cX8_isParent 36 = .ok (.iconst 0, 1) := by decide +kernel
theorem dX8_isParent_37 : decode cX8_isParent 37 = .ok (.ireturn, 1) := by decide +kernel
theorem dX8_may_0 : decode cX8_may 0 = .ok (.aload_n 0, 1) := by decide +kernel
theorem dX8_may_1 : decode cX8_may 1 = .ok (.getfield 9, 3) := by decide +kernel
theorem dX8_may_4 : decode cX8_may 4 = .ok (.sipush 505, 3) := by decide +kernel
theorem dX8_may_7 : decode cX8_may 7 = .ok (.iaload, 1) := by decide +kernel
theorem dX8_may_8 : decode cX8_may 8 = .ok (.istore 5, 2) := by decide +kernel
theorem dX8_may_10 : decode cX8_may 10 = .ok (.iload 5, 2) := by decide +kernel
theorem dX8_may_12 : decode cX8_may 12 = .ok (.iconst 3, 1) := by decide +kernel
theorem dX8_may_13 : decode cX8_may 13 = .ok (.if_icmp .ne 29, 3) := by decide +kernel
theorem dX8_may_16 : decode cX8_may 16 = .ok (.aload_n 0, 1) := by decide +kernel
theorem dX8_may_17 : decode cX8_may 17 = .ok (.iload_n 1, 1) := by decide +kernel
theorem dX8_may_18 : decode cX8_may 18 = .ok (.iload_n 3, 1) := by decide +kernel
theorem dX8_may_19 : decode cX8_may 19 = .ok (.invokevirtual 96, 3) := by decide +kernel
theorem dX8_may_22 : decode cX8_may 22 = .ok (.ifCond .ne 12, 3) := by decide +kernel
theorem dX8_may_25 : decode cX8_may 25 = .ok (.aload_n 0, 1) := by decide +kernel
theorem dX8_may_26 : decode cX8_may 26 = .ok (.iload_n 3, 1) := by decide +kernel
theorem dX8_may_27 : decode cX8_may 27 = .ok (.iload_n 1, 1) := by decide +kernel
theorem dX8_may_28 : decode cX8_may 28 = .ok (.invokevirtual 96, 3) := by decide +kernel
theorem dX8_may_31 : decode cX8_may 31 = .ok (.ifCond .eq 7, 3) := by decide +kernel
theorem dX8_may_34 : decode cX8_may 34 = .ok (.iconst 1, 1) := by decide +kernel
theorem dX8_may_35 : decode cX8_may 35 = .ok (.goto 33, 3) := by decide +kernel
theorem dX8_may_38 : decode cX8_may 38 = .ok (.iconst 0, 1) := by decide +kernel
theorem dX8_may_39 : decode cX8_may 39 = .ok (.goto 29, 3) := by decide +kernel
theorem dX8_may_42 : decode cX8_may 42 = .ok (.iload 5, 2) := by decide +kernel
theorem dX8_may_44 : decode cX8_may 44 = .ok (.iconst 5, 1) := by decide +kernel
theorem dX8_may_45 : decode cX8_may 45 = .ok (.if_icmp .ne 18, 3) := by decide +kernel
theorem dX8_may_48 : decode cX8_may 48 = .ok (.iload 4, 2) := by decide +kernel
theorem dX8_may_50 : decode cX8_may 50 = .ok (.iload_n 2, 1) := by decide +kernel
theorem dX8_may_51 : decode cX8_may 51 = .ok (.isub, 1) := by decide +kernel
theorem dX8_may_52 : decode cX8_may 52 = .ok (.aload_n 0, 1) := by decide +kernel
theorem dX8_may_53 : decode cX8_may 53 = .ok (.getfield 9, 3) := by decide +kernel
theorem dX8_may_56 : decode cX8_may 56 = .ok (.sipush 506, 3) := by decide +kernel
theorem dX8_may_59 : decode cX8_may 59 = .ok (.iaload, 1) := by decide +kernel
theorem dX8_may_60 : decode cX8_may 60 = .ok (.if_icmp .gt 7, 3) := by decide +kernel
theorem dX8_may_63 : decode cX8_may 63 = .ok (.iconst 1, 1) := by decide +kernel
theorem dX8_may_64 : decode cX8_may 64 = .ok (.goto 4, 3) := by decide +kernel
theorem dX8_may_67 : decode cX8_may 67 = .ok (.iconst 0, 1) := by decide +kernel
theorem dX8_may_68 : decode cX8_may 68 = .ok (.ireturn, 1) := by decide +kernel
theorem dX8_repacks_0 : decode cX8_repacks 0 = .ok (.aload_n 0, 1) := by decide +kernel
theorem dX8_repacks_1 : decode cX8_repacks 1 = .ok (.invokevirtual 84, 3) := by decide +kernel
theorem dX8_repacks_4 : decode cX8_repacks 4 = .ok (.iconst 0, 1) := by decide +kernel
theorem dX8_repacks_5 : decode cX8_repacks 5 = .ok (.istore_n 1, 1) := by decide +kernel
theorem dX8_repacks_6 : decode cX8_repacks 6 = .ok (.iconst 0, 1) := by decide +kernel
theorem dX8_repacks_7 : decode cX8_repacks 7 = .ok (.istore_n 2, 1) := by decide +kernel
theorem dX8_repacks_8 : decode cX8_repacks 8 = .ok (.iload_n 2, 1) := by decide +kernel
theorem dX8_repacks_9 : decode cX8_repacks 9 = .ok (.bipush 10, 2) := by decide +kernel
theorem dX8_repacks_11 : decode cX8_repacks 11 = .ok (.if_icmp .ge 72, 3) := by decide +kernel
theorem dX8_repacks_14 : decode cX8_repacks 14 = .ok (.aload_n 0, 1) := by decide +kernel
theorem dX8_repacks_15 : decode cX8_repacks 15 = .ok (.iload_n 2, 1) := by decide +kernel
theorem dX8_repacks_16 : decode cX8_repacks 16 = .ok (.invokevirtual 59, 3) := by decide +kernel
theorem dX8_repacks_19 : decode cX8_repacks 19 = .ok (.ifCond .ne 6, 3) := by decide +kernel
theorem dX8_repacks_22 : decode cX8_repacks 22 = .ok (.goto 55, 3) := by decide +kernel
theorem dX8_repacks_25 : decode cX8_repacks 25 = .ok (.iload_n 1, 1) := by decide +kernel
theorem dX8_repacks_26 : decode cX8_repacks 26 = .ok (.istore_n 3, 1) := by decide +kernel
theorem dX8_repacks_27 : decode cX8_repacks 27 = .ok (.iload_n 3, 1) := by decide +kernel
theorem dX8_repacks_28 : decode cX8_repacks 28 = .ok (.ifCond .le 39, 3) := by decide +kernel
theorem dX8_repacks_31 : decode cX8_repacks 31 = .ok (.aload_n 0, 1) := by decide +kernel
theorem dX8_repacks_32 : decode cX8_repacks 32 = .ok (.iload_n 2, 1) := by decide +kernel
theorem dX8_repacks_33 : decode cX8_repacks 33 = .ok (.aload_n 0, 1) := by decide +kernel
theorem dX8_repacks_34 : decode cX8_repacks 34 = .ok (.getfield 40, 3) := by decide +kernel
theorem dX8_repacks_37 : decode cX8_repacks 37 = .ok (.iload_n 3, 1) := by decide +kernel
theorem dX8_repacks_38 : decode cX8_repacks 38 = .ok (.iconst 1, 1) := by decide +kernel
theorem dX8_repacks_39 : decode cX8_repacks 39 = .ok (.isub, 1) := by decide +kernel
theorem dX8_repacks_40 : decode cX8_repacks 40 = .ok (.iaload, 1) := by decide +kernel
theorem dX8_repacks_41 : decode cX8_repacks 41 = .ok (.invokevirtual 99, 3) := by decide +kernel
theorem dX8_repacks_44 : decode cX8_repacks 44 = .ok (.ifCond .eq 23, 3) := by decide +kernel
theorem dX8_repacks_47 : decode cX8_repacks 47 = .ok (.aload_n 0, 1) := by decide +kernel
theorem dX8_repacks_48 : decode cX8_repacks 48 = .ok (.getfield 40, 3) := by decide +kernel
theorem dX8_repacks_51 : decode cX8_repacks 51 = .ok (.iload_n 3, 1) := by decide +kernel
theorem dX8_repacks_52 : decode cX8_repacks 52 = .ok (.aload_n 0, 1) := by decide +kernel
theorem dX8_repacks_53 : decode cX8_repacks 53 = .ok (.getfield 40, 3) := by decide +kernel
theorem dX8_repacks_56 : decode cX8_repacks 56 = .ok (.iload_n 3, 1) := by decide +kernel
theorem dX8_repacks_57 : decode cX8_repacks 57 = .ok (.iconst 1, 1) := by decide +kernel
theorem dX8_repacks_58 : decode cX8_repacks 58 = .ok (.isub, 1) := by decide +kernel
theorem dX8_repacks_59 : decode cX8_repacks 59 = .ok (.iaload, 1) := by decide +kernel
theorem dX8_repacks_60 : decode cX8_repacks 60 = .ok (.iastore, 1) := by decide +kernel
theorem dX8_repacks_61 : decode cX8_repacks 61 = .ok (.iinc 3 (-1), 3) := by decide +kernel
theorem dX8_repacks_64 : decode cX8_repacks 64 = .ok (.goto (-37), 3) := by decide +kernel
theorem dX8_repacks_67 : decode cX8_repacks 67 = .ok (.aload_n 0, 1) := by decide +kernel
theorem dX8_repacks_68 : decode cX8_repacks 68 = .ok (.getfield 40, 3) := by decide +kernel
theorem dX8_repacks_71 : decode cX8_repacks 71 = .ok (.iload_n 3, 1) := by decide +kernel
theorem dX8_repacks_72 : decode cX8_repacks 72 = .ok (.iload_n 2, 1) := by decide +kernel
theorem dX8_repacks_73 : decode cX8_repacks 73 = .ok (.iastore, 1) := by decide +kernel
theorem dX8_repacks_74 : decode cX8_repacks 74 = .ok (.iinc 1 1, 3) := by decide +kernel
theorem dX8_repacks_77 : decode cX8_repacks 77 = .ok (.iinc 2 1, 3) := by decide +kernel
theorem dX8_repacks_80 : decode cX8_repacks 80 = .ok (.goto (-72), 3) := by decide +kernel
theorem dX8_repacks_83 : decode cX8_repacks 83 = .ok (.aload_n 0, 1) := by decide +kernel
theorem dX8_repacks_84 : decode cX8_repacks 84 = .ok (.getfield 9, 3) := by decide +kernel
theorem dX8_repacks_87 : decode cX8_repacks 87 = .ok (.sipush 505, 3) := by decide +kernel
theorem dX8_repacks_90 : decode cX8_repacks 90 = .ok (.iaload, 1) := by decide +kernel
theorem dX8_repacks_91 : decode cX8_repacks 91 = .ok (.iconst 4, 1) := by decide +kernel
theorem dX8_repacks_92 : decode cX8_repacks 92 = .ok (.if_icmp .ne 16, 3) := by decide +kernel
theorem dX8_repacks_95 : decode cX8_repacks 95 = .ok (.aload_n 0, 1) := by decide +kernel
theorem dX8_repacks_96 : decode cX8_repacks 96 = .ok (.getfield 9, 3) := by decide +kernel
theorem dX8_repacks_99 : decode cX8_repacks 99 = .ok (.sipush 506, 3) := by decide +kernel
theorem dX8_repacks_102 : decode cX8_repacks 102 = .ok (.iaload, 1) := by decide +kernel
theorem dX8_repacks_103 : decode cX8_repacks 103 = .ok (.iconst 1, 1) := by decide +kernel
theorem dX8_repacks_104 : decode cX8_repacks 104 = .ok (.iadd, 1) := by decide +kernel
theorem dX8_repacks_105 : decode cX8_repacks 105 = .ok (.goto 4, 3) := by decide +kernel
theorem dX8_repacks_108 : decode cX8_repacks 108 = .ok (.iconst 1, 1) := by decide +kernel
theorem dX8_repacks_109 : decode cX8_repacks 109 = .ok (.istore_n 2, 1) := by decide +kernel
theorem dX8_repacks_110 : decode cX8_repacks 110 = .ok (.iconst 0, 1) := by decide +kernel
theorem dX8_repacks_111 : decode cX8_repacks 111 = .ok (.istore_n 3, 1) := by decide +kernel
theorem dX8_repacks_112 : decode cX8_repacks 112 = .ok (.iload_n 3, 1) := by decide +kernel
theorem dX8_repacks_113 : decode cX8_repacks 113 = .ok (.iload_n 1, 1) := by decide +kernel
theorem dX8_repacks_114 : decode cX8_repacks 114 = .ok (.if_icmp .ge 189, 3) := by decide +kernel
theorem dX8_repacks_117 : decode cX8_repacks 117 = .ok (.aload_n 0, 1) := by decide +kernel
theorem dX8_repacks_118 : decode cX8_repacks 118 = .ok (.getfield 40, 3) := by decide +kernel
theorem dX8_repacks_121 : decode cX8_repacks 121 = .ok (.iload_n 3, 1) := by decide +kernel
theorem dX8_repacks_122 : decode cX8_repacks 122 = .ok (.iaload, 1) := by decide +kernel
theorem dX8_repacks_123 : decode cX8_repacks 123 = .ok (.istore 4, 2) := by decide +kernel
theorem dX8_repacks_125 : decode cX8_repacks 125 = .ok (.bipush (-9), 2) := by decide +kernel
theorem dX8_repacks_127 : decode cX8_repacks 127 = .ok (.istore 5, 2) := by decide +kernel
theorem dX8_repacks_129 : decode cX8_repacks 129 = .ok (.iconst 0, 1) := by decide +kernel
theorem dX8_repacks_130 : decode cX8_repacks 130 = .ok (.istore 6, 2) := by decide +kernel
theorem dX8_repacks_132 : decode cX8_repacks 132 = .ok (.iconst 0, 1) := by decide +kernel
theorem dX8_repacks_133 : decode cX8_repacks 133 = .ok (.istore 7, 2) := by decide +kernel
theorem dX8_repacks_135 : decode cX8_repacks 135 = .ok (.iload 7, 2) := by decide +kernel
theorem dX8_repacks_137 : decode cX8_repacks 137 = .ok (.iload_n 3, 1) := by decide +kernel
theorem dX8_repacks_138 : decode cX8_repacks 138 = .ok (.if_icmp .ge 85, 3) := by decide +kernel
theorem dX8_repacks_141 : decode cX8_repacks 141 = .ok (.aload_n 0, 1) := by decide +kernel
theorem dX8_repacks_142 : decode cX8_repacks 142 = .ok (.getfield 40, 3) := by decide +kernel
theorem dX8_repacks_145 : decode cX8_repacks 145 = .ok (.iload 7, 2) := by decide +kernel
theorem dX8_repacks_147 : decode cX8_repacks 147 = .ok (.iaload, 1) := by decide +kernel
theorem dX8_repacks_148 : decode cX8_repacks 148 = .ok (.istore 8, 2) := by decide +kernel
theorem dX8_repacks_150 : decode cX8_repacks 150 = .ok (.aload_n 0, 1) := by decide +kernel
theorem dX8_repacks_151 : decode cX8_repacks 151 = .ok (.iload 8, 2) := by decide +kernel
theorem dX8_repacks_153 : decode cX8_repacks 153 = .ok (.iload 7, 2) := by decide +kernel
theorem dX8_repacks_155 : decode cX8_repacks 155 = .ok (.iload 4, 2) := by decide +kernel
theorem dX8_repacks_157 : decode cX8_repacks 157 = .ok (.iload_n 3, 1) := by decide +kernel
theorem dX8_repacks_158 : decode cX8_repacks 158 = .ok (.invokevirtual 102, 3) := by decide +kernel
theorem dX8_repacks_161 : decode cX8_repacks 161 = .ok (.ifCond .eq 56, 3) := by decide +kernel
theorem dX8_repacks_164 : decode cX8_repacks 164 = .ok (.aload_n 0, 1) := by decide +kernel
theorem dX8_repacks_165 : decode cX8_repacks 165 = .ok (.getfield 43, 3) := by decide +kernel
theorem dX8_repacks_168 : decode cX8_repacks 168 = .ok (.iload 8, 2) := by decide +kernel
theorem dX8_repacks_170 : decode cX8_repacks 170 = .ok (.iaload, 1) := by decide +kernel
theorem dX8_repacks_171 : decode cX8_repacks 171 = .ok (.aload_n 0, 1) := by decide +kernel
theorem dX8_repacks_172 : decode cX8_repacks 172 = .ok (.getfield 9, 3) := by decide +kernel
theorem dX8_repacks_175 : decode cX8_repacks 175 = .ok (.sipush 507, 3) := by decide +kernel
theorem dX8_repacks_178 : decode cX8_repacks 178 = .ok (.iaload, 1) := by decide +kernel
theorem dX8_repacks_179 : decode cX8_repacks 179 = .ok (.if_icmp .lt 6, 3) := by decide +kernel
theorem dX8_repacks_182 : decode cX8_repacks 182 = .ok (.goto 35, 3) := by decide +kernel
theorem dX8_repacks_185 : decode cX8_repacks 185 = .ok (.aload_n 0, 1) := by decide +kernel
theorem dX8_repacks_186 : decode cX8_repacks 186 = .ok (.iload 8, 2) := by decide +kernel
theorem dX8_repacks_188 : decode cX8_repacks 188 = .ok (.iload 4, 2) := by decide +kernel
theorem dX8_repacks_190 : decode cX8_repacks 190 = .ok (.invokevirtual 106, 3) := by decide +kernel
theorem dX8_repacks_193 : decode cX8_repacks 193 = .ok (.istore 9, 2) := by decide +kernel
theorem dX8_repacks_195 : decode cX8_repacks 195 = .ok (.iload 5, 2) := by decide +kernel
theorem dX8_repacks_197 : decode cX8_repacks 197 = .ok (.bipush (-9), 2) := by decide +kernel
theorem dX8_repacks_199 : decode cX8_repacks 199 = .ok (.if_icmp .eq 10, 3) := by decide +kernel
theorem dX8_repacks_202 : decode cX8_repacks 202 = .ok (.iload 9, 2) := by decide +kernel
theorem dX8_repacks_204 : decode cX8_repacks 204 = .ok (.iload 6, 2) := by decide +kernel
theorem dX8_repacks_206 : decode cX8_repacks 206 = .ok (.if_icmp .ge 11, 3) := by decide +kernel
theorem dX8_repacks_209 : decode cX8_repacks 209 = .ok (.iload 8, 2) := by decide +kernel
theorem dX8_repacks_211 : decode cX8_repacks 211 = .ok (.istore 5, 2) := by decide +kernel
theorem dX8_repacks_213 : decode cX8_repacks 213 = .ok (.iload 9, 2) := by decide +kernel
theorem dX8_repacks_215 : decode cX8_repacks 215 = .ok (.istore 6, 2) := by decide +kernel
theorem dX8_repacks_217 : decode cX8_repacks 217 = .ok (.iinc 7 1, 3) := by decide +kernel
theorem dX8_repacks_220 : decode cX8_repacks 220 = .ok (.goto (-85), 3) := by decide +kernel
theorem dX8_repacks_223 : decode cX8_repacks 223 = .ok (.aload_n 0, 1) := by decide +kernel
theorem dX8_repacks_224 : decode cX8_repacks 224 = .ok (.getfield 46, 3) := by decide +kernel
theorem dX8_repacks_227 : decode cX8_repacks 227 = .ok (.iload 4, 2) := by decide +kernel
theorem dX8_repacks_229 : decode cX8_repacks 229 = .ok (.iload 5, 2) := by decide +kernel
theorem dX8_repacks_231 : decode cX8_repacks 231 = .ok (.bipush (-9), 2) := by decide +kernel
theorem dX8_repacks_233 : decode cX8_repacks 233 = .ok (.if_icmp .eq 24, 3) := by decide +kernel
theorem dX8_repacks_236 : decode cX8_repacks 236 = .ok (.iconst 1, 1) := by decide +kernel
theorem dX8_repacks_237 : decode cX8_repacks 237 = .ok (.aload_n 0, 1) := by decide +kernel
theorem dX8_repacks_238 : decode cX8_repacks 238 = .ok (.getfield 34, 3) := by decide +kernel
theorem dX8_repacks_241 : decode cX8_repacks 241 = .ok (.iload 4, 2) := by decide +kernel
theorem dX8_repacks_243 : decode cX8_repacks 243 = .ok (.iaload, 1) := by decide +kernel
theorem dX8_repacks_244 : decode cX8_repacks 244 = .ok (.iadd, 1) := by decide +kernel
theorem dX8_repacks_245 : decode cX8_repacks 245 = .ok (.iload 6, 2) := by decide +kernel
theorem dX8_repacks_247 : decode cX8_repacks 247 = .ok (.isub, 1) := by decide +kernel
theorem dX8_repacks_248 : decode cX8_repacks 248 = .ok (.iload_n 2, 1) := by decide +kernel
theorem dX8_repacks_249 : decode cX8_repacks 249 = .ok (.if_icmp .lt 8, 3) := by decide +kernel
theorem dX8_repacks_252 : decode cX8_repacks 252 = .ok (.iload 5, 2) := by decide +kernel
theorem dX8_repacks_254 : decode cX8_repacks 254 = .ok (.goto 5, 3) := by decide +kernel
theorem dX8_repacks_257 : decode cX8_repacks 257 = .ok (.bipush (-9), 2) := by decide +kernel
theorem dX8_repacks_259 : decode cX8_repacks 259 = .ok (.iastore, 1) := by decide +kernel
theorem dX8_repacks_260 : decode cX8_repacks 260 = .ok (.aload_n 0, 1) := by decide +kernel
theorem dX8_repacks_261 : decode cX8_repacks 261 = .ok (.getfield 43, 3) := by decide +kernel
theorem dX8_repacks_264 : decode cX8_repacks 264 = .ok (.iload 4, 2) := by decide +kernel
theorem dX8_repacks_266 : decode cX8_repacks 266 = .ok (.aload_n 0, 1) := by decide +kernel
theorem dX8_repacks_267 : decode cX8_repacks 267 = .ok (.getfield 46, 3) := by decide +kernel
theorem dX8_repacks_270 : decode cX8_repacks 270 = .ok (.iload 4, 2) := by decide +kernel
theorem dX8_repacks_272 : decode cX8_repacks 272 = .ok (.iaload, 1) := by decide +kernel
theorem dX8_repacks_273 : decode cX8_repacks 273 = .ok (.bipush (-9), 2) := by decide +kernel
theorem dX8_repacks_275 : decode cX8_repacks 275 = .ok (.if_icmp .ne 7, 3) := by decide +kernel
theorem dX8_repacks_278 : decode cX8_repacks 278 = .ok (.iconst 0, 1) := by decide +kernel
theorem dX8_repacks_279 : decode cX8_repacks 279 = .ok (.goto 17, 3) := by decide +kernel
theorem dX8_repacks_282 : decode cX8_repacks 282 = .ok (.aload_n 0, 1) := by decide +kernel
theorem dX8_repacks_283 : decode cX8_repacks 283 = .ok (.getfield 43, 3) := by decide +kernel
theorem dX8_repacks_286 : decode cX8_repacks 286 = .ok (.aload_n 0, 1) := by decide +kernel
theorem dX8_repacks_287 : decode cX8_repacks 287 = .ok (.getfield 46, 3) := by decide +kernel
theorem dX8_repacks_290 : decode cX8_repacks 290 = .ok (.iload 4, 2) := by decide +kernel
theorem dX8_repacks_292 : decode cX8_repacks 292 = .ok (.iaload, 1) := by decide +kernel
theorem dX8_repacks_293 : decode cX8_repacks 293 = .ok (.iaload, 1) := by decide +kernel
theorem dX8_repacks_294 : decode cX8_repacks 294 = .ok (.iconst 1, 1) := by decide +kernel
theorem dX8_repacks_295 : decode cX8_repacks 295 = .ok (.iadd, 1) := by decide +kernel
theorem dX8_repacks_296 : decode cX8_repacks 296 = .ok (.iastore, 1) := by decide +kernel
theorem dX8_repacks_297 : decode cX8_repacks 297 = .ok (.iinc 3 1, 3) := by decide +kernel
theorem dX8_repacks_300 : decode cX8_repacks 300 = .ok (.goto (-188), 3) := by decide +kernel
theorem dX8_repacks_303 : decode cX8_repacks 303 = .ok (.iconst 0, 1) := by decide +kernel
theorem dX8_repacks_304 : decode cX8_repacks 304 = .ok (.istore_n 3, 1) := by decide +kernel
theorem dX8_repacks_305 : decode cX8_repacks 305 = .ok (.iload_n 3, 1) := by decide +kernel
theorem dX8_repacks_306 : decode cX8_repacks 306 = .ok (.iload_n 1, 1) := by decide +kernel
theorem dX8_repacks_307 : decode cX8_repacks 307 = .ok (.if_icmp .ge 129, 3) := by decide +kernel
theorem dX8_repacks_310 : decode cX8_repacks 310 = .ok (.aload_n 0, 1) := by decide +kernel
theorem dX8_repacks_311 : decode cX8_repacks 311 = .ok (.getfield 40, 3) := by decide +kernel
theorem dX8_repacks_314 : decode cX8_repacks 314 = .ok (.iload_n 3, 1) := by decide +kernel
theorem dX8_repacks_315 : decode cX8_repacks 315 = .ok (.iaload, 1) := by decide +kernel
theorem dX8_repacks_316 : decode cX8_repacks 316 = .ok (.istore 4, 2) := by decide +kernel
theorem dX8_repacks_318 : decode cX8_repacks 318 = .ok (.aload_n 0, 1) := by decide +kernel
theorem dX8_repacks_319 : decode cX8_repacks 319 = .ok (.getfield 46, 3) := by decide +kernel
theorem dX8_repacks_322 : decode cX8_repacks 322 = .ok (.iload 4, 2) := by decide +kernel
theorem dX8_repacks_324 : decode cX8_repacks 324 = .ok (.iaload, 1) := by decide +kernel
theorem dX8_repacks_325 : decode cX8_repacks 325 = .ok (.bipush (-9), 2) := by decide +kernel
theorem dX8_repacks_327 : decode cX8_repacks 327 = .ok (.if_icmp .ne 12, 3) := by decide +kernel
theorem dX8_repacks_330 : decode cX8_repacks 330 = .ok (.aload_n 0, 1) := by decide +kernel
theorem dX8_repacks_331 : decode cX8_repacks 331 = .ok (.iload 4, 2) := by decide +kernel
theorem dX8_repacks_333 : decode cX8_repacks 333 = .ok (.invokevirtual 109, 3) := by decide +kernel
theorem dX8_repacks_336 : decode cX8_repacks 336 = .ok (.goto 94, 3) := by decide +kernel
theorem dX8_repacks_339 : decode cX8_repacks 339 = .ok (.aload_n 0, 1) := by decide +kernel
theorem dX8_repacks_340 : decode cX8_repacks 340 = .ok (.aload_n 0, 1) := by decide +kernel
theorem dX8_repacks_341 : decode cX8_repacks 341 = .ok (.getfield 46, 3) := by decide +kernel
theorem dX8_repacks_344 : decode cX8_repacks 344 = .ok (.iload 4, 2) := by decide +kernel
theorem dX8_repacks_346 : decode cX8_repacks 346 = .ok (.iaload, 1) := by decide +kernel
theorem dX8_repacks_347 : decode cX8_repacks 347 = .ok (.iload 4, 2) := by decide +kernel
theorem dX8_repacks_349 : decode cX8_repacks 349 = .ok (.invokevirtual 106, 3) := by decide +kernel
theorem dX8_repacks_352 : decode cX8_repacks 352 = .ok (.pop, 1) := by decide +kernel
theorem dX8_repacks_353 : decode cX8_repacks 353 = .ok (.bipush 50, 2) := by decide +kernel
theorem dX8_repacks_355 : decode cX8_repacks 355 = .ok (.iload 4, 2) := by decide +kernel
theorem dX8_repacks_357 : decode cX8_repacks 357 = .ok (.imul, 1) := by decide +kernel
theorem dX8_repacks_358 : decode cX8_repacks 358 = .ok (.istore 5, 2) := by decide +kernel
theorem dX8_repacks_360 : decode cX8_repacks 360 = .ok (.aload_n 0, 1) := by decide +kernel
theorem dX8_repacks_361 : decode cX8_repacks 361 = .ok (.getfield 9, 3) := by decide +kernel
theorem dX8_repacks_364 : decode cX8_repacks 364 = .ok (.iload 5, 2) := by decide +kernel
theorem dX8_repacks_366 : decode cX8_repacks 366 = .ok (.iconst 4, 1) := by decide +kernel
theorem dX8_repacks_367 : decode cX8_repacks 367 = .ok (.iadd, 1) := by decide +kernel
theorem dX8_repacks_368 : decode cX8_repacks 368 = .ok (.aload_n 0, 1) := by decide +kernel
theorem dX8_repacks_369 : decode cX8_repacks 369 = .ok (.getfield 46, 3) := by decide +kernel
theorem dX8_repacks_372 : decode cX8_repacks 372 = .ok (.iload 4, 2) := by decide +kernel
theorem dX8_repacks_374 : decode cX8_repacks 374 = .ok (.iaload, 1) := by decide +kernel
theorem dX8_repacks_375 : decode cX8_repacks 375 = .ok (.iastore, 1) := by decide +kernel
theorem dX8_repacks_376 : decode cX8_repacks 376 = .ok (.aload_n 0, 1) := by decide +kernel
theorem dX8_repacks_377 : decode cX8_repacks 377 = .ok (.getfield 9, 3) := by decide +kernel
theorem dX8_repacks_380 : decode cX8_repacks 380 = .ok (.iload 5, 2) := by decide +kernel
theorem dX8_repacks_382 : decode cX8_repacks 382 = .ok (.bipush 18, 2) := by decide +kernel
theorem dX8_repacks_384 : decode cX8_repacks 384 = .ok (.iadd, 1) := by decide +kernel
theorem dX8_repacks_385 : decode cX8_repacks 385 = .ok (.aload_n 0, 1) := by decide +kernel
theorem dX8_repacks_386 : decode cX8_repacks 386 = .ok (.getfield 73, 3) := by decide +kernel
theorem dX8_repacks_389 : decode cX8_repacks 389 = .ok (.iastore, 1) := by decide +kernel
theorem dX8_repacks_390 : decode cX8_repacks 390 = .ok (.iconst 0, 1) := by decide +kernel
theorem dX8_repacks_391 : decode cX8_repacks 391 = .ok (.istore 6, 2) := by decide +kernel
theorem dX8_repacks_393 : decode cX8_repacks 393 = .ok (.iload 6, 2) := by decide +kernel
theorem dX8_repacks_395 : decode cX8_repacks 395 = .ok (.iconst 2, 1) := by decide +kernel
theorem dX8_repacks_396 : decode cX8_repacks 396 = .ok (.aload_n 0, 1) := by decide +kernel
theorem dX8_repacks_397 : decode cX8_repacks 397 = .ok (.getfield 73, 3) := by decide +kernel
theorem dX8_repacks_400 : decode cX8_repacks 400 = .ok (.imul, 1) := by decide +kernel
theorem dX8_repacks_401 : decode cX8_repacks 401 = .ok (.if_icmp .ge 29, 3) := by decide +kernel
theorem dX8_repacks_404 : decode cX8_repacks 404 = .ok (.aload_n 0, 1) := by decide +kernel
theorem dX8_repacks_405 : decode cX8_repacks 405 = .ok (.getfield 9, 3) := by decide +kernel
theorem dX8_repacks_408 : decode cX8_repacks 408 = .ok (.iload 5, 2) := by decide +kernel
theorem dX8_repacks_410 : decode cX8_repacks 410 = .ok (.bipush 20, 2) := by decide +kernel
theorem dX8_repacks_412 : decode cX8_repacks 412 = .ok (.iadd, 1) := by decide +kernel
theorem dX8_repacks_413 : decode cX8_repacks 413 = .ok (.iload 6, 2) := by decide +kernel
theorem dX8_repacks_415 : decode cX8_repacks 415 = .ok (.iadd, 1) := by decide +kernel
theorem dX8_repacks_416 : decode cX8_repacks 416 = .ok (.aload_n 0, 1) := by decide +kernel
theorem dX8_repacks_417 : decode cX8_repacks 417 = .ok (.getfield 37, 3) := by decide +kernel
theorem dX8_repacks_420 : decode cX8_repacks 420 = .ok (.iload 6, 2) := by decide +kernel
theorem dX8_repacks_422 : decode cX8_repacks 422 = .ok (.iaload, 1) := by decide +kernel
theorem dX8_repacks_423 : decode cX8_repacks 423 = .ok (.iastore, 1) := by decide +kernel
theorem dX8_repacks_424 : decode cX8_repacks 424 = .ok (.iinc 6 1, 3) := by decide +kernel
theorem dX8_repacks_427 : decode cX8_repacks 427 = .ok (.goto (-34), 3) := by decide +kernel
theorem dX8_repacks_430 : decode cX8_repacks 430 = .ok (.iinc 3 1, 3) := by decide +kernel
theorem dX8_repacks_433 : decode cX8_repacks 433 = .ok (.goto (-128), 3) := by decide +kernel
theorem dX8_repacks_436 : decode cX8_repacks 436 = .ok (.aload_n 0, 1) := by decide +kernel
theorem dX8_repacks_437 : decode cX8_repacks 437 = .ok (.invokevirtual 112, 3) := by decide +kernel
theorem dX8_repacks_440 : decode cX8_repacks 440 = .ok (.ireturn, 1) := by decide +kernel
theorem dX8_comes_0 : decode cX8_comes 0 = .ok (.aload_n 0, 1) := by decide +kernel
theorem dX8_comes_1 : decode cX8_comes 1 = .ok (.getfield 9, 3) := by decide +kernel
theorem dX8_comes_4 : decode cX8_comes 4 = .ok (.sipush 500, 3) := by decide +kernel
theorem dX8_comes_7 : decode cX8_comes 7 = .ok (.iaload, 1) := by decide +kernel
theorem dX8_comes_8 : decode cX8_comes 8 = .ok (.istore_n 3, 1) := by decide +kernel
theorem dX8_comes_9 : decode cX8_comes 9 = .ok (.bipush 50, 2) := by decide +kernel
theorem dX8_comes_11 : decode cX8_comes 11 = .ok (.iload_n 3, 1) := by decide +kernel
theorem dX8_comes_12 : decode cX8_comes 12 = .ok (.imul, 1) := by decide +kernel
theorem dX8_comes_13 : decode cX8_comes 13 = .ok (.istore 4, 2) := by decide +kernel
theorem dX8_comes_15 : decode cX8_comes 15 = .ok (.iconst 0, 1) := by decide +kernel
theorem dX8_comes_16 : decode cX8_comes 16 = .ok (.istore 5, 2) := by decide +kernel
theorem dX8_comes_18 : decode cX8_comes 18 = .ok (.iload 5, 2) := by decide +kernel
theorem dX8_comes_20 : decode cX8_comes 20 = .ok (.bipush 50, 2) := by decide +kernel
theorem dX8_comes_22 : decode cX8_comes 22 = .ok (.if_icmp .ge 20, 3) := by decide +kernel
theorem dX8_comes_25 : decode cX8_comes 25 = .ok (.aload_n 0, 1) := by decide +kernel
theorem dX8_comes_26 : decode cX8_comes 26 = .ok (.getfield 9, 3) := by decide +kernel
theorem dX8_comes_29 : decode cX8_comes 29 = .ok (.iload 4, 2) := by decide +kernel
theorem dX8_comes_31 : decode cX8_comes 31 = .ok (.iload 5, 2) := by decide +kernel
theorem dX8_comes_33 : decode cX8_comes 33 = .ok (.iadd, 1) := by decide +kernel
theorem dX8_comes_34 : decode cX8_comes 34 = .ok (.iconst 0, 1) := by decide +kernel
theorem dX8_comes_35 : decode cX8_comes 35 = .ok (.iastore, 1) := by decide +kernel
theorem dX8_comes_36 : decode cX8_comes 36 = .ok (.iinc 5 1, 3) := by decide +kernel
theorem dX8_comes_39 : decode cX8_comes 39 = .ok (.goto (-21), 3) := by decide +kernel
theorem dX8_comes_42 : decode cX8_comes 42 = .ok (.aload_n 0, 1) := by decide +kernel
theorem dX8_comes_43 : decode cX8_comes 43 = .ok (.getfield 9, 3) := by decide +kernel
theorem dX8_comes_46 : decode cX8_comes 46 = .ok (.iload 4, 2) := by decide +kernel
theorem dX8_comes_48 : decode cX8_comes 48 = .ok (.iconst 0, 1) := by decide +kernel
theorem dX8_comes_49 : decode cX8_comes 49 = .ok (.iadd, 1) := by decide +kernel
theorem dX8_comes_50 : decode cX8_comes 50 = .ok (.iconst 1, 1) := by decide +kernel
theorem dX8_comes_51 : decode cX8_comes 51 = .ok (.iastore, 1) := by decide +kernel
theorem dX8_comes_52 : decode cX8_comes 52 = .ok (.aload_n 0, 1) := by decide +kernel
theorem dX8_comes_53 : decode cX8_comes 53 = .ok (.getfield 9, 3) := by decide +kernel
theorem dX8_comes_56 : decode cX8_comes 56 = .ok (.iload 4, 2) := by decide +kernel
theorem dX8_comes_58 : decode cX8_comes 58 = .ok (.iconst 2, 1) := by decide +kernel
theorem dX8_comes_59 : decode cX8_comes 59 = .ok (.iadd, 1) := by decide +kernel
theorem dX8_comes_60 : decode cX8_comes 60 = .ok (.iload_n 1, 1) := by decide +kernel
theorem dX8_comes_61 : decode cX8_comes 61 = .ok (.iastore, 1) := by decide +kernel
theorem dX8_comes_62 : decode cX8_comes 62 = .ok (.aload_n 0, 1) := by decide +kernel
theorem dX8_comes_63 : decode cX8_comes 63 = .ok (.getfield 9, 3) := by decide +kernel
theorem dX8_comes_66 : decode cX8_comes 66 = .ok (.iload 4, 2) := by decide +kernel
theorem dX8_comes_68 : decode cX8_comes 68 = .ok (.iconst 2, 1) := by decide +kernel
theorem dX8_comes_69 : decode cX8_comes 69 = .ok (.iadd, 1) := by decide +kernel
theorem dX8_comes_70 : decode cX8_comes 70 = .ok (.iconst 1, 1) := by decide +kernel
theorem dX8_comes_71 : decode cX8_comes 71 = .ok (.iadd, 1) := by decide +kernel
theorem dX8_comes_72 : decode cX8_comes 72 = .ok (.iload_n 2, 1) := by decide +kernel
theorem dX8_comes_73 : decode cX8_comes 73 = .ok (.iastore, 1) := by decide +kernel
theorem dX8_comes_74 : decode cX8_comes 74 = .ok (.aload_n 0, 1) := by decide +kernel
theorem dX8_comes_75 : decode cX8_comes 75 = .ok (.getfield 9, 3) := by decide +kernel
theorem dX8_comes_78 : decode cX8_comes 78 = .ok (.iload 4, 2) := by decide +kernel
theorem dX8_comes_80 : decode cX8_comes 80 = .ok (.iconst 4, 1) := by decide +kernel
theorem dX8_comes_81 : decode cX8_comes 81 = .ok (.iadd, 1) := by decide +kernel
theorem dX8_comes_82 : decode cX8_comes 82 = .ok (.bipush (-9), 2) := by decide +kernel
theorem dX8_comes_84 : decode cX8_comes 84 = .ok (.iastore, 1) := by decide +kernel
theorem dX8_comes_85 : decode cX8_comes 85 = .ok (.aload_n 0, 1) := by decide +kernel
theorem dX8_comes_86 : decode cX8_comes 86 = .ok (.getfield 9, 3) := by decide +kernel
theorem dX8_comes_89 : decode cX8_comes 89 = .ok (.sipush 500, 3) := by decide +kernel
theorem dX8_comes_92 : decode cX8_comes 92 = .ok (.dup2, 1) := by decide +kernel
theorem dX8_comes_93 : decode cX8_comes 93 = .ok (.iaload, 1) := by decide +kernel
theorem dX8_comes_94 : decode cX8_comes 94 = .ok (.iconst 1, 1) := by decide +kernel
theorem dX8_comes_95 : decode cX8_comes 95 = .ok (.iadd, 1) := by decide +kernel
theorem dX8_comes_96 : decode cX8_comes 96 = .ok (.iastore, 1) := by decide +kernel
theorem dX8_comes_97 : decode cX8_comes 97 = .ok (.iload_n 3, 1) := by decide +kernel
theorem dX8_comes_98 : decode cX8_comes 98 = .ok (.ireturn, 1) := by decide +kernel
theorem dX8_adds_0 : decode cX8_adds 0 = .ok (.aload_n 0, 1) := by decide +kernel
theorem dX8_adds_1 : decode cX8_adds 1 = .ok (.getfield 9, 3) := by decide +kernel
theorem dX8_adds_4 : decode cX8_adds 4 = .ok (.bipush 50, 2) := by decide +kernel
theorem dX8_adds_6 : decode cX8_adds 6 = .ok (.iload_n 1, 1) := by decide +kernel
theorem dX8_adds_7 : decode cX8_adds 7 = .ok (.imul, 1) := by decide +kernel
theorem dX8_adds_8 : decode cX8_adds 8 = .ok (.bipush 6, 2) := by decide +kernel
theorem dX8_adds_10 : decode cX8_adds 10 = .ok (.iadd, 1) := by decide +kernel
theorem dX8_adds_11 : decode cX8_adds 11 = .ok (.aload_n 0, 1) := by decide +kernel
theorem dX8_adds_12 : decode cX8_adds 12 = .ok (.getfield 9, 3) := by decide +kernel
theorem dX8_adds_15 : decode cX8_adds 15 = .ok (.bipush 50, 2) := by decide +kernel
theorem dX8_adds_17 : decode cX8_adds 17 = .ok (.iload_n 1, 1) := by decide +kernel
theorem dX8_adds_18 : decode cX8_adds 18 = .ok (.imul, 1) := by decide +kernel
theorem dX8_adds_19 : decode cX8_adds 19 = .ok (.iconst 5, 1) := by decide +kernel
theorem dX8_adds_20 : decode cX8_adds 20 = .ok (.iadd, 1) := by decide +kernel
theorem dX8_adds_21 : decode cX8_adds 21 = .ok (.iaload, 1) := by decide +kernel
theorem dX8_adds_22 : decode cX8_adds 22 = .ok (.iadd, 1) := by decide +kernel
theorem dX8_adds_23 : decode cX8_adds 23 = .ok (.iload_n 2, 1) := by decide +kernel
theorem dX8_adds_24 : decode cX8_adds 24 = .ok (.iastore, 1) := by decide +kernel
theorem dX8_adds_25 : decode cX8_adds 25 = .ok (.aload_n 0, 1) := by decide +kernel
theorem dX8_adds_26 : decode cX8_adds 26 = .ok (.getfield 9, 3) := by decide +kernel
theorem dX8_adds_29 : decode cX8_adds 29 = .ok (.bipush 50, 2) := by decide +kernel
theorem dX8_adds_31 : decode cX8_adds 31 = .ok (.iload_n 1, 1) := by decide +kernel
theorem dX8_adds_32 : decode cX8_adds 32 = .ok (.imul, 1) := by decide +kernel
theorem dX8_adds_33 : decode cX8_adds 33 = .ok (.iconst 5, 1) := by decide +kernel
theorem dX8_adds_34 : decode cX8_adds 34 = .ok (.iadd, 1) := by decide +kernel
theorem dX8_adds_35 : decode cX8_adds 35 = .ok (.dup2, 1) := by decide +kernel
theorem dX8_adds_36 : decode cX8_adds 36 = .ok (.iaload, 1) := by decide +kernel
theorem dX8_adds_37 : decode cX8_adds 37 = .ok (.iconst 1, 1) := by decide +kernel
theorem dX8_adds_38 : decode cX8_adds 38 = .ok (.iadd, 1) := by decide +kernel
theorem dX8_adds_39 : decode cX8_adds 39 = .ok (.iastore, 1) := by decide +kernel
theorem dX8_adds_40 : decode cX8_adds 40 = .ok (.return_, 1) := by decide +kernel
theorem dX8_hashed_0 : decode cX8_hashed 0 = .ok (.aload_n 0, 1) := by decide +kernel
theorem dX8_hashed_1 : decode cX8_hashed 1 = .ok (.invokevirtual 84, 3) := by decide +kernel
theorem dX8_hashed_4 : decode cX8_hashed 4 = .ok (.aload_n 0, 1) := by decide +kernel
theorem dX8_hashed_5 : decode cX8_hashed 5 = .ok (.getfield 9, 3) := by decide +kernel
theorem dX8_hashed_8 : decode cX8_hashed 8 = .ok (.bipush 50, 2) := by decide +kernel
theorem dX8_hashed_10 : decode cX8_hashed 10 = .ok (.iload_n 1, 1) := by decide +kernel
theorem dX8_hashed_11 : decode cX8_hashed 11 = .ok (.imul, 1) := by decide +kernel
theorem dX8_hashed_12 : decode cX8_hashed 12 = .ok (.iconst 1, 1) := by decide +kernel
theorem dX8_hashed_13 : decode cX8_hashed 13 = .ok (.iadd, 1) := by decide +kernel
theorem dX8_hashed_14 : decode cX8_hashed 14 = .ok (.aload_n 0, 1) := by decide +kernel
theorem dX8_hashed_15 : decode cX8_hashed 15 = .ok (.iload_n 1, 1) := by decide +kernel
theorem dX8_hashed_16 : decode cX8_hashed 16 = .ok (.invokevirtual 116, 3) := by decide +kernel
theorem dX8_hashed_19 : decode cX8_hashed 19 = .ok (.iastore, 1) := by decide +kernel
theorem dX8_hashed_20 : decode cX8_hashed 20 = .ok (.iload_n 1, 1) := by decide +kernel
theorem dX8_hashed_21 : decode cX8_hashed 21 = .ok (.ireturn, 1) := by decide +kernel
theorem dX8_edited_0 : decode cX8_edited 0 = .ok (.aload_n 0, 1) := by decide +kernel
theorem dX8_edited_1 : decode cX8_edited 1 = .ok (.invokevirtual 84, 3) := by decide +kernel
theorem dX8_edited_4 : decode cX8_edited 4 = .ok (.aload_n 0, 1) := by decide +kernel
theorem dX8_edited_5 : decode cX8_edited 5 = .ok (.iload_n 1, 1) := by decide +kernel
theorem dX8_edited_6 : decode cX8_edited 6 = .ok (.bipush (-9), 2) := by decide +kernel
theorem dX8_edited_8 : decode cX8_edited 8 = .ok (.invokevirtual 119, 3) := by decide +kernel
theorem dX8_edited_11 : decode cX8_edited 11 = .ok (.istore 4, 2) := by decide +kernel
theorem dX8_edited_13 : decode cX8_edited 13 = .ok (.iconst 0, 1) := by decide +kernel
theorem dX8_edited_14 : decode cX8_edited 14 = .ok (.istore 5, 2) := by decide +kernel
theorem dX8_edited_16 : decode cX8_edited 16 = .ok (.iload 5, 2) := by decide +kernel
theorem dX8_edited_18 : decode cX8_edited 18 = .ok (.aload_n 0, 1) := by decide +kernel
theorem dX8_edited_19 : decode cX8_edited 19 = .ok (.getfield 34, 3) := by decide +kernel
theorem dX8_edited_22 : decode cX8_edited 22 = .ok (.iload_n 1, 1) := by decide +kernel
theorem dX8_edited_23 : decode cX8_edited 23 = .ok (.iaload, 1) := by decide +kernel
theorem dX8_edited_24 : decode cX8_edited 24 = .ok (.if_icmp .ge 52, 3) := by decide +kernel
theorem dX8_edited_27 : decode cX8_edited 27 = .ok (.iload 5, 2) := by decide +kernel
theorem dX8_edited_29 : decode cX8_edited 29 = .ok (.iload_n 2, 1) := by decide +kernel
theorem dX8_edited_30 : decode cX8_edited 30 = .ok (.if_icmp .ne 12, 3) := by decide +kernel
theorem dX8_edited_33 : decode cX8_edited 33 = .ok (.iload_n 3, 1) := by decide +kernel
theorem dX8_edited_34 : decode cX8_edited 34 = .ok (.bipush 8, 2) := by decide +kernel
theorem dX8_edited_36 : decode cX8_edited 36 = .ok (.if_icmp .ne 6, 3) := by decide +kernel
theorem dX8_edited_39 : decode cX8_edited 39 = .ok (.goto 31, 3) := by decide +kernel
theorem dX8_edited_42 : decode cX8_edited 42 = .ok (.aload_n 0, 1) := by decide +kernel
theorem dX8_edited_43 : decode cX8_edited 43 = .ok (.iload 4, 2) := by decide +kernel
theorem dX8_edited_45 : decode cX8_edited 45 = .ok (.iload 5, 2) := by decide +kernel
theorem dX8_edited_47 : decode cX8_edited 47 = .ok (.iload_n 2, 1) := by decide +kernel
theorem dX8_edited_48 : decode cX8_edited 48 = .ok (.if_icmp .ne 7, 3) := by decide +kernel
theorem dX8_edited_51 : decode cX8_edited 51 = .ok (.iload_n 3, 1) := by decide +kernel
theorem dX8_edited_52 : decode cX8_edited 52 = .ok (.goto 15, 3) := by decide +kernel
theorem dX8_edited_55 : decode cX8_edited 55 = .ok (.aload_n 0, 1) := by decide +kernel
theorem dX8_edited_56 : decode cX8_edited 56 = .ok (.getfield 31, 3) := by decide +kernel
theorem dX8_edited_59 : decode cX8_edited 59 = .ok (.bipush 12, 2) := by decide +kernel
theorem dX8_edited_61 : decode cX8_edited 61 = .ok (.iload_n 1, 1) := by decide +kernel
theorem dX8_edited_62 : decode cX8_edited 62 = .ok (.imul, 1) := by decide +kernel
theorem dX8_edited_63 : decode cX8_edited 63 = .ok (.iload 5, 2) := by decide +kernel
theorem dX8_edited_65 : decode cX8_edited 65 = .ok (.iadd, 1) := by decide +kernel
theorem dX8_edited_66 : decode cX8_edited 66 = .ok (.iaload, 1) := by decide +kernel
theorem dX8_edited_67 : decode cX8_edited 67 = .ok (.invokevirtual 122, 3) := by decide +kernel
theorem dX8_edited_70 : decode cX8_edited 70 = .ok (.iinc 5 1, 3) := by decide +kernel
theorem dX8_edited_73 : decode cX8_edited 73 = .ok (.goto (-57), 3) := by decide +kernel
theorem dX8_edited_76 : decode cX8_edited 76 = .ok (.iload_n 2, 1) := by decide +kernel
theorem dX8_edited_77 : decode cX8_edited 77 = .ok (.aload_n 0, 1) := by decide +kernel
theorem dX8_edited_78 : decode cX8_edited 78 = .ok (.getfield 34, 3) := by decide +kernel
theorem dX8_edited_81 : decode cX8_edited 81 = .ok (.iload_n 1, 1) := by decide +kernel
theorem dX8_edited_82 : decode cX8_edited 82 = .ok (.iaload, 1) := by decide +kernel
theorem dX8_edited_83 : decode cX8_edited 83 = .ok (.if_icmp .ne 10, 3) := by decide +kernel
theorem dX8_edited_86 : decode cX8_edited 86 = .ok (.aload_n 0, 1) := by decide +kernel
theorem dX8_edited_87 : decode cX8_edited 87 = .ok (.iload 4, 2) := by decide +kernel
theorem dX8_edited_89 : decode cX8_edited 89 = .ok (.iload_n 3, 1) := by decide +kernel
theorem dX8_edited_90 : decode cX8_edited 90 = .ok (.invokevirtual 122, 3) := by decide +kernel
theorem dX8_edited_93 : decode cX8_edited 93 = .ok (.aload_n 0, 1) := by decide +kernel
theorem dX8_edited_94 : decode cX8_edited 94 = .ok (.iload 4, 2) := by decide +kernel
theorem dX8_edited_96 : decode cX8_edited 96 = .ok (.invokevirtual 126, 3) := by decide +kernel
theorem dX8_edited_99 : decode cX8_edited 99 = .ok (.ireturn, 1) := by decide +kernel
theorem dX8_edits_0 : decode cX8_edits 0 = .ok (.aload_n 0, 1) := by decide +kernel
theorem dX8_edits_1 : decode cX8_edits 1 = .ok (.iload_n 1, 1) := by decide +kernel
theorem dX8_edits_2 : decode cX8_edits 2 = .ok (.invokevirtual 59, 3) := by decide +kernel
theorem dX8_edits_5 : decode cX8_edits 5 = .ok (.ifCond .ne 9, 3) := by decide +kernel
theorem dX8_edits_8 : decode cX8_edits 8 = .ok (.aload_n 0, 1) := by decide +kernel
theorem dX8_edits_9 : decode cX8_edits 9 = .ok (.iconst (-1), 1) := by decide +kernel
theorem dX8_edits_10 : decode cX8_edits 10 = .ok (.invokevirtual 51, 3) := by decide +kernel
theorem dX8_edits_13 : decode cX8_edits 13 = .ok (.ireturn, 1) := by decide +kernel
theorem dX8_edits_14 : decode cX8_edits 14 = .ok (.aload_n 0, 1) := by decide +kernel
theorem dX8_edits_15 : decode cX8_edits 15 = .ok (.invokevirtual 84, 3) := by decide +kernel
theorem dX8_edits_18 : decode cX8_edits 18 = .ok (.aload_n 0, 1) := by decide +kernel
theorem dX8_edits_19 : decode cX8_edits 19 = .ok (.getfield 34, 3) := by decide +kernel
theorem dX8_edits_22 : decode cX8_edits 22 = .ok (.iload_n 1, 1) := by decide +kernel
theorem dX8_edits_23 : decode cX8_edits 23 = .ok (.iaload, 1) := by decide +kernel
theorem dX8_edits_24 : decode cX8_edits 24 = .ok (.istore 4, 2) := by decide +kernel
theorem dX8_edits_26 : decode cX8_edits 26 = .ok (.iload_n 2, 1) := by decide +kernel
theorem dX8_edits_27 : decode cX8_edits 27 = .ok (.iconst 0, 1) := by decide +kernel
theorem dX8_edits_28 : decode cX8_edits 28 = .ok (.iload 4, 2) := by decide +kernel
theorem dX8_edits_30 : decode cX8_edits 30 = .ok (.invokestatic 55, 3) := by decide +kernel
theorem dX8_edits_33 : decode cX8_edits 33 = .ok (.ifCond .ne 9, 3) := by decide +kernel
theorem dX8_edits_36 : decode cX8_edits 36 = .ok (.aload_n 0, 1) := by decide +kernel
theorem dX8_edits_37 : decode cX8_edits 37 = .ok (.iconst (-1), 1) := by decide +kernel
theorem dX8_edits_38 : decode cX8_edits 38 = .ok (.invokevirtual 51, 3) := by decide +kernel
theorem dX8_edits_41 : decode cX8_edits 41 = .ok (.ireturn, 1) := by decide +kernel
theorem dX8_edits_42 : decode cX8_edits 42 = .ok (.iload_n 3, 1) := by decide +kernel
theorem dX8_edits_43 : decode cX8_edits 43 = .ok (.iconst 0, 1) := by decide +kernel
theorem dX8_edits_44 : decode cX8_edits 44 = .ok (.bipush 8, 2) := by decide +kernel
theorem dX8_edits_46 : decode cX8_edits 46 = .ok (.invokestatic 55, 3) := by decide +kernel
theorem dX8_edits_49 : decode cX8_edits 49 = .ok (.ifCond .ne 10, 3) := by decide +kernel
theorem dX8_edits_52 : decode cX8_edits 52 = .ok (.aload_n 0, 1) := by decide +kernel
theorem dX8_edits_53 : decode cX8_edits 53 = .ok (.bipush (-2), 2) := by decide +kernel
theorem dX8_edits_55 : decode cX8_edits 55 = .ok (.invokevirtual 51, 3) := by decide +kernel
theorem dX8_edits_58 : decode cX8_edits 58 = .ok (.ireturn, 1) := by decide +kernel
theorem dX8_edits_59 : decode cX8_edits 59 = .ok (.iload_n 3, 1) := by decide +kernel
theorem dX8_edits_60 : decode cX8_edits 60 = .ok (.bipush 8, 2) := by decide +kernel
theorem dX8_edits_62 : decode cX8_edits 62 = .ok (.if_icmp .ne 22, 3) := by decide +kernel
theorem dX8_edits_65 : decode cX8_edits 65 = .ok (.iload 4, 2) := by decide +kernel
theorem dX8_edits_67 : decode cX8_edits 67 = .ok (.iconst 1, 1) := by decide +kernel
theorem dX8_edits_68 : decode cX8_edits 68 = .ok (.if_icmp .eq 9, 3) := by decide +kernel
theorem dX8_edits_71 : decode cX8_edits 71 = .ok (.iload_n 2, 1) := by decide +kernel
theorem dX8_edits_72 : decode cX8_edits 72 = .ok (.iload 4, 2) := by decide +kernel
theorem dX8_edits_74 : decode cX8_edits 74 = .ok (.if_icmp .ne 10, 3) := by decide +kernel
theorem dX8_edits_77 : decode cX8_edits 77 = .ok (.aload_n 0, 1) := by decide +kernel
theorem dX8_edits_78 : decode cX8_edits 78 = .ok (.bipush (-3), 2) := by decide +kernel
theorem dX8_edits_80 : decode cX8_edits 80 = .ok (.invokevirtual 51, 3) := by decide +kernel
theorem dX8_edits_83 : decode cX8_edits 83 = .ok (.ireturn, 1) := by decide +kernel
theorem dX8_edits_84 : decode cX8_edits 84 = .ok (.iload_n 2, 1) := by decide +kernel
theorem dX8_edits_85 : decode cX8_edits 85 = .ok (.bipush 12, 2) := by decide +kernel
theorem dX8_edits_87 : decode cX8_edits 87 = .ok (.if_icmp .ne 9, 3) := by decide +kernel
theorem dX8_edits_90 : decode cX8_edits 90 = .ok (.iload_n 3, 1) := by decide +kernel
theorem dX8_edits_91 : decode cX8_edits 91 = .ok (.bipush 8, 2) := by decide +kernel
theorem dX8_edits_93 : decode cX8_edits 93 = .ok (.if_icmp .lt 16, 3) := by decide +kernel
theorem dX8_edits_96 : decode cX8_edits 96 = .ok (.aload_n 0, 1) := by decide +kernel
theorem dX8_edits_97 : decode cX8_edits 97 = .ok (.getfield 9, 3) := by decide +kernel
theorem dX8_edits_100 : decode cX8_edits 100 = .ok (.sipush 500, 3) := by decide +kernel
theorem dX8_edits_103 : decode cX8_edits 103 = .ok (.iaload, 1) := by decide +kernel
theorem dX8_edits_104 : decode cX8_edits 104 = .ok (.bipush 10, 2) := by decide +kernel
theorem dX8_edits_106 : decode cX8_edits 106 = .ok (.if_icmp .ne 10, 3) := by decide +kernel
theorem dX8_edits_109 : decode cX8_edits 109 = .ok (.aload_n 0, 1) := by decide +kernel
theorem dX8_edits_110 : decode cX8_edits 110 = .ok (.bipush (-6), 2) := by decide +kernel
theorem dX8_edits_112 : decode cX8_edits 112 = .ok (.invokevirtual 51, 3) := by decide +kernel
theorem dX8_edits_115 : decode cX8_edits 115 = .ok (.ireturn, 1) := by decide +kernel
theorem dX8_edits_116 : decode cX8_edits 116 = .ok (.aload_n 0, 1) := by decide +kernel
theorem dX8_edits_117 : decode cX8_edits 117 = .ok (.iload_n 1, 1) := by decide +kernel
theorem dX8_edits_118 : decode cX8_edits 118 = .ok (.iload_n 2, 1) := by decide +kernel
theorem dX8_edits_119 : decode cX8_edits 119 = .ok (.iload_n 3, 1) := by decide +kernel
theorem dX8_edits_120 : decode cX8_edits 120 = .ok (.invokevirtual 129, 3) := by decide +kernel
theorem dX8_edits_123 : decode cX8_edits 123 = .ok (.ireturn, 1) := by decide +kernel
theorem dX8_merges_0 : decode cX8_merges 0 = .ok (.aload_n 0, 1) := by decide +kernel
theorem dX8_merges_1 : decode cX8_merges 1 = .ok (.iload_n 1, 1) := by decide +kernel
theorem dX8_merges_2 : decode cX8_merges 2 = .ok (.invokevirtual 59, 3) := by decide +kernel
theorem dX8_merges_5 : decode cX8_merges 5 = .ok (.ifCond .eq 11, 3) := by decide +kernel
theorem dX8_merges_8 : decode cX8_merges 8 = .ok (.aload_n 0, 1) := by decide +kernel
theorem dX8_merges_9 : decode cX8_merges 9 = .ok (.iload_n 2, 1) := by decide +kernel
theorem dX8_merges_10 : decode cX8_merges 10 = .ok (.invokevirtual 59, 3) := by decide +kernel
theorem dX8_merges_13 : decode cX8_merges 13 = .ok (.ifCond .ne 9, 3) := by decide +kernel
theorem dX8_merges_16 : decode cX8_merges 16 = .ok (.aload_n 0, 1) := by decide +kernel
theorem dX8_merges_17 : decode cX8_merges 17 = .ok (.iconst (-1), 1) := by decide +kernel
theorem dX8_merges_18 : decode cX8_merges 18 = .ok (.invokevirtual 51, 3) := by decide +kernel
theorem dX8_merges_21 : decode cX8_merges 21 = .ok (.ireturn, 1) := by decide +kernel
theorem dX8_merges_22 : decode cX8_merges 22 = .ok (.iload_n 1, 1) := by decide +kernel
theorem dX8_merges_23 : decode cX8_merges 23 = .ok (.iload_n 2, 1) := by decide +kernel
theorem dX8_merges_24 : decode cX8_merges 24 = .ok (.if_icmp .ne 10, 3) := by decide +kernel
theorem dX8_merges_27 : decode cX8_merges 27 = .ok (.aload_n 0, 1) := by decide +kernel
theorem dX8_merges_28 : decode cX8_merges 28 = .ok (.bipush (-3), 2) := by decide +kernel
theorem dX8_merges_30 : decode cX8_merges 30 = .ok (.invokevirtual 51, 3) := by decide +kernel
theorem dX8_merges_33 : decode cX8_merges 33 = .ok (.ireturn, 1) := by decide +kernel
theorem dX8_merges_34 : decode cX8_merges 34 = .ok (.aload_n 0, 1) := by decide +kernel
theorem dX8_merges_35 : decode cX8_merges 35 = .ok (.getfield 9, 3) := by decide +kernel
theorem dX8_merges_38 : decode cX8_merges 38 = .ok (.sipush 500, 3) := by decide +kernel
theorem dX8_merges_41 : decode cX8_merges 41 = .ok (.iaload, 1) := by decide +kernel
theorem dX8_merges_42 : decode cX8_merges 42 = .ok (.bipush 10, 2) := by decide +kernel
theorem dX8_merges_44 : decode cX8_merges 44 = .ok (.if_icmp .ne 10, 3) := by decide +kernel
theorem dX8_merges_47 : decode cX8_merges 47 = .ok (.aload_n 0, 1) := by decide +kernel
theorem dX8_merges_48 : decode cX8_merges 48 = .ok (.bipush (-6), 2) := by decide +kernel
theorem dX8_merges_50 : decode cX8_merges 50 = .ok (.invokevirtual 51, 3) := by decide +kernel
theorem dX8_merges_53 : decode cX8_merges 53 = .ok (.ireturn, 1) := by decide +kernel
theorem dX8_merges_54 : decode cX8_merges 54 = .ok (.aload_n 0, 1) := by decide +kernel
theorem dX8_merges_55 : decode cX8_merges 55 = .ok (.invokevirtual 84, 3) := by decide +kernel
theorem dX8_merges_58 : decode cX8_merges 58 = .ok (.aload_n 0, 1) := by decide +kernel
theorem dX8_merges_59 : decode cX8_merges 59 = .ok (.iload_n 1, 1) := by decide +kernel
theorem dX8_merges_60 : decode cX8_merges 60 = .ok (.iload_n 2, 1) := by decide +kernel
theorem dX8_merges_61 : decode cX8_merges 61 = .ok (.invokevirtual 119, 3) := by decide +kernel
theorem dX8_merges_64 : decode cX8_merges 64 = .ok (.istore_n 3, 1) := by decide +kernel
theorem dX8_merges_65 : decode cX8_merges 65 = .ok (.iconst 0, 1) := by decide +kernel
theorem dX8_merges_66 : decode cX8_merges 66 = .ok (.istore 4, 2) := by decide +kernel
theorem dX8_merges_68 : decode cX8_merges 68 = .ok (.iload 4, 2) := by decide +kernel
theorem dX8_merges_70 : decode cX8_merges 70 = .ok (.aload_n 0, 1) := by decide +kernel
theorem dX8_merges_71 : decode cX8_merges 71 = .ok (.getfield 34, 3) := by decide +kernel
theorem dX8_merges_74 : decode cX8_merges 74 = .ok (.iload_n 1, 1) := by decide +kernel
theorem dX8_merges_75 : decode cX8_merges 75 = .ok (.iaload, 1) := by decide +kernel
theorem dX8_merges_76 : decode cX8_merges 76 = .ok (.if_icmp .ge 26, 3) := by decide +kernel
theorem dX8_merges_79 : decode cX8_merges 79 = .ok (.aload_n 0, 1) := by decide +kernel
theorem dX8_merges_80 : decode cX8_merges 80 = .ok (.iload_n 3, 1) := by decide +kernel
theorem dX8_merges_81 : decode cX8_merges 81 = .ok (.aload_n 0, 1) := by decide +kernel
theorem dX8_merges_82 : decode cX8_merges 82 = .ok (.getfield 31, 3) := by decide +kernel
theorem dX8_merges_85 : decode cX8_merges 85 = .ok (.bipush 12, 2) := by decide +kernel
theorem dX8_merges_87 : decode cX8_merges 87 = .ok (.iload_n 1, 1) := by decide +kernel
theorem dX8_merges_88 : decode cX8_merges 88 = .ok (.imul, 1) := by decide +kernel
theorem dX8_merges_89 : decode cX8_merges 89 = .ok (.iload 4, 2) := by decide +kernel
theorem dX8_merges_91 : decode cX8_merges 91 = .ok (.iadd, 1) := by decide +kernel
theorem dX8_merges_92 : decode cX8_merges 92 = .ok (.iaload, 1) := by decide +kernel
theorem dX8_merges_93 : decode cX8_merges 93 = .ok (.invokevirtual 122, 3) := by decide +kernel
theorem dX8_merges_96 : decode cX8_merges 96 = .ok (.iinc 4 1, 3) := by decide +kernel
theorem dX8_merges_99 : decode cX8_merges 99 = .ok (.goto (-31), 3) := by decide +kernel
theorem dX8_merges_102 : decode cX8_merges 102 = .ok (.aload_n 0, 1) := by decide +kernel
theorem dX8_merges_103 : decode cX8_merges 103 = .ok (.iload_n 3, 1) := by decide +kernel
theorem dX8_merges_104 : decode cX8_merges 104 = .ok (.invokevirtual 126, 3) := by decide +kernel
theorem dX8_merges_107 : decode cX8_merges 107 = .ok (.ireturn, 1) := by decide +kernel
theorem dX8_heads_0 : decode cX8_heads 0 = .ok (.iload_n 1, 1) := by decide +kernel
theorem dX8_heads_1 : decode cX8_heads 1 = .ok (.iconst 0, 1) := by decide +kernel
theorem dX8_heads_2 : decode cX8_heads 2 = .ok (.iconst 3, 1) := by decide +kernel
theorem dX8_heads_3 : decode cX8_heads 3 = .ok (.invokestatic 55, 3) := by decide +kernel
theorem dX8_heads_6 : decode cX8_heads 6 = .ok (.ifCond .eq 16, 3) := by decide +kernel
theorem dX8_heads_9 : decode cX8_heads 9 = .ok (.iload_n 2, 1) := by decide +kernel
theorem dX8_heads_10 : decode cX8_heads 10 = .ok (.iconst (-1), 1) := by decide +kernel
theorem dX8_heads_11 : decode cX8_heads 11 = .ok (.if_icmp .eq 17, 3) := by decide +kernel
theorem dX8_heads_14 : decode cX8_heads 14 = .ok (.aload_n 0, 1) := by decide +kernel
theorem dX8_heads_15 : decode cX8_heads 15 = .ok (.iload_n 2, 1) := by decide +kernel
theorem dX8_heads_16 : decode cX8_heads 16 = .ok (.invokevirtual 59, 3) := by decide +kernel
theorem dX8_heads_19 : decode cX8_heads 19 = .ok (.ifCond .ne 9, 3) := by decide +kernel
theorem dX8_heads_22 : decode cX8_heads 22 = .ok (.aload_n 0, 1) := by decide +kernel
theorem dX8_heads_23 : decode cX8_heads 23 = .ok (.iconst (-1), 1) := by decide +kernel
theorem dX8_heads_24 : decode cX8_heads 24 = .ok (.invokevirtual 51, 3) := by decide +kernel
theorem dX8_heads_27 : decode cX8_heads 27 = .ok (.ireturn, 1) := by decide +kernel
theorem dX8_heads_28 : decode cX8_heads 28 = .ok (.aload_n 0, 1) := by decide +kernel
theorem dX8_heads_29 : decode cX8_heads 29 = .ok (.getfield 9, 3) := by decide +kernel
theorem dX8_heads_32 : decode cX8_heads 32 = .ok (.sipush 501, 3) := by decide +kernel
theorem dX8_heads_35 : decode cX8_heads 35 = .ok (.iload_n 1, 1) := by decide +kernel
theorem dX8_heads_36 : decode cX8_heads 36 = .ok (.iadd, 1) := by decide +kernel
theorem dX8_heads_37 : decode cX8_heads 37 = .ok (.iaload, 1) := by decide +kernel
theorem dX8_heads_38 : decode cX8_heads 38 = .ok (.istore_n 3, 1) := by decide +kernel
theorem dX8_heads_39 : decode cX8_heads 39 = .ok (.aload_n 0, 1) := by decide +kernel
theorem dX8_heads_40 : decode cX8_heads 40 = .ok (.getfield 9, 3) := by decide +kernel
theorem dX8_heads_43 : decode cX8_heads 43 = .ok (.sipush 501, 3) := by decide +kernel
theorem dX8_heads_46 : decode cX8_heads 46 = .ok (.iload_n 1, 1) := by decide +kernel
theorem dX8_heads_47 : decode cX8_heads 47 = .ok (.iadd, 1) := by decide +kernel
theorem dX8_heads_48 : decode cX8_heads 48 = .ok (.iload_n 2, 1) := by decide +kernel
theorem dX8_heads_49 : decode cX8_heads 49 = .ok (.iconst (-1), 1) := by decide +kernel
theorem dX8_heads_50 : decode cX8_heads 50 = .ok (.if_icmp .ne 8, 3) := by decide +kernel
theorem dX8_heads_53 : decode cX8_heads 53 = .ok (.bipush (-9), 2) := by decide +kernel
theorem dX8_heads_55 : decode cX8_heads 55 = .ok (.goto 4, 3) := by decide +kernel
theorem dX8_heads_58 : decode cX8_heads 58 = .ok (.iload_n 2, 1) := by decide +kernel
theorem dX8_heads_59 : decode cX8_heads 59 = .ok (.iastore, 1) := by decide +kernel
theorem dX8_heads_60 : decode cX8_heads 60 = .ok (.iload_n 3, 1) := by decide +kernel
theorem dX8_heads_61 : decode cX8_heads 61 = .ok (.ireturn, 1) := by decide +kernel
theorem dX8_kind_0 : decode cX8_kind 0 = .ok (.iload_n 1, 1) := by decide +kernel
theorem dX8_kind_1 : decode cX8_kind 1 = .ok (.iconst 0, 1) := by decide +kernel
theorem dX8_kind_2 : decode cX8_kind 2 = .ok (.iconst 5, 1) := by decide +kernel
theorem dX8_kind_3 : decode cX8_kind 3 = .ok (.invokestatic 55, 3) := by decide +kernel
theorem dX8_kind_6 : decode cX8_kind 6 = .ok (.ifCond .ne 10, 3) := by decide +kernel
theorem dX8_kind_9 : decode cX8_kind 9 = .ok (.aload_n 0, 1) := by decide +kernel
theorem dX8_kind_10 : decode cX8_kind 10 = .ok (.bipush (-2), 2) := by decide +kernel
theorem dX8_kind_12 : decode cX8_kind 12 = .ok (.invokevirtual 51, 3) := by decide +kernel
theorem dX8_kind_15 : decode cX8_kind 15 = .ok (.ireturn, 1) := by decide +kernel
theorem dX8_kind_16 : decode cX8_kind 16 = .ok (.iload_n 2, 1) := by decide +kernel
theorem dX8_kind_17 : decode cX8_kind 17 = .ok (.ifCond .ge 10, 3) := by decide +kernel
theorem dX8_kind_20 : decode cX8_kind 20 = .ok (.aload_n 0, 1) := by decide +kernel
theorem dX8_kind_21 : decode cX8_kind 21 = .ok (.bipush (-4), 2) := by decide +kernel
theorem dX8_kind_23 : decode cX8_kind 23 = .ok (.invokevirtual 51, 3) := by decide +kernel
theorem dX8_kind_26 : decode cX8_kind 26 = .ok (.ireturn, 1) := by decide +kernel
theorem dX8_kind_27 : decode cX8_kind 27 = .ok (.iload_n 2, 1) := by decide +kernel
theorem dX8_kind_28 : decode cX8_kind 28 = .ok (.bipush 9, 2) := by decide +kernel
theorem dX8_kind_30 : decode cX8_kind 30 = .ok (.if_icmp .le 10, 3) := by decide +kernel
theorem dX8_kind_33 : decode cX8_kind 33 = .ok (.aload_n 0, 1) := by decide +kernel
theorem dX8_kind_34 : decode cX8_kind 34 = .ok (.bipush (-6), 2) := by decide +kernel
theorem dX8_kind_36 : decode cX8_kind 36 = .ok (.invokevirtual 51, 3) := by decide +kernel
theorem dX8_kind_39 : decode cX8_kind 39 = .ok (.ireturn, 1) := by decide +kernel
theorem dX8_kind_40 : decode cX8_kind 40 = .ok (.bipush 10, 2) := by decide +kernel
theorem dX8_kind_42 : decode cX8_kind 42 = .ok (.aload_n 0, 1) := by decide +kernel
theorem dX8_kind_43 : decode cX8_kind 43 = .ok (.getfield 9, 3) := by decide +kernel
theorem dX8_kind_46 : decode cX8_kind 46 = .ok (.sipush 505, 3) := by decide +kernel
theorem dX8_kind_49 : decode cX8_kind 49 = .ok (.iaload, 1) := by decide +kernel
theorem dX8_kind_50 : decode cX8_kind 50 = .ok (.imul, 1) := by decide +kernel
theorem dX8_kind_51 : decode cX8_kind 51 = .ok (.aload_n 0, 1) := by decide +kernel
theorem dX8_kind_52 : decode cX8_kind 52 = .ok (.getfield 9, 3) := by decide +kernel
theorem dX8_kind_55 : decode cX8_kind 55 = .ok (.sipush 506, 3) := by decide +kernel
theorem dX8_kind_58 : decode cX8_kind 58 = .ok (.iaload, 1) := by decide +kernel
theorem dX8_kind_59 : decode cX8_kind 59 = .ok (.iadd, 1) := by decide +kernel
theorem dX8_kind_60 : decode cX8_kind 60 = .ok (.istore_n 3, 1) := by decide +kernel
theorem dX8_kind_61 : decode cX8_kind 61 = .ok (.aload_n 0, 1) := by decide +kernel
theorem dX8_kind_62 : decode cX8_kind 62 = .ok (.getfield 9, 3) := by decide +kernel
theorem dX8_kind_65 : decode cX8_kind 65 = .ok (.sipush 505, 3) := by decide +kernel
theorem dX8_kind_68 : decode cX8_kind 68 = .ok (.iload_n 1, 1) := by decide +kernel
theorem dX8_kind_69 : decode cX8_kind 69 = .ok (.iastore, 1) := by decide +kernel
theorem dX8_kind_70 : decode cX8_kind 70 = .ok (.aload_n 0, 1) := by decide +kernel
theorem dX8_kind_71 : decode cX8_kind 71 = .ok (.getfield 9, 3) := by decide +kernel
theorem dX8_kind_74 : decode cX8_kind 74 = .ok (.sipush 506, 3) := by decide +kernel
theorem dX8_kind_77 : decode cX8_kind 77 = .ok (.iload_n 2, 1) := by decide +kernel
theorem dX8_kind_78 : decode cX8_kind 78 = .ok (.iastore, 1) := by decide +kernel
theorem dX8_kind_79 : decode cX8_kind 79 = .ok (.iload_n 3, 1) := by decide +kernel
theorem dX8_kind_80 : decode cX8_kind 80 = .ok (.ireturn, 1) := by decide +kernel
theorem dX8_bound_0 : decode cX8_bound 0 = .ok (.iload_n 1, 1) := by decide +kernel
theorem dX8_bound_1 : decode cX8_bound 1 = .ok (.ifCond .ge 10, 3) := by decide +kernel
theorem dX8_bound_4 : decode cX8_bound 4 = .ok (.aload_n 0, 1) := by decide +kernel
theorem dX8_bound_5 : decode cX8_bound 5 = .ok (.bipush (-4), 2) := by decide +kernel
theorem dX8_bound_7 : decode cX8_bound 7 = .ok (.invokevirtual 51, 3) := by decide +kernel
theorem dX8_bound_10 : decode cX8_bound 10 = .ok (.ireturn, 1) := by decide +kernel
theorem dX8_bound_11 : decode cX8_bound 11 = .ok (.iload_n 1, 1) := by decide +kernel
theorem dX8_bound_12 : decode cX8_bound 12 = .ok (.bipush 8, 2) := by decide +kernel
theorem dX8_bound_14 : decode cX8_bound 14 = .ok (.if_icmp .le 10, 3) := by decide +kernel
theorem dX8_bound_17 : decode cX8_bound 17 = .ok (.aload_n 0, 1) := by decide +kernel
theorem dX8_bound_18 : decode cX8_bound 18 = .ok (.bipush (-6), 2) := by decide +kernel
theorem dX8_bound_20 : decode cX8_bound 20 = .ok (.invokevirtual 51, 3) := by decide +kernel
theorem dX8_bound_23 : decode cX8_bound 23 = .ok (.ireturn, 1) := by decide +kernel
theorem dX8_bound_24 : decode cX8_bound 24 = .ok (.aload_n 0, 1) := by decide +kernel
theorem dX8_bound_25 : decode cX8_bound 25 = .ok (.getfield 9, 3) := by decide +kernel
theorem dX8_bound_28 : decode cX8_bound 28 = .ok (.sipush 507, 3) := by decide +kernel
theorem dX8_bound_31 : decode cX8_bound 31 = .ok (.iaload, 1) := by decide +kernel
theorem dX8_bound_32 : decode cX8_bound 32 = .ok (.istore_n 2, 1) := by decide +kernel
theorem dX8_bound_33 : decode cX8_bound 33 = .ok (.aload_n 0, 1) := by decide +kernel
theorem dX8_bound_34 : decode cX8_bound 34 = .ok (.getfield 9, 3) := by decide +kernel
theorem dX8_bound_37 : decode cX8_bound 37 = .ok (.sipush 507, 3) := by decide +kernel
theorem dX8_bound_40 : decode cX8_bound 40 = .ok (.iload_n 1, 1) := by decide +kernel
theorem dX8_bound_41 : decode cX8_bound 41 = .ok (.iastore, 1) := by decide +kernel
theorem dX8_bound_42 : decode cX8_bound 42 = .ok (.iload_n 2, 1) := by decide +kernel
theorem dX8_bound_43 : decode cX8_bound 43 = .ok (.ireturn, 1) := by decide +kernel
theorem dX8_repack_0 : decode cX8_repack 0 = .ok (.aload_n 0, 1) := by decide +kernel
theorem dX8_repack_1 : decode cX8_repack 1 = .ok (.invokevirtual 133, 3) := by decide +kernel
theorem dX8_repack_4 : decode cX8_repack 4 = .ok (.ireturn, 1) := by decide +kernel
theorem dX8_reachedFrom_0 : decode cX8_reachedFrom 0 = .ok (.iconst 1, 1) := by decide +kernel
theorem dX8_reachedFrom_1 : decode cX8_reachedFrom 1 = .ok (.iload_n 1, 1) := by decide +kernel
theorem dX8_reachedFrom_2 : decode cX8_reachedFrom 2 = .ok (.ishl, 1) := by decide +kernel
theorem dX8_reachedFrom_3 : decode cX8_reachedFrom 3 = .ok (.istore_n 2, 1) := by decide +kernel
theorem dX8_reachedFrom_4 : decode cX8_reachedFrom 4 = .ok (.iconst 0, 1) := by decide +kernel
theorem dX8_reachedFrom_5 : decode cX8_reachedFrom 5 = .ok (.istore_n 3, 1) := by decide +kernel
theorem dX8_reachedFrom_6 : decode cX8_reachedFrom 6 = .ok (.iload_n 3, 1) := by decide +kernel
theorem dX8_reachedFrom_7 : decode cX8_reachedFrom 7 = .ok (.bipush 10, 2) := by decide +kernel
theorem dX8_reachedFrom_9 : decode cX8_reachedFrom 9 = .ok (.if_icmp .ge 15, 3) := by decide +kernel
theorem dX8_reachedFrom_12 : decode cX8_reachedFrom 12 = .ok (.aload_n 0, 1) := by decide +kernel
theorem dX8_reachedFrom_13 : decode cX8_reachedFrom 13 = .ok (.iload_n 2, 1) := by decide +kernel
theorem dX8_reachedFrom_14 : decode cX8_reachedFrom 14 = .ok (.invokevirtual 136, 3) := by decide +kernel
theorem dX8_reachedFrom_17 : decode cX8_reachedFrom 17 = .ok (.istore_n 2, 1) := by decide +kernel
theorem dX8_reachedFrom_18 : decode cX8_reachedFrom 18 = .ok (.iinc 3 1, 3) := by decide +kernel
theorem dX8_reachedFrom_21 : decode cX8_reachedFrom 21 = .ok (.goto (-15), 3) := by decide +kernel
theorem dX8_reachedFrom_24 : decode cX8_reachedFrom 24 = .ok (.iload_n 2, 1) := by decide +kernel
theorem dX8_reachedFrom_25 : decode cX8_reachedFrom 25 = .ok (.ireturn, 1) := by decide +kernel
theorem dX8_widened_0 : decode cX8_widened 0 = .ok (.iload_n 1, 1) := by decide +kernel
theorem dX8_widened_1 : decode cX8_widened 1 = .ok (.istore_n 2, 1) := by decide +kernel
theorem dX8_widened_2 : decode cX8_widened 2 = .ok (.iconst 0, 1) := by decide +kernel
theorem dX8_widened_3 : decode cX8_widened 3 = .ok (.istore_n 3, 1) := by decide +kernel
theorem dX8_widened_4 : decode cX8_widened 4 = .ok (.iload_n 3, 1) := by decide +kernel
theorem dX8_widened_5 : decode cX8_widened 5 = .ok (.aload_n 0, 1) := by decide +kernel
theorem dX8_widened_6 : decode cX8_widened 6 = .ok (.getfield 9, 3) := by decide +kernel
theorem dX8_widened_9 : decode cX8_widened 9 = .ok (.sipush 500, 3) := by decide +kernel
theorem dX8_widened_12 : decode cX8_widened 12 = .ok (.iaload, 1) := by decide +kernel
theorem dX8_widened_13 : decode cX8_widened 13 = .ok (.if_icmp .ge 69, 3) := by decide +kernel
theorem dX8_widened_16 : decode cX8_widened 16 = .ok (.iconst 0, 1) := by decide +kernel
theorem dX8_widened_17 : decode cX8_widened 17 = .ok (.istore 4, 2) := by decide +kernel
theorem dX8_widened_19 : decode cX8_widened 19 = .ok (.iload 4, 2) := by decide +kernel
theorem dX8_widened_21 : decode cX8_widened 21 = .ok (.iconst 2, 1) := by decide +kernel
theorem dX8_widened_22 : decode cX8_widened 22 = .ok (.if_icmp .ge 54, 3) := by decide +kernel
theorem dX8_widened_25 : decode cX8_widened 25 = .ok (.iload_n 1, 1) := by decide +kernel
theorem dX8_widened_26 : decode cX8_widened 26 = .ok (.iload_n 3, 1) := by decide +kernel
theorem dX8_widened_27 : decode cX8_widened 27 = .ok (.ishr, 1) := by decide +kernel
theorem dX8_widened_28 : decode cX8_widened 28 = .ok (.iconst 1, 1) := by decide +kernel
theorem dX8_widened_29 : decode cX8_widened 29 = .ok (.iand, 1) := by decide +kernel
theorem dX8_widened_30 : decode cX8_widened 30 = .ok (.iconst 1, 1) := by decide +kernel
theorem dX8_widened_31 : decode cX8_widened 31 = .ok (.if_icmp .ne 45, 3) := by decide +kernel
theorem dX8_widened_34 : decode cX8_widened 34 = .ok (.aload_n 0, 1) := by decide +kernel
theorem dX8_widened_35 : decode cX8_widened 35 = .ok (.getfield 9, 3) := by decide +kernel
theorem dX8_widened_38 : decode cX8_widened 38 = .ok (.bipush 50, 2) := by decide +kernel
theorem dX8_widened_40 : decode cX8_widened 40 = .ok (.iload_n 3, 1) := by decide +kernel
theorem dX8_widened_41 : decode cX8_widened 41 = .ok (.imul, 1) := by decide +kernel
theorem dX8_widened_42 : decode cX8_widened 42 = .ok (.iconst 2, 1) := by decide +kernel
theorem dX8_widened_43 : decode cX8_widened 43 = .ok (.iadd, 1) := by decide +kernel
theorem dX8_widened_44 : decode cX8_widened 44 = .ok (.iload 4, 2) := by decide +kernel
theorem dX8_widened_46 : decode cX8_widened 46 = .ok (.iadd, 1) := by decide +kernel
theorem dX8_widened_47 : decode cX8_widened 47 = .ok (.iaload, 1) := by decide +kernel
theorem dX8_widened_48 : decode cX8_widened 48 = .ok (.ifCond .lt 22, 3) := by decide +kernel
theorem dX8_widened_51 : decode cX8_widened 51 = .ok (.iload_n 2, 1) := by decide +kernel
theorem dX8_widened_52 : decode cX8_widened 52 = .ok (.iconst 1, 1) := by decide +kernel
theorem dX8_widened_53 : decode cX8_widened 53 = .ok (.aload_n 0, 1) := by decide +kernel
theorem dX8_widened_54 : decode cX8_widened 54 = .ok (.getfield 9, 3) := by decide +kernel
theorem dX8_widened_57 : decode cX8_widened 57 = .ok (.bipush 50, 2) := by decide +kernel
theorem dX8_widened_59 : decode cX8_widened 59 = .ok (.iload_n 3, 1) := by decide +kernel
theorem dX8_widened_60 : decode cX8_widened 60 = .ok (.imul, 1) := by decide +kernel
theorem dX8_widened_61 : decode cX8_widened 61 = .ok (.iconst 2, 1) := by decide +kernel
theorem dX8_widened_62 : decode cX8_widened 62 = .ok (.iadd, 1) := by decide +kernel
theorem dX8_widened_63 : decode cX8_widened 63 = .ok (.iload 4, 2) := by decide +kernel
theorem dX8_widened_65 : decode cX8_widened 65 = .ok (.iadd, 1) := by decide +kernel
theorem dX8_widened_66 : decode cX8_widened 66 = .ok (.iaload, 1) := by decide +kernel
theorem dX8_widened_67 : decode cX8_widened 67 = .ok (.ishl, 1) := by decide +kernel
theorem dX8_widened_68 : decode cX8_widened 68 = .ok (.ior, 1) := by decide +kernel
theorem dX8_widened_69 : decode cX8_widened 69 = .ok (.istore_n 2, 1) := by decide +kernel
theorem dX8_widened_70 : decode cX8_widened 70 = .ok (.iinc 4 1, 3) := by decide +kernel
theorem dX8_widened_73 : decode cX8_widened 73 = .ok (.goto (-54), 3) := by decide +kernel
theorem dX8_widened_76 : decode cX8_widened 76 = .ok (.iinc 3 1, 3) := by decide +kernel
theorem dX8_widened_79 : decode cX8_widened 79 = .ok (.goto (-75), 3) := by decide +kernel
theorem dX8_widened_82 : decode cX8_widened 82 = .ok (.iload_n 2, 1) := by decide +kernel
theorem dX8_widened_83 : decode cX8_widened 83 = .ok (.ireturn, 1) := by decide +kernel
theorem dX8_there_0 : decode cX8_there 0 = .ok (.iconst 0, 1) := by decide +kernel
theorem dX8_there_1 : decode cX8_there 1 = .ok (.istore_n 1, 1) := by decide +kernel
theorem dX8_there_2 : decode cX8_there 2 = .ok (.iconst 0, 1) := by decide +kernel
theorem dX8_there_3 : decode cX8_there 3 = .ok (.istore_n 2, 1) := by decide +kernel
theorem dX8_there_4 : decode cX8_there 4 = .ok (.iload_n 2, 1) := by decide +kernel
theorem dX8_there_5 : decode cX8_there 5 = .ok (.bipush 10, 2) := by decide +kernel
theorem dX8_there_7 : decode cX8_there 7 = .ok (.if_icmp .ge 27, 3) := by decide +kernel
theorem dX8_there_10 : decode cX8_there 10 = .ok (.iload_n 1, 1) := by decide +kernel
theorem dX8_there_11 : decode cX8_there 11 = .ok (.aload_n 0, 1) := by decide +kernel
theorem dX8_there_12 : decode cX8_there 12 = .ok (.iload_n 2, 1) := by decide +kernel
theorem dX8_there_13 : decode cX8_there 13 = .ok (.invokevirtual 59, 3) := by decide +kernel
theorem dX8_there_16 : decode cX8_there 16 = .ok (.ifCond .eq 9, 3) := by decide +kernel
theorem dX8_there_19 : decode cX8_there 19 = .ok (.iconst 1, 1) := by decide +kernel
theorem dX8_there_20 : decode cX8_there 20 = .ok (.iload_n 2, 1) := by decide +kernel
theorem dX8_there_21 : decode cX8_there 21 = .ok (.ishl, 1) := by decide +kernel
theorem dX8_there_22 : decode cX8_there 22 = .ok (.goto 4, 3) := by decide +kernel
theorem dX8_there_25 : decode cX8_there 25 = .ok (.iconst 0, 1) := by decide +kernel
theorem dX8_there_26 : decode cX8_there 26 = .ok (.ior, 1) := by decide +kernel
theorem dX8_there_27 : decode cX8_there 27 = .ok (.istore_n 1, 1) := by decide +kernel
theorem dX8_there_28 : decode cX8_there 28 = .ok (.iinc 2 1, 3) := by decide +kernel
theorem dX8_there_31 : decode cX8_there 31 = .ok (.goto (-27), 3) := by decide +kernel
theorem dX8_there_34 : decode cX8_there 34 = .ok (.iload_n 1, 1) := by decide +kernel
theorem dX8_there_35 : decode cX8_there 35 = .ok (.ireturn, 1) := by decide +kernel
theorem dX8_reachedByHeads_0 : decode cX8_reachedByHeads 0 = .ok (.iconst 0, 1) := by decide +kernel
theorem dX8_reachedByHeads_1 : decode cX8_reachedByHeads 1 = .ok (.istore_n 1, 1) := by decide +kernel
theorem dX8_reachedByHeads_2 : decode cX8_reachedByHeads 2 = .ok (.iconst 0, 1) := by decide +kernel
theorem dX8_reachedByHeads_3 : decode cX8_reachedByHeads 3 = .ok (.istore_n 2, 1) := by decide +kernel
theorem dX8_reachedByHeads_4 : decode cX8_reachedByHeads 4 = .ok (.iload_n 2, 1) := by decide +kernel
theorem dX8_reachedByHeads_5 : decode cX8_reachedByHeads 5 = .ok (.iconst 4, 1) := by decide +kernel
theorem dX8_reachedByHeads_6 : decode cX8_reachedByHeads 6 = .ok (.if_icmp .ge 45, 3) := by decide +kernel
theorem dX8_reachedByHeads_9 : decode cX8_reachedByHeads 9 = .ok (.iload_n 1, 1) := by decide +kernel
theorem dX8_reachedByHeads_10 : decode cX8_reachedByHeads 10 = .ok (.aload_n 0, 1) := by decide +kernel
theorem dX8_reachedByHeads_11 : decode cX8_reachedByHeads 11 = .ok (.getfield 9, 3) := by decide +kernel
theorem dX8_reachedByHeads_14 : decode cX8_reachedByHeads 14 = .ok (.sipush 501, 3) := by decide +kernel
theorem dX8_reachedByHeads_17 : decode cX8_reachedByHeads 17 = .ok (.iload_n 2, 1) := by decide +kernel
theorem dX8_reachedByHeads_18 : decode cX8_reachedByHeads 18 = .ok (.iadd, 1) := by decide +kernel
theorem dX8_reachedByHeads_19 : decode cX8_reachedByHeads 19 = .ok (.iaload, 1) := by decide +kernel
theorem dX8_reachedByHeads_20 : decode cX8_reachedByHeads 20 = .ok (.bipush (-9), 2) := by decide +kernel
theorem dX8_reachedByHeads_22 : decode cX8_reachedByHeads 22 = .ok (.if_icmp .ne 7, 3) := by decide +kernel
theorem dX8_reachedByHeads_25 : decode cX8_reachedByHeads 25 = .ok (.iconst 0, 1) := by decide +kernel
theorem dX8_reachedByHeads_26 : decode cX8_reachedByHeads 26 = .ok (.goto 17, 3) := by decide +kernel
theorem dX8_reachedByHeads_29 : decode cX8_reachedByHeads 29 = .ok (.aload_n 0, 1) := by decide +kernel
theorem dX8_reachedByHeads_30 : decode cX8_reachedByHeads 30 = .ok (.aload_n 0, 1) := by decide +kernel
theorem dX8_reachedByHeads_31 : decode cX8_reachedByHeads 31 = .ok (.getfield 9, 3) := by decide +kernel
theorem dX8_reachedByHeads_34 : decode cX8_reachedByHeads 34 = .ok (.sipush 501, 3) := by decide +kernel
theorem dX8_reachedByHeads_37 : decode cX8_reachedByHeads 37 = .ok (.iload_n 2, 1) := by decide +kernel
theorem dX8_reachedByHeads_38 : decode cX8_reachedByHeads 38 = .ok (.iadd, 1) := by decide +kernel
theorem dX8_reachedByHeads_39 : decode cX8_reachedByHeads 39 = .ok (.iaload, 1) := by decide +kernel
theorem dX8_reachedByHeads_40 : decode cX8_reachedByHeads 40 = .ok (.invokevirtual 139, 3) := by decide +kernel
theorem dX8_reachedByHeads_43 : decode cX8_reachedByHeads 43 = .ok (.ior, 1) := by decide +kernel
theorem dX8_reachedByHeads_44 : decode cX8_reachedByHeads 44 = .ok (.istore_n 1, 1) := by decide +kernel
theorem dX8_reachedByHeads_45 : decode cX8_reachedByHeads 45 = .ok (.iinc 2 1, 3) := by decide +kernel
theorem dX8_reachedByHeads_48 : decode cX8_reachedByHeads 48 = .ok (.goto (-44), 3) := by decide +kernel
theorem dX8_reachedByHeads_51 : decode cX8_reachedByHeads 51 = .ok (.iload_n 1, 1) := by decide +kernel
theorem dX8_reachedByHeads_52 : decode cX8_reachedByHeads 52 = .ok (.aload_n 0, 1) := by decide +kernel
theorem dX8_reachedByHeads_53 : decode cX8_reachedByHeads 53 = .ok (.invokevirtual 142, 3) := by decide +kernel
theorem dX8_reachedByHeads_56 : decode cX8_reachedByHeads 56 = .ok (.iand, 1) := by decide +kernel
theorem dX8_reachedByHeads_57 : decode cX8_reachedByHeads 57 = .ok (.ireturn, 1) := by decide +kernel
theorem dX8_ones_0 : decode cX8_ones 0 = .ok (.iconst 0, 1) := by decide +kernel
theorem dX8_ones_1 : decode cX8_ones 1 = .ok (.istore_n 1, 1) := by decide +kernel
theorem dX8_ones_2 : decode cX8_ones 2 = .ok (.iconst 0, 1) := by decide +kernel
theorem dX8_ones_3 : decode cX8_ones 3 = .ok (.istore_n 2, 1) := by decide +kernel
theorem dX8_ones_4 : decode cX8_ones 4 = .ok (.iload_n 2, 1) := by decide +kernel
theorem dX8_ones_5 : decode cX8_ones 5 = .ok (.bipush 16, 2) := by decide +kernel
theorem dX8_ones_7 : decode cX8_ones 7 = .ok (.if_icmp .ge 17, 3) := by decide +kernel
theorem dX8_ones_10 : decode cX8_ones 10 = .ok (.iload_n 1, 1) := by decide +kernel
theorem dX8_ones_11 : decode cX8_ones 11 = .ok (.iload_n 0, 1) := by decide +kernel
theorem dX8_ones_12 : decode cX8_ones 12 = .ok (.iload_n 2, 1) := by decide +kernel
theorem dX8_ones_13 : decode cX8_ones 13 = .ok (.ishr, 1) := by decide +kernel
theorem dX8_ones_14 : decode cX8_ones 14 = .ok (.iconst 1, 1) := by decide +kernel
theorem dX8_ones_15 : decode cX8_ones 15 = .ok (.iand, 1) := by decide +kernel
theorem dX8_ones_16 : decode cX8_ones 16 = .ok (.iadd, 1) := by decide +kernel
theorem dX8_ones_17 : decode cX8_ones 17 = .ok (.istore_n 1, 1) := by decide +kernel
theorem dX8_ones_18 : decode cX8_ones 18 = .ok (.iinc 2 1, 3) := by decide +kernel
theorem dX8_ones_21 : decode cX8_ones 21 = .ok (.goto (-17), 3) := by decide +kernel
theorem dX8_ones_24 : decode cX8_ones 24 = .ok (.iload_n 1, 1) := by decide +kernel
theorem dX8_ones_25 : decode cX8_ones 25 = .ok (.ireturn, 1) := by decide +kernel
theorem dX8_collects_0 : decode cX8_collects 0 = .ok (.aload_n 0, 1) := by decide +kernel
theorem dX8_collects_1 : decode cX8_collects 1 = .ok (.invokevirtual 84, 3) := by decide +kernel
theorem dX8_collects_4 : decode cX8_collects 4 = .ok (.aload_n 0, 1) := by decide +kernel
theorem dX8_collects_5 : decode cX8_collects 5 = .ok (.invokevirtual 145, 3) := by decide +kernel
theorem dX8_collects_8 : decode cX8_collects 8 = .ok (.istore_n 1, 1) := by decide +kernel
theorem dX8_collects_9 : decode cX8_collects 9 = .ok (.aload_n 0, 1) := by decide +kernel
theorem dX8_collects_10 : decode cX8_collects 10 = .ok (.invokevirtual 142, 3) := by decide +kernel
theorem dX8_collects_13 : decode cX8_collects 13 = .ok (.iload_n 1, 1) := by decide +kernel
theorem dX8_collects_14 : decode cX8_collects 14 = .ok (.iconst (-1), 1) := by decide +kernel
theorem dX8_collects_15 : decode cX8_collects 15 = .ok (.ixor, 1) := by decide +kernel
theorem dX8_collects_16 : decode cX8_collects 16 = .ok (.iand, 1) := by decide +kernel
theorem dX8_collects_17 : decode cX8_collects 17 = .ok (.istore_n 2, 1) := by decide +kernel
theorem dX8_collects_18 : decode cX8_collects 18 = .ok (.iconst 0, 1) := by decide +kernel
theorem dX8_collects_19 : decode cX8_collects 19 = .ok (.istore_n 3, 1) := by decide +kernel
theorem dX8_collects_20 : decode cX8_collects 20 = .ok (.iload_n 3, 1) := by decide +kernel
theorem dX8_collects_21 : decode cX8_collects 21 = .ok (.bipush 10, 2) := by decide +kernel
theorem dX8_collects_23 : decode cX8_collects 23 = .ok (.if_icmp .ge 53, 3) := by decide +kernel
theorem dX8_collects_26 : decode cX8_collects 26 = .ok (.aload_n 0, 1) := by decide +kernel
theorem dX8_collects_27 : decode cX8_collects 27 = .ok (.getfield 9, 3) := by decide +kernel
theorem dX8_collects_30 : decode cX8_collects 30 = .ok (.bipush 50, 2) := by decide +kernel
theorem dX8_collects_32 : decode cX8_collects 32 = .ok (.iload_n 3, 1) := by decide +kernel
theorem dX8_collects_33 : decode cX8_collects 33 = .ok (.imul, 1) := by decide +kernel
theorem dX8_collects_34 : decode cX8_collects 34 = .ok (.iconst 4, 1) := by decide +kernel
theorem dX8_collects_35 : decode cX8_collects 35 = .ok (.iadd, 1) := by decide +kernel
theorem dX8_collects_36 : decode cX8_collects 36 = .ok (.iaload, 1) := by decide +kernel
theorem dX8_collects_37 : decode cX8_collects 37 = .ok (.istore 4, 2) := by decide +kernel
theorem dX8_collects_39 : decode cX8_collects 39 = .ok (.iload_n 1, 1) := by decide +kernel
theorem dX8_collects_40 : decode cX8_collects 40 = .ok (.iload_n 3, 1) := by decide +kernel
theorem dX8_collects_41 : decode cX8_collects 41 = .ok (.ishr, 1) := by decide +kernel
theorem dX8_collects_42 : decode cX8_collects 42 = .ok (.iconst 1, 1) := by decide +kernel
theorem dX8_collects_43 : decode cX8_collects 43 = .ok (.iand, 1) := by decide +kernel
theorem dX8_collects_44 : decode cX8_collects 44 = .ok (.iconst 1, 1) := by decide +kernel
theorem dX8_collects_45 : decode cX8_collects 45 = .ok (.if_icmp .ne 25, 3) := by decide +kernel
theorem dX8_collects_48 : decode cX8_collects 48 = .ok (.iload 4, 2) := by decide +kernel
theorem dX8_collects_50 : decode cX8_collects 50 = .ok (.bipush (-9), 2) := by decide +kernel
theorem dX8_collects_52 : decode cX8_collects 52 = .ok (.if_icmp .eq 18, 3) := by decide +kernel
theorem dX8_collects_55 : decode cX8_collects 55 = .ok (.iload_n 2, 1) := by decide +kernel
theorem dX8_collects_56 : decode cX8_collects 56 = .ok (.iload 4, 2) := by decide +kernel
theorem dX8_collects_58 : decode cX8_collects 58 = .ok (.ishr, 1) := by decide +kernel
theorem dX8_collects_59 : decode cX8_collects 59 = .ok (.iconst 1, 1) := by decide +kernel
theorem dX8_collects_60 : decode cX8_collects 60 = .ok (.iand, 1) := by decide +kernel
theorem dX8_collects_61 : decode cX8_collects 61 = .ok (.iconst 1, 1) := by decide +kernel
theorem dX8_collects_62 : decode cX8_collects 62 = .ok (.if_icmp .ne 8, 3) := by decide +kernel
theorem dX8_collects_65 : decode cX8_collects 65 = .ok (.aload_n 0, 1) := by decide +kernel
theorem dX8_collects_66 : decode cX8_collects 66 = .ok (.iload_n 3, 1) := by decide +kernel
theorem dX8_collects_67 : decode cX8_collects 67 = .ok (.invokevirtual 109, 3) := by decide +kernel
theorem dX8_collects_70 : decode cX8_collects 70 = .ok (.iinc 3 1, 3) := by decide +kernel
theorem dX8_collects_73 : decode cX8_collects 73 = .ok (.goto (-53), 3) := by decide +kernel
theorem dX8_collects_76 : decode cX8_collects 76 = .ok (.iconst 0, 1) := by decide +kernel
theorem dX8_collects_77 : decode cX8_collects 77 = .ok (.istore_n 3, 1) := by decide +kernel
theorem dX8_collects_78 : decode cX8_collects 78 = .ok (.iload_n 3, 1) := by decide +kernel
theorem dX8_collects_79 : decode cX8_collects 79 = .ok (.bipush 10, 2) := by decide +kernel
theorem dX8_collects_81 : decode cX8_collects 81 = .ok (.if_icmp .ge 30, 3) := by decide +kernel
theorem dX8_collects_84 : decode cX8_collects 84 = .ok (.iload_n 2, 1) := by decide +kernel
theorem dX8_collects_85 : decode cX8_collects 85 = .ok (.iload_n 3, 1) := by decide +kernel
theorem dX8_collects_86 : decode cX8_collects 86 = .ok (.ishr, 1) := by decide +kernel
theorem dX8_collects_87 : decode cX8_collects 87 = .ok (.iconst 1, 1) := by decide +kernel
theorem dX8_collects_88 : decode cX8_collects 88 = .ok (.iand, 1) := by decide +kernel
theorem dX8_collects_89 : decode cX8_collects 89 = .ok (.iconst 1, 1) := by decide +kernel
theorem dX8_collects_90 : decode cX8_collects 90 = .ok (.if_icmp .ne 15, 3) := by decide +kernel
theorem dX8_collects_93 : decode cX8_collects 93 = .ok (.aload_n 0, 1) := by decide +kernel
theorem dX8_collects_94 : decode cX8_collects 94 = .ok (.getfield 9, 3) := by decide +kernel
theorem dX8_collects_97 : decode cX8_collects 97 = .ok (.bipush 50, 2) := by decide +kernel
theorem dX8_collects_99 : decode cX8_collects 99 = .ok (.iload_n 3, 1) := by decide +kernel
theorem dX8_collects_100 : decode cX8_collects 100 = .ok (.imul, 1) := by decide +kernel
theorem dX8_collects_101 : decode cX8_collects 101 = .ok (.iconst 0, 1) := by decide +kernel
theorem dX8_collects_102 : decode cX8_collects 102 = .ok (.iadd, 1) := by decide +kernel
theorem dX8_collects_103 : decode cX8_collects 103 = .ok (.iconst 0, 1) := by decide +kernel
theorem dX8_collects_104 : decode cX8_collects 104 = .ok (.iastore, 1) := by decide +kernel
theorem dX8_collects_105 : decode cX8_collects 105 = .ok (.iinc 3 1, 3) := by decide +kernel
theorem dX8_collects_108 : decode cX8_collects 108 = .ok (.goto (-30), 3) := by decide +kernel
theorem dX8_collects_111 : decode cX8_collects 111 = .ok (.iload_n 2, 1) := by decide +kernel
theorem dX8_collects_112 : decode cX8_collects 112 = .ok (.invokestatic 148, 3) := by decide +kernel
theorem dX8_collects_115 : decode cX8_collects 115 = .ok (.ireturn, 1) := by decide +kernel
theorem dX8_collect_0 : decode cX8_collect 0 = .ok (.aload_n 0, 1) := by decide +kernel
theorem dX8_collect_1 : decode cX8_collect 1 = .ok (.invokevirtual 151, 3) := by decide +kernel
theorem dX8_collect_4 : decode cX8_collect 4 = .ok (.ireturn, 1) := by decide +kernel
theorem dX8_damages_0 : decode cX8_damages 0 = .ok (.aload_n 0, 1) := by decide +kernel
theorem dX8_damages_1 : decode cX8_damages 1 = .ok (.iload_n 1, 1) := by decide +kernel
theorem dX8_damages_2 : decode cX8_damages 2 = .ok (.invokevirtual 59, 3) := by decide +kernel
theorem dX8_damages_5 : decode cX8_damages 5 = .ok (.ifCond .ne 9, 3) := by decide +kernel
theorem dX8_damages_8 : decode cX8_damages 8 = .ok (.aload_n 0, 1) := by decide +kernel
theorem dX8_damages_9 : decode cX8_damages 9 = .ok (.iconst (-1), 1) := by decide +kernel
theorem dX8_damages_10 : decode cX8_damages 10 = .ok (.invokevirtual 51, 3) := by decide +kernel
theorem dX8_damages_13 : decode cX8_damages 13 = .ok (.ireturn, 1) := by decide +kernel
theorem dX8_damages_14 : decode cX8_damages 14 = .ok (.aload_n 0, 1) := by decide +kernel
theorem dX8_damages_15 : decode cX8_damages 15 = .ok (.getfield 9, 3) := by decide +kernel
theorem dX8_damages_18 : decode cX8_damages 18 = .ok (.bipush 50, 2) := by decide +kernel
theorem dX8_damages_20 : decode cX8_damages 20 = .ok (.iload_n 1, 1) := by decide +kernel
theorem dX8_damages_21 : decode cX8_damages 21 = .ok (.imul, 1) := by decide +kernel
theorem dX8_damages_22 : decode cX8_damages 22 = .ok (.iconst 4, 1) := by decide +kernel
theorem dX8_damages_23 : decode cX8_damages 23 = .ok (.iadd, 1) := by decide +kernel
theorem dX8_damages_24 : decode cX8_damages 24 = .ok (.iaload, 1) := by decide +kernel
theorem dX8_damages_25 : decode cX8_damages 25 = .ok (.bipush (-9), 2) := by decide +kernel
theorem dX8_damages_27 : decode cX8_damages 27 = .ok (.if_icmp .eq 10, 3) := by decide +kernel
theorem dX8_damages_30 : decode cX8_damages 30 = .ok (.aload_n 0, 1) := by decide +kernel
theorem dX8_damages_31 : decode cX8_damages 31 = .ok (.bipush (-3), 2) := by decide +kernel
theorem dX8_damages_33 : decode cX8_damages 33 = .ok (.invokevirtual 51, 3) := by decide +kernel
theorem dX8_damages_36 : decode cX8_damages 36 = .ok (.ireturn, 1) := by decide +kernel
theorem dX8_damages_37 : decode cX8_damages 37 = .ok (.iload_n 2, 1) := by decide +kernel
theorem dX8_damages_38 : decode cX8_damages 38 = .ok (.iconst 0, 1) := by decide +kernel
theorem dX8_damages_39 : decode cX8_damages 39 = .ok (.aload_n 0, 1) := by decide +kernel
theorem dX8_damages_40 : decode cX8_damages 40 = .ok (.getfield 9, 3) := by decide +kernel
theorem dX8_damages_43 : decode cX8_damages 43 = .ok (.bipush 50, 2) := by decide +kernel
theorem dX8_damages_45 : decode cX8_damages 45 = .ok (.iload_n 1, 1) := by decide +kernel
theorem dX8_damages_46 : decode cX8_damages 46 = .ok (.imul, 1) := by decide +kernel
theorem dX8_damages_47 : decode cX8_damages 47 = .ok (.iconst 5, 1) := by decide +kernel
theorem dX8_damages_48 : decode cX8_damages 48 = .ok (.iadd, 1) := by decide +kernel
theorem dX8_damages_49 : decode cX8_damages 49 = .ok (.iaload, 1) := by decide +kernel
theorem dX8_damages_50 : decode cX8_damages 50 = .ok (.iconst 1, 1) := by decide +kernel
theorem dX8_damages_51 : decode cX8_damages 51 = .ok (.isub, 1) := by decide +kernel
theorem dX8_damages_52 : decode cX8_damages 52 = .ok (.invokestatic 55, 3) := by decide +kernel
theorem dX8_damages_55 : decode cX8_damages 55 = .ok (.ifCond .ne 9, 3) := by decide +kernel
theorem dX8_damages_58 : decode cX8_damages 58 = .ok (.aload_n 0, 1) := by decide +kernel
theorem dX8_damages_59 : decode cX8_damages 59 = .ok (.iconst (-1), 1) := by decide +kernel
theorem dX8_damages_60 : decode cX8_damages 60 = .ok (.invokevirtual 51, 3) := by decide +kernel
theorem dX8_damages_63 : decode cX8_damages 63 = .ok (.ireturn, 1) := by decide +kernel
theorem dX8_damages_64 : decode cX8_damages 64 = .ok (.iload_n 3, 1) := by decide +kernel
theorem dX8_damages_65 : decode cX8_damages 65 = .ok (.iconst 0, 1) := by decide +kernel
theorem dX8_damages_66 : decode cX8_damages 66 = .ok (.bipush 7, 2) := by decide +kernel
theorem dX8_damages_68 : decode cX8_damages 68 = .ok (.invokestatic 55, 3) := by decide +kernel
theorem dX8_damages_71 : decode cX8_damages 71 = .ok (.ifCond .ne 10, 3) := by decide +kernel
theorem dX8_damages_74 : decode cX8_damages 74 = .ok (.aload_n 0, 1) := by decide +kernel
theorem dX8_damages_75 : decode cX8_damages 75 = .ok (.bipush (-2), 2) := by decide +kernel
theorem dX8_damages_77 : decode cX8_damages 77 = .ok (.invokevirtual 51, 3) := by decide +kernel
theorem dX8_damages_80 : decode cX8_damages 80 = .ok (.ireturn, 1) := by decide +kernel
theorem dX8_damages_81 : decode cX8_damages 81 = .ok (.aload_n 0, 1) := by decide +kernel
theorem dX8_damages_82 : decode cX8_damages 82 = .ok (.getfield 9, 3) := by decide +kernel
theorem dX8_damages_85 : decode cX8_damages 85 = .ok (.bipush 50, 2) := by decide +kernel
theorem dX8_damages_87 : decode cX8_damages 87 = .ok (.iload_n 1, 1) := by decide +kernel
theorem dX8_damages_88 : decode cX8_damages 88 = .ok (.imul, 1) := by decide +kernel
theorem dX8_damages_89 : decode cX8_damages 89 = .ok (.bipush 6, 2) := by decide +kernel
theorem dX8_damages_91 : decode cX8_damages 91 = .ok (.iadd, 1) := by decide +kernel
theorem dX8_damages_92 : decode cX8_damages 92 = .ok (.iload_n 2, 1) := by decide +kernel
theorem dX8_damages_93 : decode cX8_damages 93 = .ok (.iadd, 1) := by decide +kernel
theorem dX8_damages_94 : decode cX8_damages 94 = .ok (.iaload, 1) := by decide +kernel
theorem dX8_damages_95 : decode cX8_damages 95 = .ok (.istore 4, 2) := by decide +kernel
theorem dX8_damages_97 : decode cX8_damages 97 = .ok (.aload_n 0, 1) := by decide +kernel
theorem dX8_damages_98 : decode cX8_damages 98 = .ok (.getfield 9, 3) := by decide +kernel
theorem dX8_damages_101 : decode cX8_damages 101 = .ok (.bipush 50, 2) := by decide +kernel
theorem dX8_damages_103 : decode cX8_damages 103 = .ok (.iload_n 1, 1) := by decide +kernel
theorem dX8_damages_104 : decode cX8_damages 104 = .ok (.imul, 1) := by decide +kernel
theorem dX8_damages_105 : decode cX8_damages 105 = .ok (.bipush 6, 2) := by decide +kernel
theorem dX8_damages_107 : decode cX8_damages 107 = .ok (.iadd, 1) := by decide +kernel
theorem dX8_damages_108 : decode cX8_damages 108 = .ok (.iload_n 2, 1) := by decide +kernel
theorem dX8_damages_109 : decode cX8_damages 109 = .ok (.iadd, 1) := by decide +kernel
theorem dX8_damages_110 : decode cX8_damages 110 = .ok (.iload_n 3, 1) := by decide +kernel
theorem dX8_damages_111 : decode cX8_damages 111 = .ok (.iastore, 1) := by decide +kernel
theorem dX8_damages_112 : decode cX8_damages 112 = .ok (.iload 4, 2) := by decide +kernel
theorem dX8_damages_114 : decode cX8_damages 114 = .ok (.ireturn, 1) := by decide +kernel
theorem dX8_letter_0 : decode cX8_letter 0 = .ok (.iload_n 1, 1) := by decide +kernel
theorem dX8_letter_1 : decode cX8_letter 1 = .ok (.ifCond .ge 10, 3) := by decide +kernel
theorem dX8_letter_4 : decode cX8_letter 4 = .ok (.aload_n 0, 1) := by decide +kernel
theorem dX8_letter_5 : decode cX8_letter 5 = .ok (.bipush (-4), 2) := by decide +kernel
theorem dX8_letter_7 : decode cX8_letter 7 = .ok (.invokevirtual 51, 3) := by decide +kernel
theorem dX8_letter_10 : decode cX8_letter 10 = .ok (.ireturn, 1) := by decide +kernel
theorem dX8_letter_11 : decode cX8_letter 11 = .ok (.iload_n 1, 1) := by decide +kernel
theorem dX8_letter_12 : decode cX8_letter 12 = .ok (.sipush 255, 3) := by decide +kernel
theorem dX8_letter_15 : decode cX8_letter 15 = .ok (.if_icmp .gt 12, 3) := by decide +kernel
theorem dX8_letter_18 : decode cX8_letter 18 = .ok (.aload_n 0, 1) := by decide +kernel
theorem dX8_letter_19 : decode cX8_letter 19 = .ok (.getfield 154, 3) := by decide +kernel
theorem dX8_letter_22 : decode cX8_letter 22 = .ok (.bipush 96, 2) := by decide +kernel
theorem dX8_letter_24 : decode cX8_letter 24 = .ok (.if_icmp .ne 10, 3) := by decide +kernel
theorem dX8_letter_27 : decode cX8_letter 27 = .ok (.aload_n 0, 1) := by decide +kernel
theorem dX8_letter_28 : decode cX8_letter 28 = .ok (.bipush (-6), 2) := by decide +kernel
theorem dX8_letter_30 : decode cX8_letter 30 = .ok (.invokevirtual 51, 3) := by decide +kernel
theorem dX8_letter_33 : decode cX8_letter 33 = .ok (.ireturn, 1) := by decide +kernel
theorem dX8_letter_34 : decode cX8_letter 34 = .ok (.aload_n 0, 1) := by decide +kernel
theorem dX8_letter_35 : decode cX8_letter 35 = .ok (.getfield 25, 3) := by decide +kernel
theorem dX8_letter_38 : decode cX8_letter 38 = .ok (.aload_n 0, 1) := by decide +kernel
theorem dX8_letter_39 : decode cX8_letter 39 = .ok (.getfield 154, 3) := by decide +kernel
theorem dX8_letter_42 : decode cX8_letter 42 = .ok (.iload_n 1, 1) := by decide +kernel
theorem dX8_letter_43 : decode cX8_letter 43 = .ok (.iastore, 1) := by decide +kernel
theorem dX8_letter_44 : decode cX8_letter 44 = .ok (.aload_n 0, 1) := by decide +kernel
theorem dX8_letter_45 : decode cX8_letter 45 = .ok (.dup, 1) := by decide +kernel
theorem dX8_letter_46 : decode cX8_letter 46 = .ok (.getfield 154, 3) := by decide +kernel
theorem dX8_letter_49 : decode cX8_letter 49 = .ok (.iconst 1, 1) := by decide +kernel
theorem dX8_letter_50 : decode cX8_letter 50 = .ok (.iadd, 1) := by decide +kernel
theorem dX8_letter_51 : decode cX8_letter 51 = .ok (.putfield 154, 3) := by decide +kernel
theorem dX8_letter_54 : decode cX8_letter 54 = .ok (.aload_n 0, 1) := by decide +kernel
theorem dX8_letter_55 : decode cX8_letter 55 = .ok (.getfield 154, 3) := by decide +kernel
theorem dX8_letter_58 : decode cX8_letter 58 = .ok (.ireturn, 1) := by decide +kernel
theorem dX8_isAt_0 : decode cX8_isAt 0 = .ok (.aload_n 0, 1) := by decide +kernel
theorem dX8_isAt_1 : decode cX8_isAt 1 = .ok (.getfield 157, 3) := by decide +kernel
theorem dX8_isAt_4 : decode cX8_isAt 4 = .ok (.aload_n 0, 1) := by decide +kernel
theorem dX8_isAt_5 : decode cX8_isAt 5 = .ok (.getfield 154, 3) := by decide +kernel
theorem dX8_isAt_8 : decode cX8_isAt 8 = .ok (.if_icmp .ge 33, 3) := by decide +kernel
theorem dX8_isAt_11 : decode cX8_isAt 11 = .ok (.aload_n 0, 1) := by decide +kernel
theorem dX8_isAt_12 : decode cX8_isAt 12 = .ok (.getfield 25, 3) := by decide +kernel
theorem dX8_isAt_15 : decode cX8_isAt 15 = .ok (.aload_n 0, 1) := by decide +kernel
theorem dX8_isAt_16 : decode cX8_isAt 16 = .ok (.getfield 157, 3) := by decide +kernel
theorem dX8_isAt_19 : decode cX8_isAt 19 = .ok (.iaload, 1) := by decide +kernel
theorem dX8_isAt_20 : decode cX8_isAt 20 = .ok (.iload_n 1, 1) := by decide +kernel
theorem dX8_isAt_21 : decode cX8_isAt 21 = .ok (.if_icmp .lt 20, 3) := by decide +kernel
theorem dX8_isAt_24 : decode cX8_isAt 24 = .ok (.aload_n 0, 1) := by decide +kernel
theorem dX8_isAt_25 : decode cX8_isAt 25 = .ok (.getfield 25, 3) := by decide +kernel
theorem dX8_isAt_28 : decode cX8_isAt 28 = .ok (.aload_n 0, 1) := by decide +kernel
theorem dX8_isAt_29 : decode cX8_isAt 29 = .ok (.getfield 157, 3) := by decide +kernel
theorem dX8_isAt_32 : decode cX8_isAt 32 = .ok (.iaload, 1) := by decide +kernel
theorem dX8_isAt_33 : decode cX8_isAt 33 = .ok (.iload_n 2, 1) := by decide +kernel
theorem dX8_isAt_34 : decode cX8_isAt 34 = .ok (.if_icmp .gt 7, 3) := by decide +kernel
theorem dX8_isAt_37 : decode cX8_isAt 37 = .ok (.iconst 1, 1) := by decide +kernel
theorem dX8_isAt_38 : decode cX8_isAt 38 = .ok (.goto 4, 3) := by decide +kernel
theorem dX8_isAt_41 : decode cX8_isAt 41 = .ok (.iconst 0, 1) := by decide +kernel
theorem dX8_isAt_42 : decode cX8_isAt 42 = .ok (.ireturn, 1) := by decide +kernel
theorem dX8_takes_0 : decode cX8_takes 0 = .ok (.aload_n 0, 1) := by decide +kernel
theorem dX8_takes_1 : decode cX8_takes 1 = .ok (.getfield 160, 3) := by decide +kernel
theorem dX8_takes_4 : decode cX8_takes 4 = .ok (.ifCond .eq 5, 3) := by decide +kernel
theorem dX8_takes_7 : decode cX8_takes 7 = .ok (.iconst 0, 1) := by decide +kernel
theorem dX8_takes_8 : decode cX8_takes 8 = .ok (.ireturn, 1) := by decide +kernel
theorem dX8_takes_9 : decode cX8_takes 9 = .ok (.aload_n 0, 1) := by decide +kernel
theorem dX8_takes_10 : decode cX8_takes 10 = .ok (.iload_n 1, 1) := by decide +kernel
theorem dX8_takes_11 : decode cX8_takes 11 = .ok (.iload_n 2, 1) := by decide +kernel
theorem dX8_takes_12 : decode cX8_takes 12 = .ok (.invokevirtual 163, 3) := by decide +kernel
theorem dX8_takes_15 : decode cX8_takes 15 = .ok (.ifCond .ne 17, 3) := by decide +kernel
theorem dX8_takes_18 : decode cX8_takes 18 = .ok (.aload_n 0, 1) := by decide +kernel
theorem dX8_takes_19 : decode cX8_takes 19 = .ok (.sipush (-1000), 3) := by decide +kernel
theorem dX8_takes_22 : decode cX8_takes 22 = .ok (.aload_n 0, 1) := by decide +kernel
theorem dX8_takes_23 : decode cX8_takes 23 = .ok (.getfield 157, 3) := by decide +kernel
theorem dX8_takes_26 : decode cX8_takes 26 = .ok (.isub, 1) := by decide +kernel
theorem dX8_takes_27 : decode cX8_takes 27 = .ok (.putfield 160, 3) := by decide +kernel
theorem dX8_takes_30 : decode cX8_takes 30 = .ok (.iconst 0, 1) := by decide +kernel
theorem dX8_takes_31 : decode cX8_takes 31 = .ok (.ireturn, 1) := by decide +kernel
theorem dX8_takes_32 : decode cX8_takes 32 = .ok (.aload_n 0, 1) := by decide +kernel
theorem dX8_takes_33 : decode cX8_takes 33 = .ok (.dup, 1) := by decide +kernel
theorem dX8_takes_34 : decode cX8_takes 34 = .ok (.getfield 157, 3) := by decide +kernel
theorem dX8_takes_37 : decode cX8_takes 37 = .ok (.iconst 1, 1) := by decide +kernel
theorem dX8_takes_38 : decode cX8_takes 38 = .ok (.iadd, 1) := by decide +kernel
theorem dX8_takes_39 : decode cX8_takes 39 = .ok (.putfield 157, 3) := by decide +kernel
theorem dX8_takes_42 : decode cX8_takes 42 = .ok (.aload_n 0, 1) := by decide +kernel
theorem dX8_takes_43 : decode cX8_takes 43 = .ok (.getfield 25, 3) := by decide +kernel
theorem dX8_takes_46 : decode cX8_takes 46 = .ok (.aload_n 0, 1) := by decide +kernel
theorem dX8_takes_47 : decode cX8_takes 47 = .ok (.getfield 157, 3) := by decide +kernel
theorem dX8_takes_50 : decode cX8_takes 50 = .ok (.iconst 1, 1) := by decide +kernel
theorem dX8_takes_51 : decode cX8_takes 51 = .ok (.isub, 1) := by decide +kernel
theorem dX8_takes_52 : decode cX8_takes 52 = .ok (.iaload, 1) := by decide +kernel
theorem dX8_takes_53 : decode cX8_takes 53 = .ok (.iload_n 1, 1) := by decide +kernel
theorem dX8_takes_54 : decode cX8_takes 54 = .ok (.isub, 1) := by decide +kernel
theorem dX8_takes_55 : decode cX8_takes 55 = .ok (.ireturn, 1) := by decide +kernel
theorem dX8_orNone_0 : decode cX8_orNone 0 = .ok (.aload_n 0, 1) := by decide +kernel
theorem dX8_orNone_1 : decode cX8_orNone 1 = .ok (.getfield 160, 3) := by decide +kernel
theorem dX8_orNone_4 : decode cX8_orNone 4 = .ok (.ifCond .ne 27, 3) := by decide +kernel
theorem dX8_orNone_7 : decode cX8_orNone 7 = .ok (.aload_n 0, 1) := by decide +kernel
theorem dX8_orNone_8 : decode cX8_orNone 8 = .ok (.bipush 46, 2) := by decide +kernel
theorem dX8_orNone_10 : decode cX8_orNone 10 = .ok (.bipush 46, 2) := by decide +kernel
theorem dX8_orNone_12 : decode cX8_orNone 12 = .ok (.invokevirtual 163, 3) := by decide +kernel
theorem dX8_orNone_15 : decode cX8_orNone 15 = .ok (.ifCond .eq 16, 3) := by decide +kernel
theorem dX8_orNone_18 : decode cX8_orNone 18 = .ok (.aload_n 0, 1) := by decide +kernel
theorem dX8_orNone_19 : decode cX8_orNone 19 = .ok (.dup, 1) := by decide +kernel
theorem dX8_orNone_20 : decode cX8_orNone 20 = .ok (.getfield 157, 3) := by decide +kernel
theorem dX8_orNone_23 : decode cX8_orNone 23 = .ok (.iconst 1, 1) := by decide +kernel
theorem dX8_orNone_24 : decode cX8_orNone 24 = .ok (.iadd, 1) := by decide +kernel
theorem dX8_orNone_25 : decode cX8_orNone 25 = .ok (.putfield 157, 3) := by decide +kernel
theorem dX8_orNone_28 : decode cX8_orNone 28 = .ok (.bipush (-9), 2) := by decide +kernel
theorem dX8_orNone_30 : decode cX8_orNone 30 = .ok (.ireturn, 1) := by decide +kernel
theorem dX8_orNone_31 : decode cX8_orNone 31 = .ok (.aload_n 0, 1) := by decide +kernel
theorem dX8_orNone_32 : decode cX8_orNone 32 = .ok (.bipush 48, 2) := by decide +kernel
theorem dX8_orNone_34 : decode cX8_orNone 34 = .ok (.bipush 57, 2) := by decide +kernel
theorem dX8_orNone_36 : decode cX8_orNone 36 = .ok (.invokevirtual 166, 3) := by decide +kernel
theorem dX8_orNone_39 : decode cX8_orNone 39 = .ok (.ireturn, 1) := by decide +kernel
theorem dX8_statement_0 : decode cX8_statement 0 = .ok (.aload_n 0, 1) := by decide +kernel
theorem dX8_statement_1 : decode cX8_statement 1 = .ok (.getfield 157, 3) := by decide +kernel
theorem dX8_statement_4 : decode cX8_statement 4 = .ok (.aload_n 0, 1) := by decide +kernel
theorem dX8_statement_5 : decode cX8_statement 5 = .ok (.getfield 154, 3) := by decide +kernel
theorem dX8_statement_8 : decode cX8_statement 8 = .ok (.if_icmp .ge 15, 3) := by decide +kernel
theorem dX8_statement_11 : decode cX8_statement 11 = .ok (.aload_n 0, 1) := by decide +kernel
theorem dX8_statement_12 : decode cX8_statement 12 = .ok (.getfield 25, 3) := by decide +kernel
theorem dX8_statement_15 : decode cX8_statement 15 = .ok (.aload_n 0, 1) := by decide +kernel
theorem dX8_statement_16 : decode cX8_statement 16 = .ok (.getfield 157, 3) := by decide +kernel
theorem dX8_statement_19 : decode cX8_statement 19 = .ok (.iaload, 1) := by decide +kernel
theorem dX8_statement_20 : decode cX8_statement 20 = .ok (.goto 4, 3) := by decide +kernel
theorem dX8_statement_23 : decode cX8_statement 23 = .ok (.iconst 0, 1) := by decide +kernel
theorem dX8_statement_24 : decode cX8_statement 24 = .ok (.istore_n 2, 1) := by decide +kernel
theorem dX8_statement_25 : decode cX8_statement 25 = .ok (.iload_n 2, 1) := by decide +kernel
theorem dX8_statement_26 : decode cX8_statement 26 = .ok (.bipush 118, 2) := by decide +kernel
theorem dX8_statement_28 : decode cX8_statement 28 = .ok (.if_icmp .eq 53, 3) := by decide +kernel
theorem dX8_statement_31 : decode cX8_statement 31 = .ok (.iload_n 2, 1) := by decide +kernel
theorem dX8_statement_32 : decode cX8_statement 32 = .ok (.bipush 104, 2) := by decide +kernel
theorem dX8_statement_34 : decode cX8_statement 34 = .ok (.if_icmp .eq 47, 3) := by decide +kernel
theorem dX8_statement_37 : decode cX8_statement 37 = .ok (.iload_n 2, 1) := by decide +kernel
theorem dX8_statement_38 : decode cX8_statement 38 = .ok (.bipush 107, 2) := by decide +kernel
theorem dX8_statement_40 : decode cX8_statement 40 = .ok (.if_icmp .eq 41, 3) := by decide +kernel
theorem dX8_statement_43 : decode cX8_statement 43 = .ok (.iload_n 2, 1) := by decide +kernel
theorem dX8_statement_44 : decode cX8_statement 44 = .ok (.bipush 100, 2) := by decide +kernel
theorem dX8_statement_46 : decode cX8_statement 46 = .ok (.if_icmp .eq 35, 3) := by decide +kernel
theorem dX8_statement_49 : decode cX8_statement 49 = .ok (.iload_n 2, 1) := by decide +kernel
theorem dX8_statement_50 : decode cX8_statement 50 = .ok (.bipush 114, 2) := by decide +kernel
theorem dX8_statement_52 : decode cX8_statement 52 = .ok (.if_icmp .eq 29, 3) := by decide +kernel
theorem dX8_statement_55 : decode cX8_statement 55 = .ok (.iload_n 2, 1) := by decide +kernel
theorem dX8_statement_56 : decode cX8_statement 56 = .ok (.bipush 99, 2) := by decide +kernel
theorem dX8_statement_58 : decode cX8_statement 58 = .ok (.if_icmp .eq 23, 3) := by decide +kernel
theorem dX8_statement_61 : decode cX8_statement 61 = .ok (.iload_n 2, 1) := by decide +kernel
theorem dX8_statement_62 : decode cX8_statement 62 = .ok (.bipush 120, 2) := by decide +kernel
theorem dX8_statement_64 : decode cX8_statement 64 = .ok (.if_icmp .eq 17, 3) := by decide +kernel
theorem dX8_statement_67 : decode cX8_statement 67 = .ok (.aload_n 0, 1) := by decide +kernel
theorem dX8_statement_68 : decode cX8_statement 68 = .ok (.sipush (-1000), 3) := by decide +kernel
theorem dX8_statement_71 : decode cX8_statement 71 = .ok (.aload_n 0, 1) := by decide +kernel
theorem dX8_statement_72 : decode cX8_statement 72 = .ok (.getfield 157, 3) := by decide +kernel
theorem dX8_statement_75 : decode cX8_statement 75 = .ok (.isub, 1) := by decide +kernel
theorem dX8_statement_76 : decode cX8_statement 76 = .ok (.putfield 160, 3) := by decide +kernel
theorem dX8_statement_79 : decode cX8_statement 79 = .ok (.iconst 0, 1) := by decide +kernel
theorem dX8_statement_80 : decode cX8_statement 80 = .ok (.ireturn, 1) := by decide +kernel
theorem dX8_statement_81 : decode cX8_statement 81 = .ok (.aload_n 0, 1) := by decide +kernel
theorem dX8_statement_82 : decode cX8_statement 82 = .ok (.dup, 1) := by decide +kernel
theorem dX8_statement_83 : decode cX8_statement 83 = .ok (.getfield 157, 3) := by decide +kernel
theorem dX8_statement_86 : decode cX8_statement 86 = .ok (.iconst 1, 1) := by decide +kernel
theorem dX8_statement_87 : decode cX8_statement 87 = .ok (.iadd, 1) := by decide +kernel
theorem dX8_statement_88 : decode cX8_statement 88 = .ok (.putfield 157, 3) := by decide +kernel
theorem dX8_statement_91 : decode cX8_statement 91 = .ok (.iload_n 2, 1) := by decide +kernel
theorem dX8_statement_92 : decode cX8_statement 92 = .ok (.bipush 118, 2) := by decide +kernel
theorem dX8_statement_94 : decode cX8_statement 94 = .ok (.if_icmp .ne 189, 3) := by decide +kernel
theorem dX8_statement_97 : decode cX8_statement 97 = .ok (.aload_n 0, 1) := by decide +kernel
theorem dX8_statement_98 : decode cX8_statement 98 = .ok (.invokevirtual 169, 3) := by decide +kernel
theorem dX8_statement_101 : decode cX8_statement 101 = .ok (.istore_n 3, 1) := by decide +kernel
theorem dX8_statement_102 : decode cX8_statement 102 = .ok (.aload_n 0, 1) := by decide +kernel
theorem dX8_statement_103 : decode cX8_statement 103 = .ok (.invokevirtual 169, 3) := by decide +kernel
theorem dX8_statement_106 : decode cX8_statement 106 = .ok (.istore 4, 2) := by decide +kernel
theorem dX8_statement_108 : decode cX8_statement 108 = .ok (.iload_n 3, 1) := by decide +kernel
theorem dX8_statement_109 : decode cX8_statement 109 = .ok (.bipush (-9), 2) := by decide +kernel
theorem dX8_statement_111 : decode cX8_statement 111 = .ok (.if_icmp .eq 11, 3) := by decide +kernel
theorem dX8_statement_114 : decode cX8_statement 114 = .ok (.aload_n 0, 1) := by decide +kernel
theorem dX8_statement_115 : decode cX8_statement 115 = .ok (.iload_n 3, 1) := by decide +kernel
theorem dX8_statement_116 : decode cX8_statement 116 = .ok (.invokevirtual 59, 3) := by decide +kernel
theorem dX8_statement_119 : decode cX8_statement 119 = .ok (.ifCond .eq 48, 3) := by decide +kernel
theorem dX8_statement_122 : decode cX8_statement 122 = .ok (.iload 4, 2) := by decide +kernel
theorem dX8_statement_124 : decode cX8_statement 124 = .ok (.bipush (-9), 2) := by decide +kernel
theorem dX8_statement_126 : decode cX8_statement 126 = .ok (.if_icmp .eq 24, 3) := by decide +kernel
theorem dX8_statement_129 : decode cX8_statement 129 = .ok (.aload_n 0, 1) := by decide +kernel
theorem dX8_statement_130 : decode cX8_statement 130 = .ok (.iload 4, 2) := by decide +kernel
theorem dX8_statement_132 : decode cX8_statement 132 = .ok (.invokevirtual 59, 3) := by decide +kernel
theorem dX8_statement_135 : decode cX8_statement 135 = .ok (.ifCond .eq 32, 3) := by decide +kernel
theorem dX8_statement_138 : decode cX8_statement 138 = .ok (.iload_n 3, 1) := by decide +kernel
theorem dX8_statement_139 : decode cX8_statement 139 = .ok (.bipush (-9), 2) := by decide +kernel
theorem dX8_statement_141 : decode cX8_statement 141 = .ok (.if_icmp .eq 26, 3) := by decide +kernel
theorem dX8_statement_144 : decode cX8_statement 144 = .ok (.iload_n 3, 1) := by decide +kernel
theorem dX8_statement_145 : decode cX8_statement 145 = .ok (.iload 4, 2) := by decide +kernel
theorem dX8_statement_147 : decode cX8_statement 147 = .ok (.if_icmp .eq 20, 3) := by decide +kernel
theorem dX8_statement_150 : decode cX8_statement 150 = .ok (.aload_n 0, 1) := by decide +kernel
theorem dX8_statement_151 : decode cX8_statement 151 = .ok (.getfield 9, 3) := by decide +kernel
theorem dX8_statement_154 : decode cX8_statement 154 = .ok (.sipush 500, 3) := by decide +kernel
theorem dX8_statement_157 : decode cX8_statement 157 = .ok (.iaload, 1) := by decide +kernel
theorem dX8_statement_158 : decode cX8_statement 158 = .ok (.bipush 10, 2) := by decide +kernel
theorem dX8_statement_160 : decode cX8_statement 160 = .ok (.if_icmp .ge 7, 3) := by decide +kernel
theorem dX8_statement_163 : decode cX8_statement 163 = .ok (.iconst 1, 1) := by decide +kernel
theorem dX8_statement_164 : decode cX8_statement 164 = .ok (.goto 4, 3) := by decide +kernel
theorem dX8_statement_167 : decode cX8_statement 167 = .ok (.iconst 0, 1) := by decide +kernel
theorem dX8_statement_168 : decode cX8_statement 168 = .ok (.istore 5, 2) := by decide +kernel
theorem dX8_statement_170 : decode cX8_statement 170 = .ok (.iload_n 1, 1) := by decide +kernel
theorem dX8_statement_171 : decode cX8_statement 171 = .ok (.ifCond .eq 18, 3) := by decide +kernel
theorem dX8_statement_174 : decode cX8_statement 174 = .ok (.iload 5, 2) := by decide +kernel
theorem dX8_statement_176 : decode cX8_statement 176 = .ok (.ifCond .eq 13, 3) := by decide +kernel
theorem dX8_statement_179 : decode cX8_statement 179 = .ok (.aload_n 0, 1) := by decide +kernel
theorem dX8_statement_180 : decode cX8_statement 180 = .ok (.iload_n 3, 1) := by decide +kernel
theorem dX8_statement_181 : decode cX8_statement 181 = .ok (.iload 4, 2) := by decide +kernel
theorem dX8_statement_183 : decode cX8_statement 183 = .ok (.invokevirtual 119, 3) := by decide +kernel
theorem dX8_statement_186 : decode cX8_statement 186 = .ok (.goto 5, 3) := by decide +kernel
theorem dX8_statement_189 : decode cX8_statement 189 = .ok (.bipush (-9), 2) := by decide +kernel
theorem dX8_statement_191 : decode cX8_statement 191 = .ok (.istore 6, 2) := by decide +kernel
theorem dX8_statement_193 : decode cX8_statement 193 = .ok (.iconst 0, 1) := by decide +kernel
theorem dX8_statement_194 : decode cX8_statement 194 = .ok (.istore 7, 2) := by decide +kernel
theorem dX8_statement_196 : decode cX8_statement 196 = .ok (.iload 7, 2) := by decide +kernel
theorem dX8_statement_198 : decode cX8_statement 198 = .ok (.ifCond .eq 28, 3) := by decide +kernel
theorem dX8_statement_201 : decode cX8_statement 201 = .ok (.iload 7, 2) := by decide +kernel
theorem dX8_statement_203 : decode cX8_statement 203 = .ok (.bipush 12, 2) := by decide +kernel
theorem dX8_statement_205 : decode cX8_statement 205 = .ok (.if_icmp .ge 52, 3) := by decide +kernel
theorem dX8_statement_208 : decode cX8_statement 208 = .ok (.aload_n 0, 1) := by decide +kernel
theorem dX8_statement_209 : decode cX8_statement 209 = .ok (.getfield 160, 3) := by decide +kernel
theorem dX8_statement_212 : decode cX8_statement 212 = .ok (.ifCond .ne 45, 3) := by decide +kernel
theorem dX8_statement_215 : decode cX8_statement 215 = .ok (.aload_n 0, 1) := by decide +kernel
theorem dX8_statement_216 : decode cX8_statement 216 = .ok (.bipush 97, 2) := by decide +kernel
theorem dX8_statement_218 : decode cX8_statement 218 = .ok (.bipush 104, 2) := by decide +kernel
theorem dX8_statement_220 : decode cX8_statement 220 = .ok (.invokevirtual 163, 3) := by decide +kernel
theorem dX8_statement_223 : decode cX8_statement 223 = .ok (.ifCond .eq 34, 3) := by decide +kernel
theorem dX8_statement_226 : decode cX8_statement 226 = .ok (.aload_n 0, 1) := by decide +kernel
theorem dX8_statement_227 : decode cX8_statement 227 = .ok (.bipush 97, 2) := by decide +kernel
theorem dX8_statement_229 : decode cX8_statement 229 = .ok (.bipush 104, 2) := by decide +kernel
theorem dX8_statement_231 : decode cX8_statement 231 = .ok (.invokevirtual 166, 3) := by decide +kernel
theorem dX8_statement_234 : decode cX8_statement 234 = .ok (.istore 8, 2) := by decide +kernel
theorem dX8_statement_236 : decode cX8_statement 236 = .ok (.iload 6, 2) := by decide +kernel
theorem dX8_statement_238 : decode cX8_statement 238 = .ok (.bipush (-9), 2) := by decide +kernel
theorem dX8_statement_240 : decode cX8_statement 240 = .ok (.if_icmp .eq 11, 3) := by decide +kernel
theorem dX8_statement_243 : decode cX8_statement 243 = .ok (.aload_n 0, 1) := by decide +kernel
theorem dX8_statement_244 : decode cX8_statement 244 = .ok (.iload 6, 2) := by decide +kernel
theorem dX8_statement_246 : decode cX8_statement 246 = .ok (.iload 8, 2) := by decide +kernel
theorem dX8_statement_248 : decode cX8_statement 248 = .ok (.invokevirtual 122, 3) := by decide +kernel
theorem dX8_statement_251 : decode cX8_statement 251 = .ok (.iinc 7 1, 3) := by decide +kernel
theorem dX8_statement_254 : decode cX8_statement 254 = .ok (.goto (-58), 3) := by decide +kernel
theorem dX8_statement_257 : decode cX8_statement 257 = .ok (.aload_n 0, 1) := by decide +kernel
theorem dX8_statement_258 : decode cX8_statement 258 = .ok (.bipush 59, 2) := by decide +kernel
theorem dX8_statement_260 : decode cX8_statement 260 = .ok (.bipush 59, 2) := by decide +kernel
theorem dX8_statement_262 : decode cX8_statement 262 = .ok (.invokevirtual 166, 3) := by decide +kernel
theorem dX8_statement_265 : decode cX8_statement 265 = .ok (.pop, 1) := by decide +kernel
theorem dX8_statement_266 : decode cX8_statement 266 = .ok (.iload 6, 2) := by decide +kernel
theorem dX8_statement_268 : decode cX8_statement 268 = .ok (.bipush (-9), 2) := by decide +kernel
theorem dX8_statement_270 : decode cX8_statement 270 = .ok (.if_icmp .eq 10, 3) := by decide +kernel
theorem dX8_statement_273 : decode cX8_statement 273 = .ok (.aload_n 0, 1) := by decide +kernel
theorem dX8_statement_274 : decode cX8_statement 274 = .ok (.iload 6, 2) := by decide +kernel
theorem dX8_statement_276 : decode cX8_statement 276 = .ok (.invokevirtual 126, 3) := by decide +kernel
theorem dX8_statement_279 : decode cX8_statement 279 = .ok (.pop, 1) := by decide +kernel
theorem dX8_statement_280 : decode cX8_statement 280 = .ok (.iload 5, 2) := by decide +kernel
theorem dX8_statement_282 : decode cX8_statement 282 = .ok (.ireturn, 1) := by decide +kernel
theorem dX8_statement_283 : decode cX8_statement 283 = .ok (.iload_n 2, 1) := by decide +kernel
theorem dX8_statement_284 : decode cX8_statement 284 = .ok (.bipush 104, 2) := by decide +kernel
theorem dX8_statement_286 : decode cX8_statement 286 = .ok (.if_icmp .ne 79, 3) := by decide +kernel
theorem dX8_statement_289 : decode cX8_statement 289 = .ok (.aload_n 0, 1) := by decide +kernel
theorem dX8_statement_290 : decode cX8_statement 290 = .ok (.bipush 48, 2) := by decide +kernel
theorem dX8_statement_292 : decode cX8_statement 292 = .ok (.bipush 57, 2) := by decide +kernel
theorem dX8_statement_294 : decode cX8_statement 294 = .ok (.invokevirtual 166, 3) := by decide +kernel
theorem dX8_statement_297 : decode cX8_statement 297 = .ok (.istore_n 3, 1) := by decide +kernel
theorem dX8_statement_298 : decode cX8_statement 298 = .ok (.aload_n 0, 1) := by decide +kernel
theorem dX8_statement_299 : decode cX8_statement 299 = .ok (.invokevirtual 169, 3) := by decide +kernel
theorem dX8_statement_302 : decode cX8_statement 302 = .ok (.istore 4, 2) := by decide +kernel
theorem dX8_statement_304 : decode cX8_statement 304 = .ok (.aload_n 0, 1) := by decide +kernel
theorem dX8_statement_305 : decode cX8_statement 305 = .ok (.bipush 59, 2) := by decide +kernel
theorem dX8_statement_307 : decode cX8_statement 307 = .ok (.bipush 59, 2) := by decide +kernel
theorem dX8_statement_309 : decode cX8_statement 309 = .ok (.invokevirtual 166, 3) := by decide +kernel
theorem dX8_statement_312 : decode cX8_statement 312 = .ok (.pop, 1) := by decide +kernel
theorem dX8_statement_313 : decode cX8_statement 313 = .ok (.iload_n 3, 1) := by decide +kernel
theorem dX8_statement_314 : decode cX8_statement 314 = .ok (.iconst 4, 1) := by decide +kernel
theorem dX8_statement_315 : decode cX8_statement 315 = .ok (.if_icmp .ge 23, 3) := by decide +kernel
theorem dX8_statement_318 : decode cX8_statement 318 = .ok (.iload 4, 2) := by decide +kernel
theorem dX8_statement_320 : decode cX8_statement 320 = .ok (.bipush (-9), 2) := by decide +kernel
theorem dX8_statement_322 : decode cX8_statement 322 = .ok (.if_icmp .eq 12, 3) := by decide +kernel
theorem dX8_statement_325 : decode cX8_statement 325 = .ok (.aload_n 0, 1) := by decide +kernel
theorem dX8_statement_326 : decode cX8_statement 326 = .ok (.iload 4, 2) := by decide +kernel
theorem dX8_statement_328 : decode cX8_statement 328 = .ok (.invokevirtual 59, 3) := by decide +kernel
theorem dX8_statement_331 : decode cX8_statement 331 = .ok (.ifCond .eq 7, 3) := by decide +kernel
theorem dX8_statement_334 : decode cX8_statement 334 = .ok (.iconst 1, 1) := by decide +kernel
theorem dX8_statement_335 : decode cX8_statement 335 = .ok (.goto 4, 3) := by decide +kernel
theorem dX8_statement_338 : decode cX8_statement 338 = .ok (.iconst 0, 1) := by decide +kernel
theorem dX8_statement_339 : decode cX8_statement 339 = .ok (.istore 5, 2) := by decide +kernel
theorem dX8_statement_341 : decode cX8_statement 341 = .ok (.iload_n 1, 1) := by decide +kernel
theorem dX8_statement_342 : decode cX8_statement 342 = .ok (.ifCond .eq 20, 3) := by decide +kernel
theorem dX8_statement_345 : decode cX8_statement 345 = .ok (.iload 5, 2) := by decide +kernel
theorem dX8_statement_347 : decode cX8_statement 347 = .ok (.ifCond .eq 15, 3) := by decide +kernel
theorem dX8_statement_350 : decode cX8_statement 350 = .ok (.aload_n 0, 1) := by decide +kernel
theorem dX8_statement_351 : decode cX8_statement 351 = .ok (.getfield 9, 3) := by decide +kernel
theorem dX8_statement_354 : decode cX8_statement 354 = .ok (.sipush 501, 3) := by decide +kernel
theorem dX8_statement_357 : decode cX8_statement 357 = .ok (.iload_n 3, 1) := by decide +kernel
theorem dX8_statement_358 : decode cX8_statement 358 = .ok (.iadd, 1) := by decide +kernel
theorem dX8_statement_359 : decode cX8_statement 359 = .ok (.iload 4, 2) := by decide +kernel
theorem dX8_statement_361 : decode cX8_statement 361 = .ok (.iastore, 1) := by decide +kernel
theorem dX8_statement_362 : decode cX8_statement 362 = .ok (.iload 5, 2) := by decide +kernel
theorem dX8_statement_364 : decode cX8_statement 364 = .ok (.ireturn, 1) := by decide +kernel
theorem dX8_statement_365 : decode cX8_statement 365 = .ok (.iload_n 2, 1) := by decide +kernel
theorem dX8_statement_366 : decode cX8_statement 366 = .ok (.bipush 107, 2) := by decide +kernel
theorem dX8_statement_368 : decode cX8_statement 368 = .ok (.if_icmp .eq 9, 3) := by decide +kernel
theorem dX8_statement_371 : decode cX8_statement 371 = .ok (.iload_n 2, 1) := by decide +kernel
theorem dX8_statement_372 : decode cX8_statement 372 = .ok (.bipush 100, 2) := by decide +kernel
theorem dX8_statement_374 : decode cX8_statement 374 = .ok (.if_icmp .ne 134, 3) := by decide +kernel
theorem dX8_statement_377 : decode cX8_statement 377 = .ok (.aload_n 0, 1) := by decide +kernel
theorem dX8_statement_378 : decode cX8_statement 378 = .ok (.bipush 48, 2) := by decide +kernel
theorem dX8_statement_380 : decode cX8_statement 380 = .ok (.bipush 57, 2) := by decide +kernel
theorem dX8_statement_382 : decode cX8_statement 382 = .ok (.invokevirtual 166, 3) := by decide +kernel
theorem dX8_statement_385 : decode cX8_statement 385 = .ok (.istore_n 3, 1) := by decide +kernel
theorem dX8_statement_386 : decode cX8_statement 386 = .ok (.iload_n 2, 1) := by decide +kernel
theorem dX8_statement_387 : decode cX8_statement 387 = .ok (.bipush 107, 2) := by decide +kernel
theorem dX8_statement_389 : decode cX8_statement 389 = .ok (.if_icmp .ne 14, 3) := by decide +kernel
theorem dX8_statement_392 : decode cX8_statement 392 = .ok (.aload_n 0, 1) := by decide +kernel
theorem dX8_statement_393 : decode cX8_statement 393 = .ok (.bipush 48, 2) := by decide +kernel
theorem dX8_statement_395 : decode cX8_statement 395 = .ok (.bipush 57, 2) := by decide +kernel
theorem dX8_statement_397 : decode cX8_statement 397 = .ok (.invokevirtual 166, 3) := by decide +kernel
theorem dX8_statement_400 : decode cX8_statement 400 = .ok (.goto 4, 3) := by decide +kernel
theorem dX8_statement_403 : decode cX8_statement 403 = .ok (.iconst 0, 1) := by decide +kernel
theorem dX8_statement_404 : decode cX8_statement 404 = .ok (.istore 4, 2) := by decide +kernel
theorem dX8_statement_406 : decode cX8_statement 406 = .ok (.aload_n 0, 1) := by decide +kernel
theorem dX8_statement_407 : decode cX8_statement 407 = .ok (.bipush 59, 2) := by decide +kernel
theorem dX8_statement_409 : decode cX8_statement 409 = .ok (.bipush 59, 2) := by decide +kernel
theorem dX8_statement_411 : decode cX8_statement 411 = .ok (.invokevirtual 166, 3) := by decide +kernel
theorem dX8_statement_414 : decode cX8_statement 414 = .ok (.pop, 1) := by decide +kernel
theorem dX8_statement_415 : decode cX8_statement 415 = .ok (.iload_n 2, 1) := by decide +kernel
theorem dX8_statement_416 : decode cX8_statement 416 = .ok (.bipush 107, 2) := by decide +kernel
theorem dX8_statement_418 : decode cX8_statement 418 = .ok (.if_icmp .ne 16, 3) := by decide +kernel
theorem dX8_statement_421 : decode cX8_statement 421 = .ok (.iload_n 3, 1) := by decide +kernel
theorem dX8_statement_422 : decode cX8_statement 422 = .ok (.iconst 5, 1) := by decide +kernel
theorem dX8_statement_423 : decode cX8_statement 423 = .ok (.if_icmp .gt 7, 3) := by decide +kernel
theorem dX8_statement_426 : decode cX8_statement 426 = .ok (.iconst 1, 1) := by decide +kernel
theorem dX8_statement_427 : decode cX8_statement 427 = .ok (.goto 18, 3) := by decide +kernel
theorem dX8_statement_430 : decode cX8_statement 430 = .ok (.iconst 0, 1) := by decide +kernel
theorem dX8_statement_431 : decode cX8_statement 431 = .ok (.goto 14, 3) := by decide +kernel
theorem dX8_statement_434 : decode cX8_statement 434 = .ok (.iload_n 3, 1) := by decide +kernel
theorem dX8_statement_435 : decode cX8_statement 435 = .ok (.bipush 8, 2) := by decide +kernel
theorem dX8_statement_437 : decode cX8_statement 437 = .ok (.if_icmp .gt 7, 3) := by decide +kernel
theorem dX8_statement_440 : decode cX8_statement 440 = .ok (.iconst 1, 1) := by decide +kernel
theorem dX8_statement_441 : decode cX8_statement 441 = .ok (.goto 4, 3) := by decide +kernel
theorem dX8_statement_444 : decode cX8_statement 444 = .ok (.iconst 0, 1) := by decide +kernel
theorem dX8_statement_445 : decode cX8_statement 445 = .ok (.istore 5, 2) := by decide +kernel
theorem dX8_statement_447 : decode cX8_statement 447 = .ok (.iload_n 1, 1) := by decide +kernel
theorem dX8_statement_448 : decode cX8_statement 448 = .ok (.ifCond .eq 23, 3) := by decide +kernel
theorem dX8_statement_451 : decode cX8_statement 451 = .ok (.iload 5, 2) := by decide +kernel
theorem dX8_statement_453 : decode cX8_statement 453 = .ok (.ifCond .eq 18, 3) := by decide +kernel
theorem dX8_statement_456 : decode cX8_statement 456 = .ok (.iload_n 2, 1) := by decide +kernel
theorem dX8_statement_457 : decode cX8_statement 457 = .ok (.bipush 100, 2) := by decide +kernel
theorem dX8_statement_459 : decode cX8_statement 459 = .ok (.if_icmp .ne 12, 3) := by decide +kernel
theorem dX8_statement_462 : decode cX8_statement 462 = .ok (.aload_n 0, 1) := by decide +kernel
theorem dX8_statement_463 : decode cX8_statement 463 = .ok (.getfield 9, 3) := by decide +kernel
theorem dX8_statement_466 : decode cX8_statement 466 = .ok (.sipush 507, 3) := by decide +kernel
theorem dX8_statement_469 : decode cX8_statement 469 = .ok (.iload_n 3, 1) := by decide +kernel
theorem dX8_statement_470 : decode cX8_statement 470 = .ok (.iastore, 1) := by decide +kernel
theorem dX8_statement_471 : decode cX8_statement 471 = .ok (.iload_n 1, 1) := by decide +kernel
theorem dX8_statement_472 : decode cX8_statement 472 = .ok (.ifCond .eq 33, 3) := by decide +kernel
theorem dX8_statement_475 : decode cX8_statement 475 = .ok (.iload 5, 2) := by decide +kernel
theorem dX8_statement_477 : decode cX8_statement 477 = .ok (.ifCond .eq 28, 3) := by decide +kernel
theorem dX8_statement_480 : decode cX8_statement 480 = .ok (.iload_n 2, 1) := by decide +kernel
theorem dX8_statement_481 : decode cX8_statement 481 = .ok (.bipush 107, 2) := by decide +kernel
theorem dX8_statement_483 : decode cX8_statement 483 = .ok (.if_icmp .ne 22, 3) := by decide +kernel
theorem dX8_statement_486 : decode cX8_statement 486 = .ok (.aload_n 0, 1) := by decide +kernel
theorem dX8_statement_487 : decode cX8_statement 487 = .ok (.getfield 9, 3) := by decide +kernel
theorem dX8_statement_490 : decode cX8_statement 490 = .ok (.sipush 505, 3) := by decide +kernel
theorem dX8_statement_493 : decode cX8_statement 493 = .ok (.iload_n 3, 1) := by decide +kernel
theorem dX8_statement_494 : decode cX8_statement 494 = .ok (.iastore, 1) := by decide +kernel
theorem dX8_statement_495 : decode cX8_statement 495 = .ok (.aload_n 0, 1) := by decide +kernel
theorem dX8_statement_496 : decode cX8_statement 496 = .ok (.getfield 9, 3) := by decide +kernel
theorem dX8_statement_499 : decode cX8_statement 499 = .ok (.sipush 506, 3) := by decide +kernel
theorem dX8_statement_502 : decode cX8_statement 502 = .ok (.iload 4, 2) := by decide +kernel
theorem dX8_statement_504 : decode cX8_statement 504 = .ok (.iastore, 1) := by decide +kernel
theorem dX8_statement_505 : decode cX8_statement 505 = .ok (.iload 5, 2) := by decide +kernel
theorem dX8_statement_507 : decode cX8_statement 507 = .ok (.ireturn, 1) := by decide +kernel
theorem dX8_statement_508 : decode cX8_statement 508 = .ok (.iload_n 2, 1) := by decide +kernel
theorem dX8_statement_509 : decode cX8_statement 509 = .ok (.bipush 120, 2) := by decide +kernel
theorem dX8_statement_511 : decode cX8_statement 511 = .ok (.if_icmp .ne 133, 3) := by decide +kernel
theorem dX8_statement_514 : decode cX8_statement 514 = .ok (.aload_n 0, 1) := by decide +kernel
theorem dX8_statement_515 : decode cX8_statement 515 = .ok (.bipush 48, 2) := by decide +kernel
end
section
theorem dX8_statement_517 : decode cX8_statement 517 = .ok (.bipush 57, 2) := by decide +kernel
theorem dX8_statement_519 : decode cX8_statement 519 = .ok (.invokevirtual 166, 3) := by decide +kernel
theorem dX8_statement_522 : decode cX8_statement 522 = .ok (.istore_n 3, 1) := by decide +kernel
theorem dX8_statement_523 : decode cX8_statement 523 = .ok (.bipush 10, 2) := by decide +kernel
theorem dX8_statement_525 : decode cX8_statement 525 = .ok (.aload_n 0, 1) := by decide +kernel
theorem dX8_statement_526 : decode cX8_statement 526 = .ok (.bipush 48, 2) := by decide +kernel
theorem dX8_statement_528 : decode cX8_statement 528 = .ok (.bipush 57, 2) := by decide +kernel
theorem dX8_statement_530 : decode cX8_statement 530 = .ok (.invokevirtual 166, 3) := by decide +kernel
theorem dX8_statement_533 : decode cX8_statement 533 = .ok (.imul, 1) := by decide +kernel
theorem dX8_statement_534 : decode cX8_statement 534 = .ok (.istore 4, 2) := by decide +kernel
theorem dX8_statement_536 : decode cX8_statement 536 = .ok (.iload 4, 2) := by decide +kernel
theorem dX8_statement_538 : decode cX8_statement 538 = .ok (.aload_n 0, 1) := by decide +kernel
theorem dX8_statement_539 : decode cX8_statement 539 = .ok (.bipush 48, 2) := by decide +kernel
theorem dX8_statement_541 : decode cX8_statement 541 = .ok (.bipush 57, 2) := by decide +kernel
theorem dX8_statement_543 : decode cX8_statement 543 = .ok (.invokevirtual 166, 3) := by decide +kernel
theorem dX8_statement_546 : decode cX8_statement 546 = .ok (.iadd, 1) := by decide +kernel
theorem dX8_statement_547 : decode cX8_statement 547 = .ok (.istore 4, 2) := by decide +kernel
theorem dX8_statement_549 : decode cX8_statement 549 = .ok (.aload_n 0, 1) := by decide +kernel
theorem dX8_statement_550 : decode cX8_statement 550 = .ok (.bipush 97, 2) := by decide +kernel
theorem dX8_statement_552 : decode cX8_statement 552 = .ok (.bipush 104, 2) := by decide +kernel
theorem dX8_statement_554 : decode cX8_statement 554 = .ok (.invokevirtual 166, 3) := by decide +kernel
theorem dX8_statement_557 : decode cX8_statement 557 = .ok (.istore 5, 2) := by decide +kernel
theorem dX8_statement_559 : decode cX8_statement 559 = .ok (.aload_n 0, 1) := by decide +kernel
theorem dX8_statement_560 : decode cX8_statement 560 = .ok (.bipush 59, 2) := by decide +kernel
theorem dX8_statement_562 : decode cX8_statement 562 = .ok (.bipush 59, 2) := by decide +kernel
theorem dX8_statement_564 : decode cX8_statement 564 = .ok (.invokevirtual 166, 3) := by decide +kernel
theorem dX8_statement_567 : decode cX8_statement 567 = .ok (.pop, 1) := by decide +kernel
theorem dX8_statement_568 : decode cX8_statement 568 = .ok (.aload_n 0, 1) := by decide +kernel
theorem dX8_statement_569 : decode cX8_statement 569 = .ok (.iload_n 3, 1) := by decide +kernel
theorem dX8_statement_570 : decode cX8_statement 570 = .ok (.invokevirtual 59, 3) := by decide +kernel
theorem dX8_statement_573 : decode cX8_statement 573 = .ok (.ifCond .eq 39, 3) := by decide +kernel
theorem dX8_statement_576 : decode cX8_statement 576 = .ok (.aload_n 0, 1) := by decide +kernel
theorem dX8_statement_577 : decode cX8_statement 577 = .ok (.getfield 9, 3) := by decide +kernel
theorem dX8_statement_580 : decode cX8_statement 580 = .ok (.bipush 50, 2) := by decide +kernel
theorem dX8_statement_582 : decode cX8_statement 582 = .ok (.iload_n 3, 1) := by decide +kernel
theorem dX8_statement_583 : decode cX8_statement 583 = .ok (.imul, 1) := by decide +kernel
theorem dX8_statement_584 : decode cX8_statement 584 = .ok (.iconst 4, 1) := by decide +kernel
theorem dX8_statement_585 : decode cX8_statement 585 = .ok (.iadd, 1) := by decide +kernel
theorem dX8_statement_586 : decode cX8_statement 586 = .ok (.iaload, 1) := by decide +kernel
theorem dX8_statement_587 : decode cX8_statement 587 = .ok (.bipush (-9), 2) := by decide +kernel
theorem dX8_statement_589 : decode cX8_statement 589 = .ok (.if_icmp .ne 23, 3) := by decide +kernel
theorem dX8_statement_592 : decode cX8_statement 592 = .ok (.iload 4, 2) := by decide +kernel
theorem dX8_statement_594 : decode cX8_statement 594 = .ok (.aload_n 0, 1) := by decide +kernel
theorem dX8_statement_595 : decode cX8_statement 595 = .ok (.getfield 9, 3) := by decide +kernel
theorem dX8_statement_598 : decode cX8_statement 598 = .ok (.bipush 50, 2) := by decide +kernel
theorem dX8_statement_600 : decode cX8_statement 600 = .ok (.iload_n 3, 1) := by decide +kernel
theorem dX8_statement_601 : decode cX8_statement 601 = .ok (.imul, 1) := by decide +kernel
theorem dX8_statement_602 : decode cX8_statement 602 = .ok (.iconst 5, 1) := by decide +kernel
theorem dX8_statement_603 : decode cX8_statement 603 = .ok (.iadd, 1) := by decide +kernel
theorem dX8_statement_604 : decode cX8_statement 604 = .ok (.iaload, 1) := by decide +kernel
theorem dX8_statement_605 : decode cX8_statement 605 = .ok (.if_icmp .ge 7, 3) := by decide +kernel
theorem dX8_statement_608 : decode cX8_statement 608 = .ok (.iconst 1, 1) := by decide +kernel
theorem dX8_statement_609 : decode cX8_statement 609 = .ok (.goto 4, 3) := by decide +kernel
theorem dX8_statement_612 : decode cX8_statement 612 = .ok (.iconst 0, 1) := by decide +kernel
theorem dX8_statement_613 : decode cX8_statement 613 = .ok (.istore 6, 2) := by decide +kernel
theorem dX8_statement_615 : decode cX8_statement 615 = .ok (.iload_n 1, 1) := by decide +kernel
theorem dX8_statement_616 : decode cX8_statement 616 = .ok (.ifCond .eq 25, 3) := by decide +kernel
theorem dX8_statement_619 : decode cX8_statement 619 = .ok (.iload 6, 2) := by decide +kernel
theorem dX8_statement_621 : decode cX8_statement 621 = .ok (.ifCond .eq 20, 3) := by decide +kernel
theorem dX8_statement_624 : decode cX8_statement 624 = .ok (.aload_n 0, 1) := by decide +kernel
theorem dX8_statement_625 : decode cX8_statement 625 = .ok (.getfield 9, 3) := by decide +kernel
theorem dX8_statement_628 : decode cX8_statement 628 = .ok (.bipush 50, 2) := by decide +kernel
theorem dX8_statement_630 : decode cX8_statement 630 = .ok (.iload_n 3, 1) := by decide +kernel
theorem dX8_statement_631 : decode cX8_statement 631 = .ok (.imul, 1) := by decide +kernel
theorem dX8_statement_632 : decode cX8_statement 632 = .ok (.bipush 6, 2) := by decide +kernel
theorem dX8_statement_634 : decode cX8_statement 634 = .ok (.iadd, 1) := by decide +kernel
theorem dX8_statement_635 : decode cX8_statement 635 = .ok (.iload 4, 2) := by decide +kernel
theorem dX8_statement_637 : decode cX8_statement 637 = .ok (.iadd, 1) := by decide +kernel
theorem dX8_statement_638 : decode cX8_statement 638 = .ok (.iload 5, 2) := by decide +kernel
theorem dX8_statement_640 : decode cX8_statement 640 = .ok (.iastore, 1) := by decide +kernel
theorem dX8_statement_641 : decode cX8_statement 641 = .ok (.iload 6, 2) := by decide +kernel
theorem dX8_statement_643 : decode cX8_statement 643 = .ok (.ireturn, 1) := by decide +kernel
theorem dX8_statement_644 : decode cX8_statement 644 = .ok (.aload_n 0, 1) := by decide +kernel
theorem dX8_statement_645 : decode cX8_statement 645 = .ok (.bipush 59, 2) := by decide +kernel
theorem dX8_statement_647 : decode cX8_statement 647 = .ok (.bipush 59, 2) := by decide +kernel
theorem dX8_statement_649 : decode cX8_statement 649 = .ok (.invokevirtual 166, 3) := by decide +kernel
theorem dX8_statement_652 : decode cX8_statement 652 = .ok (.pop, 1) := by decide +kernel
theorem dX8_statement_653 : decode cX8_statement 653 = .ok (.iload_n 1, 1) := by decide +kernel
theorem dX8_statement_654 : decode cX8_statement 654 = .ok (.ifCond .eq 14, 3) := by decide +kernel
theorem dX8_statement_657 : decode cX8_statement 657 = .ok (.iload_n 2, 1) := by decide +kernel
theorem dX8_statement_658 : decode cX8_statement 658 = .ok (.bipush 114, 2) := by decide +kernel
theorem dX8_statement_660 : decode cX8_statement 660 = .ok (.if_icmp .ne 8, 3) := by decide +kernel
theorem dX8_statement_663 : decode cX8_statement 663 = .ok (.aload_n 0, 1) := by decide +kernel
theorem dX8_statement_664 : decode cX8_statement 664 = .ok (.invokevirtual 133, 3) := by decide +kernel
theorem dX8_statement_667 : decode cX8_statement 667 = .ok (.pop, 1) := by decide +kernel
theorem dX8_statement_668 : decode cX8_statement 668 = .ok (.iload_n 1, 1) := by decide +kernel
theorem dX8_statement_669 : decode cX8_statement 669 = .ok (.ifCond .eq 14, 3) := by decide +kernel
theorem dX8_statement_672 : decode cX8_statement 672 = .ok (.iload_n 2, 1) := by decide +kernel
theorem dX8_statement_673 : decode cX8_statement 673 = .ok (.bipush 99, 2) := by decide +kernel
theorem dX8_statement_675 : decode cX8_statement 675 = .ok (.if_icmp .ne 8, 3) := by decide +kernel
theorem dX8_statement_678 : decode cX8_statement 678 = .ok (.aload_n 0, 1) := by decide +kernel
theorem dX8_statement_679 : decode cX8_statement 679 = .ok (.invokevirtual 151, 3) := by decide +kernel
theorem dX8_statement_682 : decode cX8_statement 682 = .ok (.pop, 1) := by decide +kernel
theorem dX8_statement_683 : decode cX8_statement 683 = .ok (.iconst 1, 1) := by decide +kernel
theorem dX8_statement_684 : decode cX8_statement 684 = .ok (.ireturn, 1) := by decide +kernel
theorem dX8_archive_0 : decode cX8_archive 0 = .ok (.aload_n 0, 1) := by decide +kernel
theorem dX8_archive_1 : decode cX8_archive 1 = .ok (.iconst 0, 1) := by decide +kernel
theorem dX8_archive_2 : decode cX8_archive 2 = .ok (.putfield 157, 3) := by decide +kernel
theorem dX8_archive_5 : decode cX8_archive 5 = .ok (.aload_n 0, 1) := by decide +kernel
theorem dX8_archive_6 : decode cX8_archive 6 = .ok (.iconst 0, 1) := by decide +kernel
theorem dX8_archive_7 : decode cX8_archive 7 = .ok (.putfield 160, 3) := by decide +kernel
theorem dX8_archive_10 : decode cX8_archive 10 = .ok (.aload_n 0, 1) := by decide +kernel
theorem dX8_archive_11 : decode cX8_archive 11 = .ok (.iconst 0, 1) := by decide +kernel
theorem dX8_archive_12 : decode cX8_archive 12 = .ok (.invokevirtual 172, 3) := by decide +kernel
theorem dX8_archive_15 : decode cX8_archive 15 = .ok (.pop, 1) := by decide +kernel
theorem dX8_archive_16 : decode cX8_archive 16 = .ok (.aload_n 0, 1) := by decide +kernel
theorem dX8_archive_17 : decode cX8_archive 17 = .ok (.getfield 160, 3) := by decide +kernel
theorem dX8_archive_20 : decode cX8_archive 20 = .ok (.ifCond .ne 14, 3) := by decide +kernel
theorem dX8_archive_23 : decode cX8_archive 23 = .ok (.aload_n 0, 1) := by decide +kernel
theorem dX8_archive_24 : decode cX8_archive 24 = .ok (.getfield 157, 3) := by decide +kernel
theorem dX8_archive_27 : decode cX8_archive 27 = .ok (.aload_n 0, 1) := by decide +kernel
theorem dX8_archive_28 : decode cX8_archive 28 = .ok (.getfield 154, 3) := by decide +kernel
theorem dX8_archive_31 : decode cX8_archive 31 = .ok (.if_icmp .lt (-21), 3) := by decide +kernel
theorem dX8_archive_34 : decode cX8_archive 34 = .ok (.iconst 0, 1) := by decide +kernel
theorem dX8_archive_35 : decode cX8_archive 35 = .ok (.istore_n 1, 1) := by decide +kernel
theorem dX8_archive_36 : decode cX8_archive 36 = .ok (.aload_n 0, 1) := by decide +kernel
theorem dX8_archive_37 : decode cX8_archive 37 = .ok (.getfield 160, 3) := by decide +kernel
theorem dX8_archive_40 : decode cX8_archive 40 = .ok (.ifCond .ne 83, 3) := by decide +kernel
theorem dX8_archive_43 : decode cX8_archive 43 = .ok (.aload_n 0, 1) := by decide +kernel
theorem dX8_archive_44 : decode cX8_archive 44 = .ok (.getfield 9, 3) := by decide +kernel
theorem dX8_archive_47 : decode cX8_archive 47 = .ok (.aload_n 0, 1) := by decide +kernel
theorem dX8_archive_48 : decode cX8_archive 48 = .ok (.getfield 19, 3) := by decide +kernel
theorem dX8_archive_51 : decode cX8_archive 51 = .ok (.invokestatic 176, 3) := by decide +kernel
theorem dX8_archive_54 : decode cX8_archive 54 = .ok (.aload_n 0, 1) := by decide +kernel
theorem dX8_archive_55 : decode cX8_archive 55 = .ok (.iconst 0, 1) := by decide +kernel
theorem dX8_archive_56 : decode cX8_archive 56 = .ok (.putfield 157, 3) := by decide +kernel
theorem dX8_archive_59 : decode cX8_archive 59 = .ok (.aload_n 0, 1) := by decide +kernel
theorem dX8_archive_60 : decode cX8_archive 60 = .ok (.getfield 157, 3) := by decide +kernel
theorem dX8_archive_63 : decode cX8_archive 63 = .ok (.aload_n 0, 1) := by decide +kernel
theorem dX8_archive_64 : decode cX8_archive 64 = .ok (.getfield 154, 3) := by decide +kernel
theorem dX8_archive_67 : decode cX8_archive 67 = .ok (.if_icmp .ge 38, 3) := by decide +kernel
theorem dX8_archive_70 : decode cX8_archive 70 = .ok (.aload_n 0, 1) := by decide +kernel
theorem dX8_archive_71 : decode cX8_archive 71 = .ok (.getfield 160, 3) := by decide +kernel
theorem dX8_archive_74 : decode cX8_archive 74 = .ok (.ifCond .ne 31, 3) := by decide +kernel
theorem dX8_archive_77 : decode cX8_archive 77 = .ok (.aload_n 0, 1) := by decide +kernel
theorem dX8_archive_78 : decode cX8_archive 78 = .ok (.getfield 157, 3) := by decide +kernel
theorem dX8_archive_81 : decode cX8_archive 81 = .ok (.istore_n 2, 1) := by decide +kernel
theorem dX8_archive_82 : decode cX8_archive 82 = .ok (.aload_n 0, 1) := by decide +kernel
theorem dX8_archive_83 : decode cX8_archive 83 = .ok (.iconst 1, 1) := by decide +kernel
theorem dX8_archive_84 : decode cX8_archive 84 = .ok (.invokevirtual 172, 3) := by decide +kernel
theorem dX8_archive_87 : decode cX8_archive 87 = .ok (.ifCond .ne 12, 3) := by decide +kernel
theorem dX8_archive_90 : decode cX8_archive 90 = .ok (.aload_n 0, 1) := by decide +kernel
theorem dX8_archive_91 : decode cX8_archive 91 = .ok (.sipush (-2000), 3) := by decide +kernel
theorem dX8_archive_94 : decode cX8_archive 94 = .ok (.iload_n 2, 1) := by decide +kernel
theorem dX8_archive_95 : decode cX8_archive 95 = .ok (.isub, 1) := by decide +kernel
theorem dX8_archive_96 : decode cX8_archive 96 = .ok (.putfield 160, 3) := by decide +kernel
theorem dX8_archive_99 : decode cX8_archive 99 = .ok (.iinc 1 1, 3) := by decide +kernel
theorem dX8_archive_102 : decode cX8_archive 102 = .ok (.goto (-43), 3) := by decide +kernel
theorem dX8_archive_105 : decode cX8_archive 105 = .ok (.aload_n 0, 1) := by decide +kernel
theorem dX8_archive_106 : decode cX8_archive 106 = .ok (.getfield 160, 3) := by decide +kernel
theorem dX8_archive_109 : decode cX8_archive 109 = .ok (.ifCond .eq 14, 3) := by decide +kernel
theorem dX8_archive_112 : decode cX8_archive 112 = .ok (.aload_n 0, 1) := by decide +kernel
theorem dX8_archive_113 : decode cX8_archive 113 = .ok (.getfield 19, 3) := by decide +kernel
theorem dX8_archive_116 : decode cX8_archive 116 = .ok (.aload_n 0, 1) := by decide +kernel
theorem dX8_archive_117 : decode cX8_archive 117 = .ok (.getfield 9, 3) := by decide +kernel
theorem dX8_archive_120 : decode cX8_archive 120 = .ok (.invokestatic 176, 3) := by decide +kernel
theorem dX8_archive_123 : decode cX8_archive 123 = .ok (.aload_n 0, 1) := by decide +kernel
theorem dX8_archive_124 : decode cX8_archive 124 = .ok (.iconst 0, 1) := by decide +kernel
theorem dX8_archive_125 : decode cX8_archive 125 = .ok (.putfield 154, 3) := by decide +kernel
theorem dX8_archive_128 : decode cX8_archive 128 = .ok (.aload_n 0, 1) := by decide +kernel
theorem dX8_archive_129 : decode cX8_archive 129 = .ok (.getfield 160, 3) := by decide +kernel
theorem dX8_archive_132 : decode cX8_archive 132 = .ok (.ifCond .eq 10, 3) := by decide +kernel
theorem dX8_archive_135 : decode cX8_archive 135 = .ok (.aload_n 0, 1) := by decide +kernel
theorem dX8_archive_136 : decode cX8_archive 136 = .ok (.getfield 160, 3) := by decide +kernel
theorem dX8_archive_139 : decode cX8_archive 139 = .ok (.goto 4, 3) := by decide +kernel
theorem dX8_archive_142 : decode cX8_archive 142 = .ok (.iload_n 1, 1) := by decide +kernel
theorem dX8_archive_143 : decode cX8_archive 143 = .ok (.ireturn, 1) := by decide +kernel
theorem dX8_isSound_0 : decode cX8_isSound 0 = .ok (.aload_n 0, 1) := by decide +kernel
theorem dX8_isSound_1 : decode cX8_isSound 1 = .ok (.iload_n 1, 1) := by decide +kernel
theorem dX8_isSound_2 : decode cX8_isSound 2 = .ok (.invokevirtual 116, 3) := by decide +kernel
theorem dX8_isSound_5 : decode cX8_isSound 5 = .ok (.aload_n 0, 1) := by decide +kernel
theorem dX8_isSound_6 : decode cX8_isSound 6 = .ok (.getfield 9, 3) := by decide +kernel
theorem dX8_isSound_9 : decode cX8_isSound 9 = .ok (.bipush 50, 2) := by decide +kernel
theorem dX8_isSound_11 : decode cX8_isSound 11 = .ok (.iload_n 1, 1) := by decide +kernel
theorem dX8_isSound_12 : decode cX8_isSound 12 = .ok (.imul, 1) := by decide +kernel
theorem dX8_isSound_13 : decode cX8_isSound 13 = .ok (.iconst 1, 1) := by decide +kernel
theorem dX8_isSound_14 : decode cX8_isSound 14 = .ok (.iadd, 1) := by decide +kernel
theorem dX8_isSound_15 : decode cX8_isSound 15 = .ok (.iaload, 1) := by decide +kernel
theorem dX8_isSound_16 : decode cX8_isSound 16 = .ok (.if_icmp .ne 7, 3) := by decide +kernel
theorem dX8_isSound_19 : decode cX8_isSound 19 = .ok (.iconst 1, 1) := by decide +kernel
theorem dX8_isSound_20 : decode cX8_isSound 20 = .ok (.goto 4, 3) := by decide +kernel
theorem dX8_isSound_23 : decode cX8_isSound 23 = .ok (.iconst 0, 1) := by decide +kernel
theorem dX8_isSound_24 : decode cX8_isSound 24 = .ok (.ireturn, 1) := by decide +kernel
theorem dX8_version_0 : decode cX8_version 0 = .ok (.aload_n 0, 1) := by decide +kernel
theorem dX8_version_1 : decode cX8_version 1 = .ok (.iload_n 1, 1) := by decide +kernel
theorem dX8_version_2 : decode cX8_version 2 = .ok (.invokevirtual 59, 3) := by decide +kernel
theorem dX8_version_5 : decode cX8_version 5 = .ok (.ifCond .ne 9, 3) := by decide +kernel
theorem dX8_version_8 : decode cX8_version 8 = .ok (.aload_n 0, 1) := by decide +kernel
theorem dX8_version_9 : decode cX8_version 9 = .ok (.iconst (-1), 1) := by decide +kernel
theorem dX8_version_10 : decode cX8_version 10 = .ok (.invokevirtual 51, 3) := by decide +kernel
theorem dX8_version_13 : decode cX8_version 13 = .ok (.ireturn, 1) := by decide +kernel
theorem dX8_version_14 : decode cX8_version 14 = .ok (.iload_n 2, 1) := by decide +kernel
theorem dX8_version_15 : decode cX8_version 15 = .ok (.iconst 0, 1) := by decide +kernel
theorem dX8_version_16 : decode cX8_version 16 = .ok (.bipush 8, 2) := by decide +kernel
theorem dX8_version_18 : decode cX8_version 18 = .ok (.invokestatic 55, 3) := by decide +kernel
theorem dX8_version_21 : decode cX8_version 21 = .ok (.ifCond .ne 10, 3) := by decide +kernel
theorem dX8_version_24 : decode cX8_version 24 = .ok (.aload_n 0, 1) := by decide +kernel
theorem dX8_version_25 : decode cX8_version 25 = .ok (.bipush (-2), 2) := by decide +kernel
theorem dX8_version_27 : decode cX8_version 27 = .ok (.invokevirtual 51, 3) := by decide +kernel
theorem dX8_version_30 : decode cX8_version 30 = .ok (.ireturn, 1) := by decide +kernel
theorem dX8_version_31 : decode cX8_version 31 = .ok (.aload_n 0, 1) := by decide +kernel
theorem dX8_version_32 : decode cX8_version 32 = .ok (.invokevirtual 84, 3) := by decide +kernel
theorem dX8_version_35 : decode cX8_version 35 = .ok (.bipush 50, 2) := by decide +kernel
theorem dX8_version_37 : decode cX8_version 37 = .ok (.iload_n 1, 1) := by decide +kernel
theorem dX8_version_38 : decode cX8_version 38 = .ok (.imul, 1) := by decide +kernel
theorem dX8_version_39 : decode cX8_version 39 = .ok (.istore_n 3, 1) := by decide +kernel
theorem dX8_version_40 : decode cX8_version 40 = .ok (.iload_n 2, 1) := by decide +kernel
theorem dX8_version_41 : decode cX8_version 41 = .ok (.tableswitch 111 0 7 #[47, 54, 54, 67, 76, 82, 88, 97], 47) := by decide +kernel
theorem dX8_version_88 : decode cX8_version 88 = .ok (.aload_n 0, 1) := by decide +kernel
theorem dX8_version_89 : decode cX8_version 89 = .ok (.getfield 34, 3) := by decide +kernel
theorem dX8_version_92 : decode cX8_version 92 = .ok (.iload_n 1, 1) := by decide +kernel
theorem dX8_version_93 : decode cX8_version 93 = .ok (.iaload, 1) := by decide +kernel
theorem dX8_version_94 : decode cX8_version 94 = .ok (.ireturn, 1) := by decide +kernel
theorem dX8_version_95 : decode cX8_version 95 = .ok (.aload_n 0, 1) := by decide +kernel
theorem dX8_version_96 : decode cX8_version 96 = .ok (.getfield 9, 3) := by decide +kernel
theorem dX8_version_99 : decode cX8_version 99 = .ok (.iload_n 3, 1) := by decide +kernel
theorem dX8_version_100 : decode cX8_version 100 = .ok (.iconst 2, 1) := by decide +kernel
theorem dX8_version_101 : decode cX8_version 101 = .ok (.iadd, 1) := by decide +kernel
theorem dX8_version_102 : decode cX8_version 102 = .ok (.iload_n 2, 1) := by decide +kernel
theorem dX8_version_103 : decode cX8_version 103 = .ok (.iadd, 1) := by decide +kernel
theorem dX8_version_104 : decode cX8_version 104 = .ok (.iconst 1, 1) := by decide +kernel
theorem dX8_version_105 : decode cX8_version 105 = .ok (.isub, 1) := by decide +kernel
theorem dX8_version_106 : decode cX8_version 106 = .ok (.iaload, 1) := by decide +kernel
theorem dX8_version_107 : decode cX8_version 107 = .ok (.ireturn, 1) := by decide +kernel
theorem dX8_version_108 : decode cX8_version 108 = .ok (.aload_n 0, 1) := by decide +kernel
theorem dX8_version_109 : decode cX8_version 109 = .ok (.getfield 9, 3) := by decide +kernel
theorem dX8_version_112 : decode cX8_version 112 = .ok (.iload_n 3, 1) := by decide +kernel
theorem dX8_version_113 : decode cX8_version 113 = .ok (.iconst 4, 1) := by decide +kernel
theorem dX8_version_114 : decode cX8_version 114 = .ok (.iadd, 1) := by decide +kernel
theorem dX8_version_115 : decode cX8_version 115 = .ok (.iaload, 1) := by decide +kernel
theorem dX8_version_116 : decode cX8_version 116 = .ok (.ireturn, 1) := by decide +kernel
theorem dX8_version_117 : decode cX8_version 117 = .ok (.aload_n 0, 1) := by decide +kernel
theorem dX8_version_118 : decode cX8_version 118 = .ok (.iload_n 1, 1) := by decide +kernel
theorem dX8_version_119 : decode cX8_version 119 = .ok (.invokevirtual 89, 3) := by decide +kernel
theorem dX8_version_122 : decode cX8_version 122 = .ok (.ireturn, 1) := by decide +kernel
theorem dX8_version_123 : decode cX8_version 123 = .ok (.aload_n 0, 1) := by decide +kernel
theorem dX8_version_124 : decode cX8_version 124 = .ok (.iload_n 1, 1) := by decide +kernel
theorem dX8_version_125 : decode cX8_version 125 = .ok (.invokevirtual 86, 3) := by decide +kernel
theorem dX8_version_128 : decode cX8_version 128 = .ok (.ireturn, 1) := by decide +kernel
theorem dX8_version_129 : decode cX8_version 129 = .ok (.aload_n 0, 1) := by decide +kernel
theorem dX8_version_130 : decode cX8_version 130 = .ok (.getfield 9, 3) := by decide +kernel
theorem dX8_version_133 : decode cX8_version 133 = .ok (.iload_n 3, 1) := by decide +kernel
theorem dX8_version_134 : decode cX8_version 134 = .ok (.iconst 1, 1) := by decide +kernel
theorem dX8_version_135 : decode cX8_version 135 = .ok (.iadd, 1) := by decide +kernel
theorem dX8_version_136 : decode cX8_version 136 = .ok (.iaload, 1) := by decide +kernel
theorem dX8_version_137 : decode cX8_version 137 = .ok (.ireturn, 1) := by decide +kernel
theorem dX8_version_138 : decode cX8_version 138 = .ok (.aload_n 0, 1) := by decide +kernel
theorem dX8_version_139 : decode cX8_version 139 = .ok (.iload_n 1, 1) := by decide +kernel
theorem dX8_version_140 : decode cX8_version 140 = .ok (.invokevirtual 179, 3) := by decide +kernel
theorem dX8_version_143 : decode cX8_version 143 = .ok (.ifCond .eq 7, 3) := by decide +kernel
theorem dX8_version_146 : decode cX8_version 146 = .ok (.iconst 1, 1) := by decide +kernel
theorem dX8_version_147 : decode cX8_version 147 = .ok (.goto 4, 3) := by decide +kernel
theorem dX8_version_150 : decode cX8_version 150 = .ok (.iconst 0, 1) := by decide +kernel
theorem dX8_version_151 : decode cX8_version 151 = .ok (.ireturn, 1) := by decide +kernel
theorem dX8_version_152 : decode cX8_version 152 = .ok (.aload_n 0, 1) := by decide +kernel
theorem dX8_version_153 : decode cX8_version 153 = .ok (.getfield 9, 3) := by decide +kernel
theorem dX8_version_156 : decode cX8_version 156 = .ok (.iload_n 3, 1) := by decide +kernel
theorem dX8_version_157 : decode cX8_version 157 = .ok (.iconst 4, 1) := by decide +kernel
theorem dX8_version_158 : decode cX8_version 158 = .ok (.iadd, 1) := by decide +kernel
theorem dX8_version_159 : decode cX8_version 159 = .ok (.iaload, 1) := by decide +kernel
theorem dX8_version_160 : decode cX8_version 160 = .ok (.bipush (-9), 2) := by decide +kernel
theorem dX8_version_162 : decode cX8_version 162 = .ok (.if_icmp .ne 7, 3) := by decide +kernel
theorem dX8_version_165 : decode cX8_version 165 = .ok (.iconst 0, 1) := by decide +kernel
theorem dX8_version_166 : decode cX8_version 166 = .ok (.goto 12, 3) := by decide +kernel
theorem dX8_version_169 : decode cX8_version 169 = .ok (.aload_n 0, 1) := by decide +kernel
theorem dX8_version_170 : decode cX8_version 170 = .ok (.getfield 9, 3) := by decide +kernel
theorem dX8_version_173 : decode cX8_version 173 = .ok (.iload_n 3, 1) := by decide +kernel
theorem dX8_version_174 : decode cX8_version 174 = .ok (.bipush 18, 2) := by decide +kernel
theorem dX8_version_176 : decode cX8_version 176 = .ok (.iadd, 1) := by decide +kernel
theorem dX8_version_177 : decode cX8_version 177 = .ok (.iaload, 1) := by decide +kernel
theorem dX8_version_178 : decode cX8_version 178 = .ok (.ireturn, 1) := by decide +kernel
theorem dX8_spelt_0 : decode cX8_spelt 0 = .ok (.aload_n 0, 1) := by decide +kernel
theorem dX8_spelt_1 : decode cX8_spelt 1 = .ok (.iload_n 1, 1) := by decide +kernel
theorem dX8_spelt_2 : decode cX8_spelt 2 = .ok (.invokevirtual 59, 3) := by decide +kernel
theorem dX8_spelt_5 : decode cX8_spelt 5 = .ok (.ifCond .ne 9, 3) := by decide +kernel
theorem dX8_spelt_8 : decode cX8_spelt 8 = .ok (.aload_n 0, 1) := by decide +kernel
theorem dX8_spelt_9 : decode cX8_spelt 9 = .ok (.iconst (-1), 1) := by decide +kernel
theorem dX8_spelt_10 : decode cX8_spelt 10 = .ok (.invokevirtual 51, 3) := by decide +kernel
theorem dX8_spelt_13 : decode cX8_spelt 13 = .ok (.ireturn, 1) := by decide +kernel
theorem dX8_spelt_14 : decode cX8_spelt 14 = .ok (.aload_n 0, 1) := by decide +kernel
theorem dX8_spelt_15 : decode cX8_spelt 15 = .ok (.invokevirtual 84, 3) := by decide +kernel
theorem dX8_spelt_18 : decode cX8_spelt 18 = .ok (.iload_n 2, 1) := by decide +kernel
theorem dX8_spelt_19 : decode cX8_spelt 19 = .ok (.iconst 0, 1) := by decide +kernel
theorem dX8_spelt_20 : decode cX8_spelt 20 = .ok (.aload_n 0, 1) := by decide +kernel
theorem dX8_spelt_21 : decode cX8_spelt 21 = .ok (.getfield 34, 3) := by decide +kernel
theorem dX8_spelt_24 : decode cX8_spelt 24 = .ok (.iload_n 1, 1) := by decide +kernel
theorem dX8_spelt_25 : decode cX8_spelt 25 = .ok (.iaload, 1) := by decide +kernel
theorem dX8_spelt_26 : decode cX8_spelt 26 = .ok (.iconst 1, 1) := by decide +kernel
theorem dX8_spelt_27 : decode cX8_spelt 27 = .ok (.isub, 1) := by decide +kernel
theorem dX8_spelt_28 : decode cX8_spelt 28 = .ok (.invokestatic 55, 3) := by decide +kernel
theorem dX8_spelt_31 : decode cX8_spelt 31 = .ok (.ifCond .eq 17, 3) := by decide +kernel
theorem dX8_spelt_34 : decode cX8_spelt 34 = .ok (.aload_n 0, 1) := by decide +kernel
theorem dX8_spelt_35 : decode cX8_spelt 35 = .ok (.getfield 31, 3) := by decide +kernel
theorem dX8_spelt_38 : decode cX8_spelt 38 = .ok (.bipush 12, 2) := by decide +kernel
theorem dX8_spelt_40 : decode cX8_spelt 40 = .ok (.iload_n 1, 1) := by decide +kernel
theorem dX8_spelt_41 : decode cX8_spelt 41 = .ok (.imul, 1) := by decide +kernel
theorem dX8_spelt_42 : decode cX8_spelt 42 = .ok (.iload_n 2, 1) := by decide +kernel
theorem dX8_spelt_43 : decode cX8_spelt 43 = .ok (.iadd, 1) := by decide +kernel
theorem dX8_spelt_44 : decode cX8_spelt 44 = .ok (.iaload, 1) := by decide +kernel
theorem dX8_spelt_45 : decode cX8_spelt 45 = .ok (.goto 8, 3) := by decide +kernel
theorem dX8_spelt_48 : decode cX8_spelt 48 = .ok (.aload_n 0, 1) := by decide +kernel
theorem dX8_spelt_49 : decode cX8_spelt 49 = .ok (.iconst (-1), 1) := by decide +kernel
theorem dX8_spelt_50 : decode cX8_spelt 50 = .ok (.invokevirtual 51, 3) := by decide +kernel
theorem dX8_spelt_53 : decode cX8_spelt 53 = .ok (.ireturn, 1) := by decide +kernel
theorem dX8_step_0 : decode cX8_step 0 = .ok (.aload_n 0, 1) := by decide +kernel
theorem dX8_step_1 : decode cX8_step 1 = .ok (.iload_n 1, 1) := by decide +kernel
theorem dX8_step_2 : decode cX8_step 2 = .ok (.invokevirtual 59, 3) := by decide +kernel
theorem dX8_step_5 : decode cX8_step 5 = .ok (.ifCond .eq 41, 3) := by decide +kernel
theorem dX8_step_8 : decode cX8_step 8 = .ok (.aload_n 0, 1) := by decide +kernel
theorem dX8_step_9 : decode cX8_step 9 = .ok (.getfield 9, 3) := by decide +kernel
theorem dX8_step_12 : decode cX8_step 12 = .ok (.bipush 50, 2) := by decide +kernel
theorem dX8_step_14 : decode cX8_step 14 = .ok (.iload_n 1, 1) := by decide +kernel
theorem dX8_step_15 : decode cX8_step 15 = .ok (.imul, 1) := by decide +kernel
theorem dX8_step_16 : decode cX8_step 16 = .ok (.iconst 4, 1) := by decide +kernel
theorem dX8_step_17 : decode cX8_step 17 = .ok (.iadd, 1) := by decide +kernel
theorem dX8_step_18 : decode cX8_step 18 = .ok (.iaload, 1) := by decide +kernel
theorem dX8_step_19 : decode cX8_step 19 = .ok (.bipush (-9), 2) := by decide +kernel
theorem dX8_step_21 : decode cX8_step 21 = .ok (.if_icmp .eq 25, 3) := by decide +kernel
theorem dX8_step_24 : decode cX8_step 24 = .ok (.iload_n 2, 1) := by decide +kernel
theorem dX8_step_25 : decode cX8_step 25 = .ok (.iconst 0, 1) := by decide +kernel
theorem dX8_step_26 : decode cX8_step 26 = .ok (.aload_n 0, 1) := by decide +kernel
theorem dX8_step_27 : decode cX8_step 27 = .ok (.getfield 9, 3) := by decide +kernel
theorem dX8_step_30 : decode cX8_step 30 = .ok (.bipush 50, 2) := by decide +kernel
theorem dX8_step_32 : decode cX8_step 32 = .ok (.iload_n 1, 1) := by decide +kernel
theorem dX8_step_33 : decode cX8_step 33 = .ok (.imul, 1) := by decide +kernel
theorem dX8_step_34 : decode cX8_step 34 = .ok (.bipush 18, 2) := by decide +kernel
theorem dX8_step_36 : decode cX8_step 36 = .ok (.iadd, 1) := by decide +kernel
theorem dX8_step_37 : decode cX8_step 37 = .ok (.iaload, 1) := by decide +kernel
theorem dX8_step_38 : decode cX8_step 38 = .ok (.iconst 1, 1) := by decide +kernel
theorem dX8_step_39 : decode cX8_step 39 = .ok (.isub, 1) := by decide +kernel
theorem dX8_step_40 : decode cX8_step 40 = .ok (.invokestatic 55, 3) := by decide +kernel
theorem dX8_step_43 : decode cX8_step 43 = .ok (.ifCond .ne 9, 3) := by decide +kernel
theorem dX8_step_46 : decode cX8_step 46 = .ok (.aload_n 0, 1) := by decide +kernel
theorem dX8_step_47 : decode cX8_step 47 = .ok (.iconst (-1), 1) := by decide +kernel
theorem dX8_step_48 : decode cX8_step 48 = .ok (.invokevirtual 51, 3) := by decide +kernel
theorem dX8_step_51 : decode cX8_step 51 = .ok (.ireturn, 1) := by decide +kernel
theorem dX8_step_52 : decode cX8_step 52 = .ok (.iload_n 3, 1) := by decide +kernel
theorem dX8_step_53 : decode cX8_step 53 = .ok (.iconst 0, 1) := by decide +kernel
theorem dX8_step_54 : decode cX8_step 54 = .ok (.iconst 1, 1) := by decide +kernel
theorem dX8_step_55 : decode cX8_step 55 = .ok (.invokestatic 55, 3) := by decide +kernel
theorem dX8_step_58 : decode cX8_step 58 = .ok (.ifCond .eq 24, 3) := by decide +kernel
theorem dX8_step_61 : decode cX8_step 61 = .ok (.aload_n 0, 1) := by decide +kernel
theorem dX8_step_62 : decode cX8_step 62 = .ok (.getfield 9, 3) := by decide +kernel
theorem dX8_step_65 : decode cX8_step 65 = .ok (.bipush 50, 2) := by decide +kernel
theorem dX8_step_67 : decode cX8_step 67 = .ok (.iload_n 1, 1) := by decide +kernel
theorem dX8_step_68 : decode cX8_step 68 = .ok (.imul, 1) := by decide +kernel
theorem dX8_step_69 : decode cX8_step 69 = .ok (.bipush 20, 2) := by decide +kernel
theorem dX8_step_71 : decode cX8_step 71 = .ok (.iadd, 1) := by decide +kernel
theorem dX8_step_72 : decode cX8_step 72 = .ok (.iconst 2, 1) := by decide +kernel
theorem dX8_step_73 : decode cX8_step 73 = .ok (.iload_n 2, 1) := by decide +kernel
theorem dX8_step_74 : decode cX8_step 74 = .ok (.imul, 1) := by decide +kernel
theorem dX8_step_75 : decode cX8_step 75 = .ok (.iadd, 1) := by decide +kernel
theorem dX8_step_76 : decode cX8_step 76 = .ok (.iload_n 3, 1) := by decide +kernel
theorem dX8_step_77 : decode cX8_step 77 = .ok (.iadd, 1) := by decide +kernel
theorem dX8_step_78 : decode cX8_step 78 = .ok (.iaload, 1) := by decide +kernel
theorem dX8_step_79 : decode cX8_step 79 = .ok (.goto 9, 3) := by decide +kernel
theorem dX8_step_82 : decode cX8_step 82 = .ok (.aload_n 0, 1) := by decide +kernel
theorem dX8_step_83 : decode cX8_step 83 = .ok (.bipush (-2), 2) := by decide +kernel
theorem dX8_step_85 : decode cX8_step 85 = .ok (.invokevirtual 51, 3) := by decide +kernel
theorem dX8_step_88 : decode cX8_step 88 = .ok (.ireturn, 1) := by decide +kernel
theorem dX8_delta__0 : decode cX8_delta_ 0 = .ok (.aload_n 0, 1) := by decide +kernel
theorem dX8_delta__1 : decode cX8_delta_ 1 = .ok (.iload_n 1, 1) := by decide +kernel
theorem dX8_delta__2 : decode cX8_delta_ 2 = .ok (.invokevirtual 59, 3) := by decide +kernel
theorem dX8_delta__5 : decode cX8_delta_ 5 = .ok (.ifCond .eq 11, 3) := by decide +kernel
theorem dX8_delta__8 : decode cX8_delta_ 8 = .ok (.aload_n 0, 1) := by decide +kernel
theorem dX8_delta__9 : decode cX8_delta_ 9 = .ok (.iload_n 2, 1) := by decide +kernel
theorem dX8_delta__10 : decode cX8_delta_ 10 = .ok (.invokevirtual 59, 3) := by decide +kernel
theorem dX8_delta__13 : decode cX8_delta_ 13 = .ok (.ifCond .ne 9, 3) := by decide +kernel
theorem dX8_delta__16 : decode cX8_delta_ 16 = .ok (.aload_n 0, 1) := by decide +kernel
theorem dX8_delta__17 : decode cX8_delta_ 17 = .ok (.iconst (-1), 1) := by decide +kernel
theorem dX8_delta__18 : decode cX8_delta_ 18 = .ok (.invokevirtual 51, 3) := by decide +kernel
theorem dX8_delta__21 : decode cX8_delta_ 21 = .ok (.ireturn, 1) := by decide +kernel
theorem dX8_delta__22 : decode cX8_delta_ 22 = .ok (.iload_n 3, 1) := by decide +kernel
theorem dX8_delta__23 : decode cX8_delta_ 23 = .ok (.iconst 0, 1) := by decide +kernel
theorem dX8_delta__24 : decode cX8_delta_ 24 = .ok (.iconst 2, 1) := by decide +kernel
theorem dX8_delta__25 : decode cX8_delta_ 25 = .ok (.invokestatic 55, 3) := by decide +kernel
theorem dX8_delta__28 : decode cX8_delta_ 28 = .ok (.ifCond .ne 10, 3) := by decide +kernel
theorem dX8_delta__31 : decode cX8_delta_ 31 = .ok (.aload_n 0, 1) := by decide +kernel
theorem dX8_delta__32 : decode cX8_delta_ 32 = .ok (.bipush (-2), 2) := by decide +kernel
theorem dX8_delta__34 : decode cX8_delta_ 34 = .ok (.invokevirtual 51, 3) := by decide +kernel
theorem dX8_delta__37 : decode cX8_delta_ 37 = .ok (.ireturn, 1) := by decide +kernel
theorem dX8_delta__38 : decode cX8_delta_ 38 = .ok (.aload_n 0, 1) := by decide +kernel
theorem dX8_delta__39 : decode cX8_delta_ 39 = .ok (.invokevirtual 84, 3) := by decide +kernel
theorem dX8_delta__42 : decode cX8_delta_ 42 = .ok (.aload_n 0, 1) := by decide +kernel
theorem dX8_delta__43 : decode cX8_delta_ 43 = .ok (.iload_n 1, 1) := by decide +kernel
theorem dX8_delta__44 : decode cX8_delta_ 44 = .ok (.iload_n 2, 1) := by decide +kernel
theorem dX8_delta__45 : decode cX8_delta_ 45 = .ok (.invokevirtual 106, 3) := by decide +kernel
theorem dX8_delta__48 : decode cX8_delta_ 48 = .ok (.istore 4, 2) := by decide +kernel
theorem dX8_delta__50 : decode cX8_delta_ 50 = .ok (.iload_n 3, 1) := by decide +kernel
theorem dX8_delta__51 : decode cX8_delta_ 51 = .ok (.ifCond .ne 8, 3) := by decide +kernel
theorem dX8_delta__54 : decode cX8_delta_ 54 = .ok (.iload 4, 2) := by decide +kernel
theorem dX8_delta__56 : decode cX8_delta_ 56 = .ok (.goto 19, 3) := by decide +kernel
theorem dX8_delta__59 : decode cX8_delta_ 59 = .ok (.iload_n 3, 1) := by decide +kernel
theorem dX8_delta__60 : decode cX8_delta_ 60 = .ok (.iconst 1, 1) := by decide +kernel
theorem dX8_delta__61 : decode cX8_delta_ 61 = .ok (.if_icmp .ne 10, 3) := by decide +kernel
theorem dX8_delta__64 : decode cX8_delta_ 64 = .ok (.aload_n 0, 1) := by decide +kernel
theorem dX8_delta__65 : decode cX8_delta_ 65 = .ok (.getfield 73, 3) := by decide +kernel
theorem dX8_delta__68 : decode cX8_delta_ 68 = .ok (.goto 7, 3) := by decide +kernel
theorem dX8_delta__71 : decode cX8_delta_ 71 = .ok (.aload_n 0, 1) := by decide +kernel
theorem dX8_delta__72 : decode cX8_delta_ 72 = .ok (.getfield 77, 3) := by decide +kernel
theorem dX8_delta__75 : decode cX8_delta_ 75 = .ok (.ireturn, 1) := by decide +kernel
theorem dX8_deepest_0 : decode cX8_deepest 0 = .ok (.iconst 0, 1) := by decide +kernel
theorem dX8_deepest_1 : decode cX8_deepest 1 = .ok (.istore_n 1, 1) := by decide +kernel
theorem dX8_deepest_2 : decode cX8_deepest 2 = .ok (.iconst 0, 1) := by decide +kernel
theorem dX8_deepest_3 : decode cX8_deepest 3 = .ok (.istore_n 2, 1) := by decide +kernel
theorem dX8_deepest_4 : decode cX8_deepest 4 = .ok (.iload_n 2, 1) := by decide +kernel
theorem dX8_deepest_5 : decode cX8_deepest 5 = .ok (.bipush 10, 2) := by decide +kernel
theorem dX8_deepest_7 : decode cX8_deepest 7 = .ok (.if_icmp .ge 31, 3) := by decide +kernel
theorem dX8_deepest_10 : decode cX8_deepest 10 = .ok (.aload_n 0, 1) := by decide +kernel
theorem dX8_deepest_11 : decode cX8_deepest 11 = .ok (.iload_n 2, 1) := by decide +kernel
theorem dX8_deepest_12 : decode cX8_deepest 12 = .ok (.invokevirtual 59, 3) := by decide +kernel
theorem dX8_deepest_15 : decode cX8_deepest 15 = .ok (.ifCond .eq 15, 3) := by decide +kernel
theorem dX8_deepest_18 : decode cX8_deepest 18 = .ok (.iload_n 1, 1) := by decide +kernel
theorem dX8_deepest_19 : decode cX8_deepest 19 = .ok (.aload_n 0, 1) := by decide +kernel
theorem dX8_deepest_20 : decode cX8_deepest 20 = .ok (.iload_n 2, 1) := by decide +kernel
theorem dX8_deepest_21 : decode cX8_deepest 21 = .ok (.invokevirtual 89, 3) := by decide +kernel
theorem dX8_deepest_24 : decode cX8_deepest 24 = .ok (.invokestatic 67, 3) := by decide +kernel
theorem dX8_deepest_27 : decode cX8_deepest 27 = .ok (.goto 4, 3) := by decide +kernel
theorem dX8_deepest_30 : decode cX8_deepest 30 = .ok (.iload_n 1, 1) := by decide +kernel
theorem dX8_deepest_31 : decode cX8_deepest 31 = .ok (.istore_n 1, 1) := by decide +kernel
theorem dX8_deepest_32 : decode cX8_deepest 32 = .ok (.iinc 2 1, 3) := by decide +kernel
theorem dX8_deepest_35 : decode cX8_deepest 35 = .ok (.goto (-31), 3) := by decide +kernel
theorem dX8_deepest_38 : decode cX8_deepest 38 = .ok (.iload_n 1, 1) := by decide +kernel
theorem dX8_deepest_39 : decode cX8_deepest 39 = .ok (.ireturn, 1) := by decide +kernel
theorem dX8_wholes_0 : decode cX8_wholes 0 = .ok (.iconst 0, 1) := by decide +kernel
theorem dX8_wholes_1 : decode cX8_wholes 1 = .ok (.istore_n 1, 1) := by decide +kernel
theorem dX8_wholes_2 : decode cX8_wholes 2 = .ok (.iconst 0, 1) := by decide +kernel
theorem dX8_wholes_3 : decode cX8_wholes 3 = .ok (.istore_n 2, 1) := by decide +kernel
theorem dX8_wholes_4 : decode cX8_wholes 4 = .ok (.iload_n 2, 1) := by decide +kernel
theorem dX8_wholes_5 : decode cX8_wholes 5 = .ok (.bipush 10, 2) := by decide +kernel
theorem dX8_wholes_7 : decode cX8_wholes 7 = .ok (.if_icmp .ge 43, 3) := by decide +kernel
theorem dX8_wholes_10 : decode cX8_wholes 10 = .ok (.iload_n 1, 1) := by decide +kernel
theorem dX8_wholes_11 : decode cX8_wholes 11 = .ok (.aload_n 0, 1) := by decide +kernel
theorem dX8_wholes_12 : decode cX8_wholes 12 = .ok (.iload_n 2, 1) := by decide +kernel
theorem dX8_wholes_13 : decode cX8_wholes 13 = .ok (.invokevirtual 59, 3) := by decide +kernel
theorem dX8_wholes_16 : decode cX8_wholes 16 = .ok (.ifCond .eq 25, 3) := by decide +kernel
theorem dX8_wholes_19 : decode cX8_wholes 19 = .ok (.aload_n 0, 1) := by decide +kernel
theorem dX8_wholes_20 : decode cX8_wholes 20 = .ok (.getfield 9, 3) := by decide +kernel
theorem dX8_wholes_23 : decode cX8_wholes 23 = .ok (.bipush 50, 2) := by decide +kernel
theorem dX8_wholes_25 : decode cX8_wholes 25 = .ok (.iload_n 2, 1) := by decide +kernel
theorem dX8_wholes_26 : decode cX8_wholes 26 = .ok (.imul, 1) := by decide +kernel
theorem dX8_wholes_27 : decode cX8_wholes 27 = .ok (.iconst 4, 1) := by decide +kernel
theorem dX8_wholes_28 : decode cX8_wholes 28 = .ok (.iadd, 1) := by decide +kernel
theorem dX8_wholes_29 : decode cX8_wholes 29 = .ok (.iaload, 1) := by decide +kernel
theorem dX8_wholes_30 : decode cX8_wholes 30 = .ok (.bipush (-9), 2) := by decide +kernel
theorem dX8_wholes_32 : decode cX8_wholes 32 = .ok (.if_icmp .ne 9, 3) := by decide +kernel
theorem dX8_wholes_35 : decode cX8_wholes 35 = .ok (.iconst 1, 1) := by decide +kernel
theorem dX8_wholes_36 : decode cX8_wholes 36 = .ok (.iload_n 2, 1) := by decide +kernel
theorem dX8_wholes_37 : decode cX8_wholes 37 = .ok (.ishl, 1) := by decide +kernel
theorem dX8_wholes_38 : decode cX8_wholes 38 = .ok (.goto 4, 3) := by decide +kernel
theorem dX8_wholes_41 : decode cX8_wholes 41 = .ok (.iconst 0, 1) := by decide +kernel
theorem dX8_wholes_42 : decode cX8_wholes 42 = .ok (.ior, 1) := by decide +kernel
theorem dX8_wholes_43 : decode cX8_wholes 43 = .ok (.istore_n 1, 1) := by decide +kernel
theorem dX8_wholes_44 : decode cX8_wholes 44 = .ok (.iinc 2 1, 3) := by decide +kernel
theorem dX8_wholes_47 : decode cX8_wholes 47 = .ok (.goto (-43), 3) := by decide +kernel
theorem dX8_wholes_50 : decode cX8_wholes 50 = .ok (.iload_n 1, 1) := by decide +kernel
theorem dX8_wholes_51 : decode cX8_wholes 51 = .ok (.ireturn, 1) := by decide +kernel
theorem dX8_repacked_0 : decode cX8_repacked 0 = .ok (.iload_n 1, 1) := by decide +kernel
theorem dX8_repacked_1 : decode cX8_repacked 1 = .ok (.iconst 0, 1) := by decide +kernel
theorem dX8_repacked_2 : decode cX8_repacked 2 = .ok (.iconst 2, 1) := by decide +kernel
theorem dX8_repacked_3 : decode cX8_repacked 3 = .ok (.invokestatic 55, 3) := by decide +kernel
theorem dX8_repacked_6 : decode cX8_repacked 6 = .ok (.ifCond .ne 10, 3) := by decide +kernel
theorem dX8_repacked_9 : decode cX8_repacked 9 = .ok (.aload_n 0, 1) := by decide +kernel
theorem dX8_repacked_10 : decode cX8_repacked 10 = .ok (.bipush (-2), 2) := by decide +kernel
theorem dX8_repacked_12 : decode cX8_repacked 12 = .ok (.invokevirtual 51, 3) := by decide +kernel
theorem dX8_repacked_15 : decode cX8_repacked 15 = .ok (.ireturn, 1) := by decide +kernel
theorem dX8_repacked_16 : decode cX8_repacked 16 = .ok (.aload_n 0, 1) := by decide +kernel
theorem dX8_repacked_17 : decode cX8_repacked 17 = .ok (.getfield 9, 3) := by decide +kernel
theorem dX8_repacked_20 : decode cX8_repacked 20 = .ok (.aload_n 0, 1) := by decide +kernel
theorem dX8_repacked_21 : decode cX8_repacked 21 = .ok (.getfield 16, 3) := by decide +kernel
theorem dX8_repacked_24 : decode cX8_repacked 24 = .ok (.invokestatic 176, 3) := by decide +kernel
theorem dX8_repacked_27 : decode cX8_repacked 27 = .ok (.aload_n 0, 1) := by decide +kernel
theorem dX8_repacked_28 : decode cX8_repacked 28 = .ok (.invokevirtual 133, 3) := by decide +kernel
theorem dX8_repacked_31 : decode cX8_repacked 31 = .ok (.istore_n 2, 1) := by decide +kernel
theorem dX8_repacked_32 : decode cX8_repacked 32 = .ok (.iload_n 1, 1) := by decide +kernel
theorem dX8_repacked_33 : decode cX8_repacked 33 = .ok (.ifCond .ne 7, 3) := by decide +kernel
theorem dX8_repacked_36 : decode cX8_repacked 36 = .ok (.iload_n 2, 1) := by decide +kernel
theorem dX8_repacked_37 : decode cX8_repacked 37 = .ok (.goto 22, 3) := by decide +kernel
theorem dX8_repacked_40 : decode cX8_repacked 40 = .ok (.iload_n 1, 1) := by decide +kernel
theorem dX8_repacked_41 : decode cX8_repacked 41 = .ok (.iconst 1, 1) := by decide +kernel
theorem dX8_repacked_42 : decode cX8_repacked 42 = .ok (.if_icmp .ne 10, 3) := by decide +kernel
theorem dX8_repacked_45 : decode cX8_repacked 45 = .ok (.aload_n 0, 1) := by decide +kernel
theorem dX8_repacked_46 : decode cX8_repacked 46 = .ok (.invokevirtual 182, 3) := by decide +kernel
theorem dX8_repacked_49 : decode cX8_repacked 49 = .ok (.goto 10, 3) := by decide +kernel
theorem dX8_repacked_52 : decode cX8_repacked 52 = .ok (.aload_n 0, 1) := by decide +kernel
theorem dX8_repacked_53 : decode cX8_repacked 53 = .ok (.invokevirtual 185, 3) := by decide +kernel
theorem dX8_repacked_56 : decode cX8_repacked 56 = .ok (.invokestatic 148, 3) := by decide +kernel
theorem dX8_repacked_59 : decode cX8_repacked 59 = .ok (.istore_n 3, 1) := by decide +kernel
theorem dX8_repacked_60 : decode cX8_repacked 60 = .ok (.aload_n 0, 1) := by decide +kernel
theorem dX8_repacked_61 : decode cX8_repacked 61 = .ok (.getfield 16, 3) := by decide +kernel
theorem dX8_repacked_64 : decode cX8_repacked 64 = .ok (.aload_n 0, 1) := by decide +kernel
theorem dX8_repacked_65 : decode cX8_repacked 65 = .ok (.getfield 9, 3) := by decide +kernel
theorem dX8_repacked_68 : decode cX8_repacked 68 = .ok (.invokestatic 176, 3) := by decide +kernel
theorem dX8_repacked_71 : decode cX8_repacked 71 = .ok (.iload_n 3, 1) := by decide +kernel
theorem dX8_repacked_72 : decode cX8_repacked 72 = .ok (.ireturn, 1) := by decide +kernel
theorem dX8_best_0 : decode cX8_best 0 = .ok (.iload_n 1, 1) := by decide +kernel
theorem dX8_best_1 : decode cX8_best 1 = .ok (.iconst 0, 1) := by decide +kernel
theorem dX8_best_2 : decode cX8_best 2 = .ok (.iconst 1, 1) := by decide +kernel
theorem dX8_best_3 : decode cX8_best 3 = .ok (.invokestatic 55, 3) := by decide +kernel
theorem dX8_best_6 : decode cX8_best 6 = .ok (.ifCond .ne 10, 3) := by decide +kernel
theorem dX8_best_9 : decode cX8_best 9 = .ok (.aload_n 0, 1) := by decide +kernel
theorem dX8_best_10 : decode cX8_best 10 = .ok (.bipush (-2), 2) := by decide +kernel
theorem dX8_best_12 : decode cX8_best 12 = .ok (.invokevirtual 51, 3) := by decide +kernel
theorem dX8_best_15 : decode cX8_best 15 = .ok (.ireturn, 1) := by decide +kernel
theorem dX8_best_16 : decode cX8_best 16 = .ok (.aload_n 0, 1) := by decide +kernel
theorem dX8_best_17 : decode cX8_best 17 = .ok (.getfield 9, 3) := by decide +kernel
theorem dX8_best_20 : decode cX8_best 20 = .ok (.aload_n 0, 1) := by decide +kernel
theorem dX8_best_21 : decode cX8_best 21 = .ok (.getfield 16, 3) := by decide +kernel
theorem dX8_best_24 : decode cX8_best 24 = .ok (.invokestatic 176, 3) := by decide +kernel
theorem dX8_best_27 : decode cX8_best 27 = .ok (.iconst 0, 1) := by decide +kernel
theorem dX8_best_28 : decode cX8_best 28 = .ok (.istore_n 2, 1) := by decide +kernel
theorem dX8_best_29 : decode cX8_best 29 = .ok (.ldc 190, 2) := by decide +kernel
theorem dX8_best_31 : decode cX8_best 31 = .ok (.istore_n 3, 1) := by decide +kernel
theorem dX8_best_32 : decode cX8_best 32 = .ok (.iconst 0, 1) := by decide +kernel
theorem dX8_best_33 : decode cX8_best 33 = .ok (.istore 4, 2) := by decide +kernel
theorem dX8_best_35 : decode cX8_best 35 = .ok (.iload 4, 2) := by decide +kernel
theorem dX8_best_37 : decode cX8_best 37 = .ok (.iload_n 1, 1) := by decide +kernel
theorem dX8_best_38 : decode cX8_best 38 = .ok (.ifCond .ne 8, 3) := by decide +kernel
theorem dX8_best_41 : decode cX8_best 41 = .ok (.bipush 8, 2) := by decide +kernel
theorem dX8_best_43 : decode cX8_best 43 = .ok (.goto 4, 3) := by decide +kernel
theorem dX8_best_46 : decode cX8_best 46 = .ok (.iconst 5, 1) := by decide +kernel
theorem dX8_best_47 : decode cX8_best 47 = .ok (.if_icmp .gt 58, 3) := by decide +kernel
theorem dX8_best_50 : decode cX8_best 50 = .ok (.aload_n 0, 1) := by decide +kernel
theorem dX8_best_51 : decode cX8_best 51 = .ok (.getfield 9, 3) := by decide +kernel
theorem dX8_best_54 : decode cX8_best 54 = .ok (.iload_n 1, 1) := by decide +kernel
theorem dX8_best_55 : decode cX8_best 55 = .ok (.ifCond .ne 9, 3) := by decide +kernel
theorem dX8_best_58 : decode cX8_best 58 = .ok (.sipush 507, 3) := by decide +kernel
theorem dX8_best_61 : decode cX8_best 61 = .ok (.goto 6, 3) := by decide +kernel
theorem dX8_best_64 : decode cX8_best 64 = .ok (.sipush 505, 3) := by decide +kernel
theorem dX8_best_67 : decode cX8_best 67 = .ok (.iload 4, 2) := by decide +kernel
theorem dX8_best_69 : decode cX8_best 69 = .ok (.iastore, 1) := by decide +kernel
theorem dX8_best_70 : decode cX8_best 70 = .ok (.aload_n 0, 1) := by decide +kernel
theorem dX8_best_71 : decode cX8_best 71 = .ok (.invokevirtual 133, 3) := by decide +kernel
theorem dX8_best_74 : decode cX8_best 74 = .ok (.istore 5, 2) := by decide +kernel
theorem dX8_best_76 : decode cX8_best 76 = .ok (.aload_n 0, 1) := by decide +kernel
theorem dX8_best_77 : decode cX8_best 77 = .ok (.getfield 16, 3) := by decide +kernel
theorem dX8_best_80 : decode cX8_best 80 = .ok (.aload_n 0, 1) := by decide +kernel
theorem dX8_best_81 : decode cX8_best 81 = .ok (.getfield 9, 3) := by decide +kernel
theorem dX8_best_84 : decode cX8_best 84 = .ok (.invokestatic 176, 3) := by decide +kernel
theorem dX8_best_87 : decode cX8_best 87 = .ok (.iload 5, 2) := by decide +kernel
theorem dX8_best_89 : decode cX8_best 89 = .ok (.iload_n 3, 1) := by decide +kernel
theorem dX8_best_90 : decode cX8_best 90 = .ok (.if_icmp .ge 9, 3) := by decide +kernel
theorem dX8_best_93 : decode cX8_best 93 = .ok (.iload 5, 2) := by decide +kernel
theorem dX8_best_95 : decode cX8_best 95 = .ok (.istore_n 3, 1) := by decide +kernel
theorem dX8_best_96 : decode cX8_best 96 = .ok (.iload 4, 2) := by decide +kernel
theorem dX8_best_98 : decode cX8_best 98 = .ok (.istore_n 2, 1) := by decide +kernel
theorem dX8_best_99 : decode cX8_best 99 = .ok (.iinc 4 1, 3) := by decide +kernel
theorem dX8_best_102 : decode cX8_best 102 = .ok (.goto (-67), 3) := by decide +kernel
theorem dX8_best_105 : decode cX8_best 105 = .ok (.iload_n 2, 1) := by decide +kernel
theorem dX8_best_106 : decode cX8_best 106 = .ok (.ireturn, 1) := by decide +kernel
theorem dX8_bestBase_0 : decode cX8_bestBase 0 = .ok (.aload_n 0, 1) := by decide +kernel
theorem dX8_bestBase_1 : decode cX8_bestBase 1 = .ok (.iload_n 1, 1) := by decide +kernel
theorem dX8_bestBase_2 : decode cX8_bestBase 2 = .ok (.invokevirtual 59, 3) := by decide +kernel
theorem dX8_bestBase_5 : decode cX8_bestBase 5 = .ok (.ifCond .ne 9, 3) := by decide +kernel
theorem dX8_bestBase_8 : decode cX8_bestBase 8 = .ok (.aload_n 0, 1) := by decide +kernel
theorem dX8_bestBase_9 : decode cX8_bestBase 9 = .ok (.iconst (-1), 1) := by decide +kernel
theorem dX8_bestBase_10 : decode cX8_bestBase 10 = .ok (.invokevirtual 51, 3) := by decide +kernel
theorem dX8_bestBase_13 : decode cX8_bestBase 13 = .ok (.ireturn, 1) := by decide +kernel
theorem dX8_bestBase_14 : decode cX8_bestBase 14 = .ok (.iload_n 2, 1) := by decide +kernel
theorem dX8_bestBase_15 : decode cX8_bestBase 15 = .ok (.iconst 0, 1) := by decide +kernel
theorem dX8_bestBase_16 : decode cX8_bestBase 16 = .ok (.iconst 1, 1) := by decide +kernel
theorem dX8_bestBase_17 : decode cX8_bestBase 17 = .ok (.invokestatic 55, 3) := by decide +kernel
theorem dX8_bestBase_20 : decode cX8_bestBase 20 = .ok (.ifCond .ne 10, 3) := by decide +kernel
theorem dX8_bestBase_23 : decode cX8_bestBase 23 = .ok (.aload_n 0, 1) := by decide +kernel
theorem dX8_bestBase_24 : decode cX8_bestBase 24 = .ok (.bipush (-2), 2) := by decide +kernel
theorem dX8_bestBase_26 : decode cX8_bestBase 26 = .ok (.invokevirtual 51, 3) := by decide +kernel
theorem dX8_bestBase_29 : decode cX8_bestBase 29 = .ok (.ireturn, 1) := by decide +kernel
theorem dX8_bestBase_30 : decode cX8_bestBase 30 = .ok (.aload_n 0, 1) := by decide +kernel
theorem dX8_bestBase_31 : decode cX8_bestBase 31 = .ok (.invokevirtual 84, 3) := by decide +kernel
theorem dX8_bestBase_34 : decode cX8_bestBase 34 = .ok (.bipush (-9), 2) := by decide +kernel
theorem dX8_bestBase_36 : decode cX8_bestBase 36 = .ok (.istore_n 3, 1) := by decide +kernel
theorem dX8_bestBase_37 : decode cX8_bestBase 37 = .ok (.bipush (-9), 2) := by decide +kernel
theorem dX8_bestBase_39 : decode cX8_bestBase 39 = .ok (.istore 4, 2) := by decide +kernel
theorem dX8_bestBase_41 : decode cX8_bestBase 41 = .ok (.iconst 0, 1) := by decide +kernel
theorem dX8_bestBase_42 : decode cX8_bestBase 42 = .ok (.istore 5, 2) := by decide +kernel
theorem dX8_bestBase_44 : decode cX8_bestBase 44 = .ok (.iload 5, 2) := by decide +kernel
theorem dX8_bestBase_46 : decode cX8_bestBase 46 = .ok (.bipush 10, 2) := by decide +kernel
theorem dX8_bestBase_48 : decode cX8_bestBase 48 = .ok (.if_icmp .ge 59, 3) := by decide +kernel
theorem dX8_bestBase_51 : decode cX8_bestBase 51 = .ok (.iload 5, 2) := by decide +kernel
theorem dX8_bestBase_53 : decode cX8_bestBase 53 = .ok (.iload_n 1, 1) := by decide +kernel
theorem dX8_bestBase_54 : decode cX8_bestBase 54 = .ok (.if_icmp .eq 47, 3) := by decide +kernel
theorem dX8_bestBase_57 : decode cX8_bestBase 57 = .ok (.aload_n 0, 1) := by decide +kernel
theorem dX8_bestBase_58 : decode cX8_bestBase 58 = .ok (.iload 5, 2) := by decide +kernel
theorem dX8_bestBase_60 : decode cX8_bestBase 60 = .ok (.invokevirtual 59, 3) := by decide +kernel
theorem dX8_bestBase_63 : decode cX8_bestBase 63 = .ok (.ifCond .ne 6, 3) := by decide +kernel
theorem dX8_bestBase_66 : decode cX8_bestBase 66 = .ok (.goto 35, 3) := by decide +kernel
theorem dX8_bestBase_69 : decode cX8_bestBase 69 = .ok (.aload_n 0, 1) := by decide +kernel
theorem dX8_bestBase_70 : decode cX8_bestBase 70 = .ok (.iload 5, 2) := by decide +kernel
theorem dX8_bestBase_72 : decode cX8_bestBase 72 = .ok (.iload_n 1, 1) := by decide +kernel
theorem dX8_bestBase_73 : decode cX8_bestBase 73 = .ok (.invokevirtual 106, 3) := by decide +kernel
theorem dX8_bestBase_76 : decode cX8_bestBase 76 = .ok (.istore 6, 2) := by decide +kernel
theorem dX8_bestBase_78 : decode cX8_bestBase 78 = .ok (.iload_n 3, 1) := by decide +kernel
theorem dX8_bestBase_79 : decode cX8_bestBase 79 = .ok (.bipush (-9), 2) := by decide +kernel
theorem dX8_bestBase_81 : decode cX8_bestBase 81 = .ok (.if_icmp .eq 13, 3) := by decide +kernel
theorem dX8_bestBase_84 : decode cX8_bestBase 84 = .ok (.iload 6, 2) := by decide +kernel
theorem dX8_bestBase_86 : decode cX8_bestBase 86 = .ok (.iload 4, 2) := by decide +kernel
theorem dX8_bestBase_88 : decode cX8_bestBase 88 = .ok (.if_icmp .lt 6, 3) := by decide +kernel
theorem dX8_bestBase_91 : decode cX8_bestBase 91 = .ok (.goto 10, 3) := by decide +kernel
theorem dX8_bestBase_94 : decode cX8_bestBase 94 = .ok (.iload 5, 2) := by decide +kernel
theorem dX8_bestBase_96 : decode cX8_bestBase 96 = .ok (.istore_n 3, 1) := by decide +kernel
theorem dX8_bestBase_97 : decode cX8_bestBase 97 = .ok (.iload 6, 2) := by decide +kernel
theorem dX8_bestBase_99 : decode cX8_bestBase 99 = .ok (.istore 4, 2) := by decide +kernel
theorem dX8_bestBase_101 : decode cX8_bestBase 101 = .ok (.iinc 5 1, 3) := by decide +kernel
theorem dX8_bestBase_104 : decode cX8_bestBase 104 = .ok (.goto (-60), 3) := by decide +kernel
theorem dX8_bestBase_107 : decode cX8_bestBase 107 = .ok (.iload_n 2, 1) := by decide +kernel
theorem dX8_bestBase_108 : decode cX8_bestBase 108 = .ok (.ifCond .ne 7, 3) := by decide +kernel
theorem dX8_bestBase_111 : decode cX8_bestBase 111 = .ok (.iload_n 3, 1) := by decide +kernel
theorem dX8_bestBase_112 : decode cX8_bestBase 112 = .ok (.goto 5, 3) := by decide +kernel
theorem dX8_bestBase_115 : decode cX8_bestBase 115 = .ok (.iload 4, 2) := by decide +kernel
theorem dX8_bestBase_117 : decode cX8_bestBase 117 = .ok (.ireturn, 1) := by decide +kernel
theorem dX8_areTwins_0 : decode cX8_areTwins 0 = .ok (.aload_n 0, 1) := by decide +kernel
theorem dX8_areTwins_1 : decode cX8_areTwins 1 = .ok (.getfield 34, 3) := by decide +kernel
theorem dX8_areTwins_4 : decode cX8_areTwins 4 = .ok (.iload_n 1, 1) := by decide +kernel
theorem dX8_areTwins_5 : decode cX8_areTwins 5 = .ok (.iaload, 1) := by decide +kernel
theorem dX8_areTwins_6 : decode cX8_areTwins 6 = .ok (.aload_n 0, 1) := by decide +kernel
theorem dX8_areTwins_7 : decode cX8_areTwins 7 = .ok (.getfield 34, 3) := by decide +kernel
theorem dX8_areTwins_10 : decode cX8_areTwins 10 = .ok (.iload_n 2, 1) := by decide +kernel
theorem dX8_areTwins_11 : decode cX8_areTwins 11 = .ok (.iaload, 1) := by decide +kernel
theorem dX8_areTwins_12 : decode cX8_areTwins 12 = .ok (.if_icmp .ne 7, 3) := by decide +kernel
theorem dX8_areTwins_15 : decode cX8_areTwins 15 = .ok (.iconst 1, 1) := by decide +kernel
theorem dX8_areTwins_16 : decode cX8_areTwins 16 = .ok (.goto 4, 3) := by decide +kernel
theorem dX8_areTwins_19 : decode cX8_areTwins 19 = .ok (.iconst 0, 1) := by decide +kernel
theorem dX8_areTwins_20 : decode cX8_areTwins 20 = .ok (.istore_n 3, 1) := by decide +kernel
theorem dX8_areTwins_21 : decode cX8_areTwins 21 = .ok (.iconst 0, 1) := by decide +kernel
theorem dX8_areTwins_22 : decode cX8_areTwins 22 = .ok (.istore 4, 2) := by decide +kernel
theorem dX8_areTwins_24 : decode cX8_areTwins 24 = .ok (.iload 4, 2) := by decide +kernel
theorem dX8_areTwins_26 : decode cX8_areTwins 26 = .ok (.aload_n 0, 1) := by decide +kernel
theorem dX8_areTwins_27 : decode cX8_areTwins 27 = .ok (.getfield 34, 3) := by decide +kernel
theorem dX8_areTwins_30 : decode cX8_areTwins 30 = .ok (.iload_n 1, 1) := by decide +kernel
theorem dX8_areTwins_31 : decode cX8_areTwins 31 = .ok (.iaload, 1) := by decide +kernel
theorem dX8_areTwins_32 : decode cX8_areTwins 32 = .ok (.if_icmp .ge 46, 3) := by decide +kernel
theorem dX8_areTwins_35 : decode cX8_areTwins 35 = .ok (.iload_n 3, 1) := by decide +kernel
theorem dX8_areTwins_36 : decode cX8_areTwins 36 = .ok (.ifCond .eq 42, 3) := by decide +kernel
theorem dX8_areTwins_39 : decode cX8_areTwins 39 = .ok (.aload_n 0, 1) := by decide +kernel
theorem dX8_areTwins_40 : decode cX8_areTwins 40 = .ok (.getfield 31, 3) := by decide +kernel
theorem dX8_areTwins_43 : decode cX8_areTwins 43 = .ok (.bipush 12, 2) := by decide +kernel
theorem dX8_areTwins_45 : decode cX8_areTwins 45 = .ok (.iload_n 1, 1) := by decide +kernel
theorem dX8_areTwins_46 : decode cX8_areTwins 46 = .ok (.imul, 1) := by decide +kernel
theorem dX8_areTwins_47 : decode cX8_areTwins 47 = .ok (.iload 4, 2) := by decide +kernel
theorem dX8_areTwins_49 : decode cX8_areTwins 49 = .ok (.iadd, 1) := by decide +kernel
theorem dX8_areTwins_50 : decode cX8_areTwins 50 = .ok (.iaload, 1) := by decide +kernel
theorem dX8_areTwins_51 : decode cX8_areTwins 51 = .ok (.aload_n 0, 1) := by decide +kernel
theorem dX8_areTwins_52 : decode cX8_areTwins 52 = .ok (.getfield 31, 3) := by decide +kernel
theorem dX8_areTwins_55 : decode cX8_areTwins 55 = .ok (.bipush 12, 2) := by decide +kernel
theorem dX8_areTwins_57 : decode cX8_areTwins 57 = .ok (.iload_n 2, 1) := by decide +kernel
theorem dX8_areTwins_58 : decode cX8_areTwins 58 = .ok (.imul, 1) := by decide +kernel
theorem dX8_areTwins_59 : decode cX8_areTwins 59 = .ok (.iload 4, 2) := by decide +kernel
theorem dX8_areTwins_61 : decode cX8_areTwins 61 = .ok (.iadd, 1) := by decide +kernel
theorem dX8_areTwins_62 : decode cX8_areTwins 62 = .ok (.iaload, 1) := by decide +kernel
theorem dX8_areTwins_63 : decode cX8_areTwins 63 = .ok (.if_icmp .ne 7, 3) := by decide +kernel
theorem dX8_areTwins_66 : decode cX8_areTwins 66 = .ok (.iconst 1, 1) := by decide +kernel
theorem dX8_areTwins_67 : decode cX8_areTwins 67 = .ok (.goto 4, 3) := by decide +kernel
theorem dX8_areTwins_70 : decode cX8_areTwins 70 = .ok (.iconst 0, 1) := by decide +kernel
theorem dX8_areTwins_71 : decode cX8_areTwins 71 = .ok (.istore_n 3, 1) := by decide +kernel
theorem dX8_areTwins_72 : decode cX8_areTwins 72 = .ok (.iinc 4 1, 3) := by decide +kernel
theorem dX8_areTwins_75 : decode cX8_areTwins 75 = .ok (.goto (-51), 3) := by decide +kernel
theorem dX8_areTwins_78 : decode cX8_areTwins 78 = .ok (.iload_n 3, 1) := by decide +kernel
theorem dX8_areTwins_79 : decode cX8_areTwins 79 = .ok (.ireturn, 1) := by decide +kernel
theorem dX8_twinOf_0 : decode cX8_twinOf 0 = .ok (.iconst 0, 1) := by decide +kernel
theorem dX8_twinOf_1 : decode cX8_twinOf 1 = .ok (.istore_n 2, 1) := by decide +kernel
theorem dX8_twinOf_2 : decode cX8_twinOf 2 = .ok (.aload_n 0, 1) := by decide +kernel
theorem dX8_twinOf_3 : decode cX8_twinOf 3 = .ok (.iload_n 2, 1) := by decide +kernel
theorem dX8_twinOf_4 : decode cX8_twinOf 4 = .ok (.invokevirtual 59, 3) := by decide +kernel
theorem dX8_twinOf_7 : decode cX8_twinOf 7 = .ok (.ifCond .eq 12, 3) := by decide +kernel
theorem dX8_twinOf_10 : decode cX8_twinOf 10 = .ok (.aload_n 0, 1) := by decide +kernel
theorem dX8_twinOf_11 : decode cX8_twinOf 11 = .ok (.iload_n 2, 1) := by decide +kernel
theorem dX8_twinOf_12 : decode cX8_twinOf 12 = .ok (.iload_n 1, 1) := by decide +kernel
theorem dX8_twinOf_13 : decode cX8_twinOf 13 = .ok (.invokevirtual 191, 3) := by decide +kernel
theorem dX8_twinOf_16 : decode cX8_twinOf 16 = .ok (.ifCond .ne 9, 3) := by decide +kernel
theorem dX8_twinOf_19 : decode cX8_twinOf 19 = .ok (.iinc 2 1, 3) := by decide +kernel
theorem dX8_twinOf_22 : decode cX8_twinOf 22 = .ok (.goto (-20), 3) := by decide +kernel
theorem dX8_twinOf_25 : decode cX8_twinOf 25 = .ok (.iload_n 2, 1) := by decide +kernel
theorem dX8_twinOf_26 : decode cX8_twinOf 26 = .ok (.ireturn, 1) := by decide +kernel
theorem dX8_reached_0 : decode cX8_reached 0 = .ok (.iload_n 1, 1) := by decide +kernel
theorem dX8_reached_1 : decode cX8_reached 1 = .ok (.iconst 0, 1) := by decide +kernel
theorem dX8_reached_2 : decode cX8_reached 2 = .ok (.iconst 2, 1) := by decide +kernel
theorem dX8_reached_3 : decode cX8_reached 3 = .ok (.invokestatic 55, 3) := by decide +kernel
theorem dX8_reached_6 : decode cX8_reached 6 = .ok (.ifCond .ne 10, 3) := by decide +kernel
theorem dX8_reached_9 : decode cX8_reached 9 = .ok (.aload_n 0, 1) := by decide +kernel
theorem dX8_reached_10 : decode cX8_reached 10 = .ok (.bipush (-2), 2) := by decide +kernel
theorem dX8_reached_12 : decode cX8_reached 12 = .ok (.invokevirtual 51, 3) := by decide +kernel
theorem dX8_reached_15 : decode cX8_reached 15 = .ok (.ireturn, 1) := by decide +kernel
theorem dX8_reached_16 : decode cX8_reached 16 = .ok (.iload_n 1, 1) := by decide +kernel
theorem dX8_reached_17 : decode cX8_reached 17 = .ok (.ifCond .ne 8, 3) := by decide +kernel
theorem dX8_reached_20 : decode cX8_reached 20 = .ok (.aload_n 0, 1) := by decide +kernel
theorem dX8_reached_21 : decode cX8_reached 21 = .ok (.invokevirtual 145, 3) := by decide +kernel
theorem dX8_reached_24 : decode cX8_reached 24 = .ok (.ireturn, 1) := by decide +kernel
theorem dX8_reached_25 : decode cX8_reached 25 = .ok (.iload_n 1, 1) := by decide +kernel
theorem dX8_reached_26 : decode cX8_reached 26 = .ok (.iconst 1, 1) := by decide +kernel
theorem dX8_reached_27 : decode cX8_reached 27 = .ok (.if_icmp .ne 15, 3) := by decide +kernel
theorem dX8_reached_30 : decode cX8_reached 30 = .ok (.aload_n 0, 1) := by decide +kernel
theorem dX8_reached_31 : decode cX8_reached 31 = .ok (.invokevirtual 142, 3) := by decide +kernel
theorem dX8_reached_34 : decode cX8_reached 34 = .ok (.aload_n 0, 1) := by decide +kernel
theorem dX8_reached_35 : decode cX8_reached 35 = .ok (.invokevirtual 145, 3) := by decide +kernel
theorem dX8_reached_38 : decode cX8_reached 38 = .ok (.iconst (-1), 1) := by decide +kernel
theorem dX8_reached_39 : decode cX8_reached 39 = .ok (.ixor, 1) := by decide +kernel
theorem dX8_reached_40 : decode cX8_reached 40 = .ok (.iand, 1) := by decide +kernel
theorem dX8_reached_41 : decode cX8_reached 41 = .ok (.ireturn, 1) := by decide +kernel
theorem dX8_reached_42 : decode cX8_reached 42 = .ok (.aload_n 0, 1) := by decide +kernel
theorem dX8_reached_43 : decode cX8_reached 43 = .ok (.invokevirtual 84, 3) := by decide +kernel
theorem dX8_reached_46 : decode cX8_reached 46 = .ok (.iconst 0, 1) := by decide +kernel
theorem dX8_reached_47 : decode cX8_reached 47 = .ok (.istore_n 2, 1) := by decide +kernel
theorem dX8_reached_48 : decode cX8_reached 48 = .ok (.iconst 0, 1) := by decide +kernel
theorem dX8_reached_49 : decode cX8_reached 49 = .ok (.istore_n 3, 1) := by decide +kernel
theorem dX8_reached_50 : decode cX8_reached 50 = .ok (.iload_n 3, 1) := by decide +kernel
theorem dX8_reached_51 : decode cX8_reached 51 = .ok (.bipush 10, 2) := by decide +kernel
theorem dX8_reached_53 : decode cX8_reached 53 = .ok (.if_icmp .ge 34, 3) := by decide +kernel
theorem dX8_reached_56 : decode cX8_reached 56 = .ok (.iload_n 2, 1) := by decide +kernel
theorem dX8_reached_57 : decode cX8_reached 57 = .ok (.aload_n 0, 1) := by decide +kernel
theorem dX8_reached_58 : decode cX8_reached 58 = .ok (.iload_n 3, 1) := by decide +kernel
theorem dX8_reached_59 : decode cX8_reached 59 = .ok (.invokevirtual 59, 3) := by decide +kernel
theorem dX8_reached_62 : decode cX8_reached 62 = .ok (.ifCond .eq 16, 3) := by decide +kernel
theorem dX8_reached_65 : decode cX8_reached 65 = .ok (.aload_n 0, 1) := by decide +kernel
theorem dX8_reached_66 : decode cX8_reached 66 = .ok (.iload_n 3, 1) := by decide +kernel
theorem dX8_reached_67 : decode cX8_reached 67 = .ok (.invokevirtual 194, 3) := by decide +kernel
theorem dX8_reached_70 : decode cX8_reached 70 = .ok (.iload_n 3, 1) := by decide +kernel
theorem dX8_reached_71 : decode cX8_reached 71 = .ok (.if_icmp .ne 7, 3) := by decide +kernel
theorem dX8_reached_74 : decode cX8_reached 74 = .ok (.iconst 1, 1) := by decide +kernel
theorem dX8_reached_75 : decode cX8_reached 75 = .ok (.goto 4, 3) := by decide +kernel
theorem dX8_reached_78 : decode cX8_reached 78 = .ok (.iconst 0, 1) := by decide +kernel
theorem dX8_reached_79 : decode cX8_reached 79 = .ok (.iadd, 1) := by decide +kernel
theorem dX8_reached_80 : decode cX8_reached 80 = .ok (.istore_n 2, 1) := by decide +kernel
theorem dX8_reached_81 : decode cX8_reached 81 = .ok (.iinc 3 1, 3) := by decide +kernel
theorem dX8_reached_84 : decode cX8_reached 84 = .ok (.goto (-34), 3) := by decide +kernel
theorem dX8_reached_87 : decode cX8_reached 87 = .ok (.iload_n 2, 1) := by decide +kernel
theorem dX8_reached_88 : decode cX8_reached 88 = .ok (.ireturn, 1) := by decide +kernel
theorem dX8_ancestors_0 : decode cX8_ancestors 0 = .ok (.aload_n 0, 1) := by decide +kernel
theorem dX8_ancestors_1 : decode cX8_ancestors 1 = .ok (.iload_n 1, 1) := by decide +kernel
theorem dX8_ancestors_2 : decode cX8_ancestors 2 = .ok (.invokevirtual 59, 3) := by decide +kernel
theorem dX8_ancestors_5 : decode cX8_ancestors 5 = .ok (.ifCond .eq 17, 3) := by decide +kernel
theorem dX8_ancestors_8 : decode cX8_ancestors 8 = .ok (.aload_n 0, 1) := by decide +kernel
theorem dX8_ancestors_9 : decode cX8_ancestors 9 = .ok (.iload_n 1, 1) := by decide +kernel
theorem dX8_ancestors_10 : decode cX8_ancestors 10 = .ok (.invokevirtual 139, 3) := by decide +kernel
theorem dX8_ancestors_13 : decode cX8_ancestors 13 = .ok (.iconst 1, 1) := by decide +kernel
theorem dX8_ancestors_14 : decode cX8_ancestors 14 = .ok (.iload_n 1, 1) := by decide +kernel
theorem dX8_ancestors_15 : decode cX8_ancestors 15 = .ok (.ishl, 1) := by decide +kernel
theorem dX8_ancestors_16 : decode cX8_ancestors 16 = .ok (.iconst (-1), 1) := by decide +kernel
theorem dX8_ancestors_17 : decode cX8_ancestors 17 = .ok (.ixor, 1) := by decide +kernel
theorem dX8_ancestors_18 : decode cX8_ancestors 18 = .ok (.iand, 1) := by decide +kernel
theorem dX8_ancestors_19 : decode cX8_ancestors 19 = .ok (.goto 8, 3) := by decide +kernel
theorem dX8_ancestors_22 : decode cX8_ancestors 22 = .ok (.aload_n 0, 1) := by decide +kernel
theorem dX8_ancestors_23 : decode cX8_ancestors 23 = .ok (.iconst (-1), 1) := by decide +kernel
theorem dX8_ancestors_24 : decode cX8_ancestors 24 = .ok (.invokevirtual 51, 3) := by decide +kernel
theorem dX8_ancestors_27 : decode cX8_ancestors 27 = .ok (.ireturn, 1) := by decide +kernel
theorem dX8_common_0 : decode cX8_common 0 = .ok (.aload_n 0, 1) := by decide +kernel
theorem dX8_common_1 : decode cX8_common 1 = .ok (.iload_n 1, 1) := by decide +kernel
theorem dX8_common_2 : decode cX8_common 2 = .ok (.invokevirtual 59, 3) := by decide +kernel
theorem dX8_common_5 : decode cX8_common 5 = .ok (.ifCond .eq 11, 3) := by decide +kernel
theorem dX8_common_8 : decode cX8_common 8 = .ok (.aload_n 0, 1) := by decide +kernel
theorem dX8_common_9 : decode cX8_common 9 = .ok (.iload_n 2, 1) := by decide +kernel
theorem dX8_common_10 : decode cX8_common 10 = .ok (.invokevirtual 59, 3) := by decide +kernel
theorem dX8_common_13 : decode cX8_common 13 = .ok (.ifCond .ne 9, 3) := by decide +kernel
theorem dX8_common_16 : decode cX8_common 16 = .ok (.aload_n 0, 1) := by decide +kernel
theorem dX8_common_17 : decode cX8_common 17 = .ok (.iconst (-1), 1) := by decide +kernel
theorem dX8_common_18 : decode cX8_common 18 = .ok (.invokevirtual 51, 3) := by decide +kernel
theorem dX8_common_21 : decode cX8_common 21 = .ok (.ireturn, 1) := by decide +kernel
theorem dX8_common_22 : decode cX8_common 22 = .ok (.aload_n 0, 1) := by decide +kernel
theorem dX8_common_23 : decode cX8_common 23 = .ok (.iload_n 1, 1) := by decide +kernel
theorem dX8_common_24 : decode cX8_common 24 = .ok (.invokevirtual 139, 3) := by decide +kernel
theorem dX8_common_27 : decode cX8_common 27 = .ok (.aload_n 0, 1) := by decide +kernel
theorem dX8_common_28 : decode cX8_common 28 = .ok (.iload_n 2, 1) := by decide +kernel
theorem dX8_common_29 : decode cX8_common 29 = .ok (.invokevirtual 139, 3) := by decide +kernel
theorem dX8_common_32 : decode cX8_common 32 = .ok (.iand, 1) := by decide +kernel
theorem dX8_common_33 : decode cX8_common 33 = .ok (.istore_n 3, 1) := by decide +kernel
theorem dX8_common_34 : decode cX8_common 34 = .ok (.bipush (-9), 2) := by decide +kernel
theorem dX8_common_36 : decode cX8_common 36 = .ok (.istore 4, 2) := by decide +kernel
theorem dX8_common_38 : decode cX8_common 38 = .ok (.iconst 0, 1) := by decide +kernel
theorem dX8_common_39 : decode cX8_common 39 = .ok (.istore 5, 2) := by decide +kernel
theorem dX8_common_41 : decode cX8_common 41 = .ok (.iload 5, 2) := by decide +kernel
theorem dX8_common_43 : decode cX8_common 43 = .ok (.bipush 10, 2) := by decide +kernel
theorem dX8_common_45 : decode cX8_common 45 = .ok (.if_icmp .ge 28, 3) := by decide +kernel
theorem dX8_common_48 : decode cX8_common 48 = .ok (.iload_n 3, 1) := by decide +kernel
theorem dX8_common_49 : decode cX8_common 49 = .ok (.iload 5, 2) := by decide +kernel
theorem dX8_common_51 : decode cX8_common 51 = .ok (.ishr, 1) := by decide +kernel
theorem dX8_common_52 : decode cX8_common 52 = .ok (.iconst 1, 1) := by decide +kernel
theorem dX8_common_53 : decode cX8_common 53 = .ok (.iand, 1) := by decide +kernel
theorem dX8_common_54 : decode cX8_common 54 = .ok (.iconst 1, 1) := by decide +kernel
theorem dX8_common_55 : decode cX8_common 55 = .ok (.if_icmp .ne 8, 3) := by decide +kernel
theorem dX8_common_58 : decode cX8_common 58 = .ok (.iload 5, 2) := by decide +kernel
theorem dX8_common_60 : decode cX8_common 60 = .ok (.goto 5, 3) := by decide +kernel
theorem dX8_common_63 : decode cX8_common 63 = .ok (.iload 4, 2) := by decide +kernel
theorem dX8_common_65 : decode cX8_common 65 = .ok (.istore 4, 2) := by decide +kernel
theorem dX8_common_67 : decode cX8_common 67 = .ok (.iinc 5 1, 3) := by decide +kernel
theorem dX8_common_70 : decode cX8_common 70 = .ok (.goto (-29), 3) := by decide +kernel
theorem dX8_common_73 : decode cX8_common 73 = .ok (.iload 4, 2) := by decide +kernel
theorem dX8_common_75 : decode cX8_common 75 = .ok (.ireturn, 1) := by decide +kernel
theorem dX8_generations_0 : decode cX8_generations 0 = .ok (.iload_n 1, 1) := by decide +kernel
theorem dX8_generations_1 : decode cX8_generations 1 = .ok (.iconst 0, 1) := by decide +kernel
theorem dX8_generations_2 : decode cX8_generations 2 = .ok (.iconst 3, 1) := by decide +kernel
theorem dX8_generations_3 : decode cX8_generations 3 = .ok (.invokestatic 55, 3) := by decide +kernel
theorem dX8_generations_6 : decode cX8_generations 6 = .ok (.ifCond .ne 9, 3) := by decide +kernel
theorem dX8_generations_9 : decode cX8_generations 9 = .ok (.aload_n 0, 1) := by decide +kernel
theorem dX8_generations_10 : decode cX8_generations 10 = .ok (.iconst (-1), 1) := by decide +kernel
theorem dX8_generations_11 : decode cX8_generations 11 = .ok (.invokevirtual 51, 3) := by decide +kernel
theorem dX8_generations_14 : decode cX8_generations 14 = .ok (.ireturn, 1) := by decide +kernel
theorem dX8_generations_15 : decode cX8_generations 15 = .ok (.iload_n 2, 1) := by decide +kernel
theorem dX8_generations_16 : decode cX8_generations 16 = .ok (.ifCond .ge 10, 3) := by decide +kernel
theorem dX8_generations_19 : decode cX8_generations 19 = .ok (.aload_n 0, 1) := by decide +kernel
theorem dX8_generations_20 : decode cX8_generations 20 = .ok (.bipush (-4), 2) := by decide +kernel
theorem dX8_generations_22 : decode cX8_generations 22 = .ok (.invokevirtual 51, 3) := by decide +kernel
theorem dX8_generations_25 : decode cX8_generations 25 = .ok (.ireturn, 1) := by decide +kernel
theorem dX8_generations_26 : decode cX8_generations 26 = .ok (.iload_n 2, 1) := by decide +kernel
theorem dX8_generations_27 : decode cX8_generations 27 = .ok (.bipush 9, 2) := by decide +kernel
theorem dX8_generations_29 : decode cX8_generations 29 = .ok (.if_icmp .le 10, 3) := by decide +kernel
theorem dX8_generations_32 : decode cX8_generations 32 = .ok (.aload_n 0, 1) := by decide +kernel
theorem dX8_generations_33 : decode cX8_generations 33 = .ok (.bipush (-6), 2) := by decide +kernel
theorem dX8_generations_35 : decode cX8_generations 35 = .ok (.invokevirtual 51, 3) := by decide +kernel
theorem dX8_generations_38 : decode cX8_generations 38 = .ok (.ireturn, 1) := by decide +kernel
theorem dX8_generations_39 : decode cX8_generations 39 = .ok (.aload_n 0, 1) := by decide +kernel
theorem dX8_generations_40 : decode cX8_generations 40 = .ok (.getfield 9, 3) := by decide +kernel
theorem dX8_generations_43 : decode cX8_generations 43 = .ok (.sipush 501, 3) := by decide +kernel
theorem dX8_generations_46 : decode cX8_generations 46 = .ok (.iload_n 1, 1) := by decide +kernel
theorem dX8_generations_47 : decode cX8_generations 47 = .ok (.iadd, 1) := by decide +kernel
theorem dX8_generations_48 : decode cX8_generations 48 = .ok (.iaload, 1) := by decide +kernel
theorem dX8_generations_49 : decode cX8_generations 49 = .ok (.bipush (-9), 2) := by decide +kernel
theorem dX8_generations_51 : decode cX8_generations 51 = .ok (.if_icmp .ne 5, 3) := by decide +kernel
theorem dX8_generations_54 : decode cX8_generations 54 = .ok (.iconst 0, 1) := by decide +kernel
theorem dX8_generations_55 : decode cX8_generations 55 = .ok (.ireturn, 1) := by decide +kernel
theorem dX8_generations_56 : decode cX8_generations 56 = .ok (.iconst 1, 1) := by decide +kernel
theorem dX8_generations_57 : decode cX8_generations 57 = .ok (.aload_n 0, 1) := by decide +kernel
theorem dX8_generations_58 : decode cX8_generations 58 = .ok (.getfield 9, 3) := by decide +kernel
theorem dX8_generations_61 : decode cX8_generations 61 = .ok (.sipush 501, 3) := by decide +kernel
theorem dX8_generations_64 : decode cX8_generations 64 = .ok (.iload_n 1, 1) := by decide +kernel
theorem dX8_generations_65 : decode cX8_generations 65 = .ok (.iadd, 1) := by decide +kernel
theorem dX8_generations_66 : decode cX8_generations 66 = .ok (.iaload, 1) := by decide +kernel
theorem dX8_generations_67 : decode cX8_generations 67 = .ok (.ishl, 1) := by decide +kernel
theorem dX8_generations_68 : decode cX8_generations 68 = .ok (.istore_n 3, 1) := by decide +kernel
theorem dX8_generations_69 : decode cX8_generations 69 = .ok (.iconst 0, 1) := by decide +kernel
theorem dX8_generations_70 : decode cX8_generations 70 = .ok (.istore 4, 2) := by decide +kernel
theorem dX8_generations_72 : decode cX8_generations 72 = .ok (.iload 4, 2) := by decide +kernel
theorem dX8_generations_74 : decode cX8_generations 74 = .ok (.iload_n 2, 1) := by decide +kernel
theorem dX8_generations_75 : decode cX8_generations 75 = .ok (.if_icmp .ge 15, 3) := by decide +kernel
theorem dX8_generations_78 : decode cX8_generations 78 = .ok (.aload_n 0, 1) := by decide +kernel
theorem dX8_generations_79 : decode cX8_generations 79 = .ok (.iload_n 3, 1) := by decide +kernel
theorem dX8_generations_80 : decode cX8_generations 80 = .ok (.invokevirtual 136, 3) := by decide +kernel
theorem dX8_generations_83 : decode cX8_generations 83 = .ok (.istore_n 3, 1) := by decide +kernel
theorem dX8_generations_84 : decode cX8_generations 84 = .ok (.iinc 4 1, 3) := by decide +kernel
theorem dX8_generations_87 : decode cX8_generations 87 = .ok (.goto (-15), 3) := by decide +kernel
theorem dX8_generations_90 : decode cX8_generations 90 = .ok (.iload_n 3, 1) := by decide +kernel
theorem dX8_generations_91 : decode cX8_generations 91 = .ok (.ireturn, 1) := by decide +kernel
theorem dX8_twin_0 : decode cX8_twin 0 = .ok (.aload_n 0, 1) := by decide +kernel
theorem dX8_twin_1 : decode cX8_twin 1 = .ok (.iload_n 1, 1) := by decide +kernel
theorem dX8_twin_2 : decode cX8_twin 2 = .ok (.invokevirtual 59, 3) := by decide +kernel
theorem dX8_twin_5 : decode cX8_twin 5 = .ok (.ifCond .ne 9, 3) := by decide +kernel
theorem dX8_twin_8 : decode cX8_twin 8 = .ok (.aload_n 0, 1) := by decide +kernel
theorem dX8_twin_9 : decode cX8_twin 9 = .ok (.iconst (-1), 1) := by decide +kernel
theorem dX8_twin_10 : decode cX8_twin 10 = .ok (.invokevirtual 51, 3) := by decide +kernel
theorem dX8_twin_13 : decode cX8_twin 13 = .ok (.ireturn, 1) := by decide +kernel
theorem dX8_twin_14 : decode cX8_twin 14 = .ok (.aload_n 0, 1) := by decide +kernel
theorem dX8_twin_15 : decode cX8_twin 15 = .ok (.invokevirtual 84, 3) := by decide +kernel
theorem dX8_twin_18 : decode cX8_twin 18 = .ok (.aload_n 0, 1) := by decide +kernel
theorem dX8_twin_19 : decode cX8_twin 19 = .ok (.iload_n 1, 1) := by decide +kernel
theorem dX8_twin_20 : decode cX8_twin 20 = .ok (.invokevirtual 194, 3) := by decide +kernel
theorem dX8_twin_23 : decode cX8_twin 23 = .ok (.ireturn, 1) := by decide +kernel
theorem dX8_fetch_0 : decode cX8_fetch 0 = .ok (.iload_n 1, 1) := by decide +kernel
theorem dX8_fetch_1 : decode cX8_fetch 1 = .ok (.iconst 0, 1) := by decide +kernel
theorem dX8_fetch_2 : decode cX8_fetch 2 = .ok (.iconst 3, 1) := by decide +kernel
theorem dX8_fetch_3 : decode cX8_fetch 3 = .ok (.invokestatic 55, 3) := by decide +kernel
theorem dX8_fetch_6 : decode cX8_fetch 6 = .ok (.ifCond .ne 9, 3) := by decide +kernel
theorem dX8_fetch_9 : decode cX8_fetch 9 = .ok (.aload_n 0, 1) := by decide +kernel
theorem dX8_fetch_10 : decode cX8_fetch 10 = .ok (.iconst (-1), 1) := by decide +kernel
theorem dX8_fetch_11 : decode cX8_fetch 11 = .ok (.invokevirtual 51, 3) := by decide +kernel
theorem dX8_fetch_14 : decode cX8_fetch 14 = .ok (.ireturn, 1) := by decide +kernel
theorem dX8_fetch_15 : decode cX8_fetch 15 = .ok (.iload_n 2, 1) := by decide +kernel
theorem dX8_fetch_16 : decode cX8_fetch 16 = .ok (.ifCond .ge 10, 3) := by decide +kernel
theorem dX8_fetch_19 : decode cX8_fetch 19 = .ok (.aload_n 0, 1) := by decide +kernel
theorem dX8_fetch_20 : decode cX8_fetch 20 = .ok (.bipush (-4), 2) := by decide +kernel
theorem dX8_fetch_22 : decode cX8_fetch 22 = .ok (.invokevirtual 51, 3) := by decide +kernel
theorem dX8_fetch_25 : decode cX8_fetch 25 = .ok (.ireturn, 1) := by decide +kernel
theorem dX8_fetch_26 : decode cX8_fetch 26 = .ok (.iload_n 2, 1) := by decide +kernel
theorem dX8_fetch_27 : decode cX8_fetch 27 = .ok (.sipush 1023, 3) := by decide +kernel
theorem dX8_fetch_30 : decode cX8_fetch 30 = .ok (.if_icmp .le 10, 3) := by decide +kernel
theorem dX8_fetch_33 : decode cX8_fetch 33 = .ok (.aload_n 0, 1) := by decide +kernel
theorem dX8_fetch_34 : decode cX8_fetch 34 = .ok (.bipush (-6), 2) := by decide +kernel
theorem dX8_fetch_36 : decode cX8_fetch 36 = .ok (.invokevirtual 51, 3) := by decide +kernel
theorem dX8_fetch_39 : decode cX8_fetch 39 = .ok (.ireturn, 1) := by decide +kernel
theorem dX8_fetch_40 : decode cX8_fetch 40 = .ok (.iload_n 3, 1) := by decide +kernel
theorem dX8_fetch_41 : decode cX8_fetch 41 = .ok (.iconst 0, 1) := by decide +kernel
theorem dX8_fetch_42 : decode cX8_fetch 42 = .ok (.iconst 2, 1) := by decide +kernel
theorem dX8_fetch_43 : decode cX8_fetch 43 = .ok (.invokestatic 55, 3) := by decide +kernel
theorem dX8_fetch_46 : decode cX8_fetch 46 = .ok (.ifCond .ne 10, 3) := by decide +kernel
theorem dX8_fetch_49 : decode cX8_fetch 49 = .ok (.aload_n 0, 1) := by decide +kernel
theorem dX8_fetch_50 : decode cX8_fetch 50 = .ok (.bipush (-2), 2) := by decide +kernel
theorem dX8_fetch_52 : decode cX8_fetch 52 = .ok (.invokevirtual 51, 3) := by decide +kernel
theorem dX8_fetch_55 : decode cX8_fetch 55 = .ok (.ireturn, 1) := by decide +kernel
theorem dX8_fetch_56 : decode cX8_fetch 56 = .ok (.aload_n 0, 1) := by decide +kernel
theorem dX8_fetch_57 : decode cX8_fetch 57 = .ok (.invokevirtual 84, 3) := by decide +kernel
theorem dX8_fetch_60 : decode cX8_fetch 60 = .ok (.iload_n 2, 1) := by decide +kernel
theorem dX8_fetch_61 : decode cX8_fetch 61 = .ok (.istore 4, 2) := by decide +kernel
theorem dX8_fetch_63 : decode cX8_fetch 63 = .ok (.iconst 0, 1) := by decide +kernel
theorem dX8_fetch_64 : decode cX8_fetch 64 = .ok (.istore 5, 2) := by decide +kernel
theorem dX8_fetch_66 : decode cX8_fetch 66 = .ok (.iload 5, 2) := by decide +kernel
theorem dX8_fetch_68 : decode cX8_fetch 68 = .ok (.bipush 10, 2) := by decide +kernel
theorem dX8_fetch_70 : decode cX8_fetch 70 = .ok (.if_icmp .ge 17, 3) := by decide +kernel
theorem dX8_fetch_73 : decode cX8_fetch 73 = .ok (.aload_n 0, 1) := by decide +kernel
theorem dX8_fetch_74 : decode cX8_fetch 74 = .ok (.iload 4, 2) := by decide +kernel
theorem dX8_fetch_76 : decode cX8_fetch 76 = .ok (.invokevirtual 136, 3) := by decide +kernel
theorem dX8_fetch_79 : decode cX8_fetch 79 = .ok (.istore 4, 2) := by decide +kernel
theorem dX8_fetch_81 : decode cX8_fetch 81 = .ok (.iinc 5 1, 3) := by decide +kernel
theorem dX8_fetch_84 : decode cX8_fetch 84 = .ok (.goto (-18), 3) := by decide +kernel
theorem dX8_fetch_87 : decode cX8_fetch 87 = .ok (.aload_n 0, 1) := by decide +kernel
theorem dX8_fetch_88 : decode cX8_fetch 88 = .ok (.getfield 9, 3) := by decide +kernel
theorem dX8_fetch_91 : decode cX8_fetch 91 = .ok (.sipush 501, 3) := by decide +kernel
theorem dX8_fetch_94 : decode cX8_fetch 94 = .ok (.iload_n 1, 1) := by decide +kernel
theorem dX8_fetch_95 : decode cX8_fetch 95 = .ok (.iadd, 1) := by decide +kernel
theorem dX8_fetch_96 : decode cX8_fetch 96 = .ok (.iaload, 1) := by decide +kernel
theorem dX8_fetch_97 : decode cX8_fetch 97 = .ok (.bipush (-9), 2) := by decide +kernel
theorem dX8_fetch_99 : decode cX8_fetch 99 = .ok (.if_icmp .ne 7, 3) := by decide +kernel
theorem dX8_fetch_102 : decode cX8_fetch 102 = .ok (.iconst 0, 1) := by decide +kernel
theorem dX8_fetch_103 : decode cX8_fetch 103 = .ok (.goto 27, 3) := by decide +kernel
theorem dX8_fetch_106 : decode cX8_fetch 106 = .ok (.aload_n 0, 1) := by decide +kernel
theorem dX8_fetch_107 : decode cX8_fetch 107 = .ok (.aload_n 0, 1) := by decide +kernel
theorem dX8_fetch_108 : decode cX8_fetch 108 = .ok (.getfield 9, 3) := by decide +kernel
theorem dX8_fetch_111 : decode cX8_fetch 111 = .ok (.sipush 501, 3) := by decide +kernel
theorem dX8_fetch_114 : decode cX8_fetch 114 = .ok (.iload_n 1, 1) := by decide +kernel
theorem dX8_fetch_115 : decode cX8_fetch 115 = .ok (.iadd, 1) := by decide +kernel
theorem dX8_fetch_116 : decode cX8_fetch 116 = .ok (.iaload, 1) := by decide +kernel
theorem dX8_fetch_117 : decode cX8_fetch 117 = .ok (.invokevirtual 139, 3) := by decide +kernel
theorem dX8_fetch_120 : decode cX8_fetch 120 = .ok (.aload_n 0, 1) := by decide +kernel
theorem dX8_fetch_121 : decode cX8_fetch 121 = .ok (.invokevirtual 142, 3) := by decide +kernel
theorem dX8_fetch_124 : decode cX8_fetch 124 = .ok (.iand, 1) := by decide +kernel
theorem dX8_fetch_125 : decode cX8_fetch 125 = .ok (.iload 4, 2) := by decide +kernel
theorem dX8_fetch_127 : decode cX8_fetch 127 = .ok (.iconst (-1), 1) := by decide +kernel
theorem dX8_fetch_128 : decode cX8_fetch 128 = .ok (.ixor, 1) := by decide +kernel
theorem dX8_fetch_129 : decode cX8_fetch 129 = .ok (.iand, 1) := by decide +kernel
theorem dX8_fetch_130 : decode cX8_fetch 130 = .ok (.istore 5, 2) := by decide +kernel
theorem dX8_fetch_132 : decode cX8_fetch 132 = .ok (.iload 5, 2) := by decide +kernel
theorem dX8_fetch_134 : decode cX8_fetch 134 = .ok (.iload 4, 2) := by decide +kernel
theorem dX8_fetch_136 : decode cX8_fetch 136 = .ok (.aload_n 0, 1) := by decide +kernel
theorem dX8_fetch_137 : decode cX8_fetch 137 = .ok (.invokevirtual 142, 3) := by decide +kernel
theorem dX8_fetch_140 : decode cX8_fetch 140 = .ok (.iand, 1) := by decide +kernel
theorem dX8_fetch_141 : decode cX8_fetch 141 = .ok (.ior, 1) := by decide +kernel
theorem dX8_fetch_142 : decode cX8_fetch 142 = .ok (.istore 6, 2) := by decide +kernel
theorem dX8_fetch_144 : decode cX8_fetch 144 = .ok (.iconst 0, 1) := by decide +kernel
theorem dX8_fetch_145 : decode cX8_fetch 145 = .ok (.istore 7, 2) := by decide +kernel
theorem dX8_fetch_147 : decode cX8_fetch 147 = .ok (.iconst 0, 1) := by decide +kernel
theorem dX8_fetch_148 : decode cX8_fetch 148 = .ok (.istore 8, 2) := by decide +kernel
theorem dX8_fetch_150 : decode cX8_fetch 150 = .ok (.iconst 0, 1) := by decide +kernel
theorem dX8_fetch_151 : decode cX8_fetch 151 = .ok (.istore 9, 2) := by decide +kernel
theorem dX8_fetch_153 : decode cX8_fetch 153 = .ok (.iload 9, 2) := by decide +kernel
theorem dX8_fetch_155 : decode cX8_fetch 155 = .ok (.bipush 10, 2) := by decide +kernel
theorem dX8_fetch_157 : decode cX8_fetch 157 = .ok (.if_icmp .ge 104, 3) := by decide +kernel
theorem dX8_fetch_160 : decode cX8_fetch 160 = .ok (.iload 5, 2) := by decide +kernel
theorem dX8_fetch_162 : decode cX8_fetch 162 = .ok (.iload 9, 2) := by decide +kernel
theorem dX8_fetch_164 : decode cX8_fetch 164 = .ok (.ishr, 1) := by decide +kernel
theorem dX8_fetch_165 : decode cX8_fetch 165 = .ok (.iconst 1, 1) := by decide +kernel
theorem dX8_fetch_166 : decode cX8_fetch 166 = .ok (.iand, 1) := by decide +kernel
theorem dX8_fetch_167 : decode cX8_fetch 167 = .ok (.ifCond .ne 6, 3) := by decide +kernel
theorem dX8_fetch_170 : decode cX8_fetch 170 = .ok (.goto 85, 3) := by decide +kernel
theorem dX8_fetch_173 : decode cX8_fetch 173 = .ok (.aload_n 0, 1) := by decide +kernel
theorem dX8_fetch_174 : decode cX8_fetch 174 = .ok (.getfield 9, 3) := by decide +kernel
theorem dX8_fetch_177 : decode cX8_fetch 177 = .ok (.bipush 50, 2) := by decide +kernel
theorem dX8_fetch_179 : decode cX8_fetch 179 = .ok (.iload 9, 2) := by decide +kernel
theorem dX8_fetch_181 : decode cX8_fetch 181 = .ok (.imul, 1) := by decide +kernel
theorem dX8_fetch_182 : decode cX8_fetch 182 = .ok (.iconst 4, 1) := by decide +kernel
theorem dX8_fetch_183 : decode cX8_fetch 183 = .ok (.iadd, 1) := by decide +kernel
theorem dX8_fetch_184 : decode cX8_fetch 184 = .ok (.iaload, 1) := by decide +kernel
theorem dX8_fetch_185 : decode cX8_fetch 185 = .ok (.istore 10, 2) := by decide +kernel
theorem dX8_fetch_187 : decode cX8_fetch 187 = .ok (.iload 10, 2) := by decide +kernel
theorem dX8_fetch_189 : decode cX8_fetch 189 = .ok (.bipush (-9), 2) := by decide +kernel
theorem dX8_fetch_191 : decode cX8_fetch 191 = .ok (.if_icmp .eq 14, 3) := by decide +kernel
theorem dX8_fetch_194 : decode cX8_fetch 194 = .ok (.iload 6, 2) := by decide +kernel
theorem dX8_fetch_196 : decode cX8_fetch 196 = .ok (.iload 10, 2) := by decide +kernel
theorem dX8_fetch_198 : decode cX8_fetch 198 = .ok (.ishr, 1) := by decide +kernel
theorem dX8_fetch_199 : decode cX8_fetch 199 = .ok (.iconst 1, 1) := by decide +kernel
theorem dX8_fetch_200 : decode cX8_fetch 200 = .ok (.iand, 1) := by decide +kernel
theorem dX8_fetch_201 : decode cX8_fetch 201 = .ok (.iconst 1, 1) := by decide +kernel
theorem dX8_fetch_202 : decode cX8_fetch 202 = .ok (.if_icmp .ne 7, 3) := by decide +kernel
theorem dX8_fetch_205 : decode cX8_fetch 205 = .ok (.iconst 1, 1) := by decide +kernel
theorem dX8_fetch_206 : decode cX8_fetch 206 = .ok (.goto 4, 3) := by decide +kernel
theorem dX8_fetch_209 : decode cX8_fetch 209 = .ok (.iconst 0, 1) := by decide +kernel
theorem dX8_fetch_210 : decode cX8_fetch 210 = .ok (.istore 11, 2) := by decide +kernel
theorem dX8_fetch_212 : decode cX8_fetch 212 = .ok (.iload 7, 2) := by decide +kernel
theorem dX8_fetch_214 : decode cX8_fetch 214 = .ok (.iload 11, 2) := by decide +kernel
theorem dX8_fetch_216 : decode cX8_fetch 216 = .ok (.ifCond .eq 12, 3) := by decide +kernel
theorem dX8_fetch_219 : decode cX8_fetch 219 = .ok (.aload_n 0, 1) := by decide +kernel
theorem dX8_fetch_220 : decode cX8_fetch 220 = .ok (.iload 9, 2) := by decide +kernel
theorem dX8_fetch_222 : decode cX8_fetch 222 = .ok (.invokevirtual 86, 3) := by decide +kernel
theorem dX8_fetch_225 : decode cX8_fetch 225 = .ok (.goto 12, 3) := by decide +kernel
theorem dX8_fetch_228 : decode cX8_fetch 228 = .ok (.iconst 1, 1) := by decide +kernel
theorem dX8_fetch_229 : decode cX8_fetch 229 = .ok (.aload_n 0, 1) := by decide +kernel
theorem dX8_fetch_230 : decode cX8_fetch 230 = .ok (.getfield 34, 3) := by decide +kernel
theorem dX8_fetch_233 : decode cX8_fetch 233 = .ok (.iload 9, 2) := by decide +kernel
theorem dX8_fetch_235 : decode cX8_fetch 235 = .ok (.iaload, 1) := by decide +kernel
theorem dX8_fetch_236 : decode cX8_fetch 236 = .ok (.iadd, 1) := by decide +kernel
theorem dX8_fetch_237 : decode cX8_fetch 237 = .ok (.iadd, 1) := by decide +kernel
theorem dX8_fetch_238 : decode cX8_fetch 238 = .ok (.istore 7, 2) := by decide +kernel
theorem dX8_fetch_240 : decode cX8_fetch 240 = .ok (.iload 8, 2) := by decide +kernel
theorem dX8_fetch_242 : decode cX8_fetch 242 = .ok (.iload 11, 2) := by decide +kernel
theorem dX8_fetch_244 : decode cX8_fetch 244 = .ok (.ifCond .eq 7, 3) := by decide +kernel
theorem dX8_fetch_247 : decode cX8_fetch 247 = .ok (.iconst 0, 1) := by decide +kernel
theorem dX8_fetch_248 : decode cX8_fetch 248 = .ok (.goto 4, 3) := by decide +kernel
theorem dX8_fetch_251 : decode cX8_fetch 251 = .ok (.iconst 1, 1) := by decide +kernel
theorem dX8_fetch_252 : decode cX8_fetch 252 = .ok (.iadd, 1) := by decide +kernel
theorem dX8_fetch_253 : decode cX8_fetch 253 = .ok (.istore 8, 2) := by decide +kernel
theorem dX8_fetch_255 : decode cX8_fetch 255 = .ok (.iinc 9 1, 3) := by decide +kernel
theorem dX8_fetch_258 : decode cX8_fetch 258 = .ok (.goto (-105), 3) := by decide +kernel
theorem dX8_fetch_261 : decode cX8_fetch 261 = .ok (.iload_n 3, 1) := by decide +kernel
theorem dX8_fetch_262 : decode cX8_fetch 262 = .ok (.ifCond .ne 8, 3) := by decide +kernel
theorem dX8_fetch_265 : decode cX8_fetch 265 = .ok (.iload 5, 2) := by decide +kernel
theorem dX8_fetch_267 : decode cX8_fetch 267 = .ok (.goto 15, 3) := by decide +kernel
theorem dX8_fetch_270 : decode cX8_fetch 270 = .ok (.iload_n 3, 1) := by decide +kernel
theorem dX8_fetch_271 : decode cX8_fetch 271 = .ok (.iconst 1, 1) := by decide +kernel
theorem dX8_fetch_272 : decode cX8_fetch 272 = .ok (.if_icmp .ne 8, 3) := by decide +kernel
theorem dX8_fetch_275 : decode cX8_fetch 275 = .ok (.iload 7, 2) := by decide +kernel
theorem dX8_fetch_277 : decode cX8_fetch 277 = .ok (.goto 5, 3) := by decide +kernel
theorem dX8_fetch_280 : decode cX8_fetch 280 = .ok (.iload 8, 2) := by decide +kernel
theorem dX8_fetch_282 : decode cX8_fetch 282 = .ok (.ireturn, 1) := by decide +kernel
theorem dX8_wrong_0 : decode cX8_wrong 0 = .ok (.aload_n 0, 1) := by decide +kernel
theorem dX8_wrong_1 : decode cX8_wrong 1 = .ok (.invokevirtual 84, 3) := by decide +kernel
theorem dX8_wrong_4 : decode cX8_wrong 4 = .ok (.iconst 0, 1) := by decide +kernel
theorem dX8_wrong_5 : decode cX8_wrong 5 = .ok (.istore_n 1, 1) := by decide +kernel
theorem dX8_wrong_6 : decode cX8_wrong 6 = .ok (.iconst 0, 1) := by decide +kernel
theorem dX8_wrong_7 : decode cX8_wrong 7 = .ok (.istore_n 2, 1) := by decide +kernel
theorem dX8_wrong_8 : decode cX8_wrong 8 = .ok (.iload_n 2, 1) := by decide +kernel
theorem dX8_wrong_9 : decode cX8_wrong 9 = .ok (.bipush 10, 2) := by decide +kernel
theorem dX8_wrong_11 : decode cX8_wrong 11 = .ok (.if_icmp .ge 35, 3) := by decide +kernel
theorem dX8_wrong_14 : decode cX8_wrong 14 = .ok (.iload_n 1, 1) := by decide +kernel
theorem dX8_wrong_15 : decode cX8_wrong 15 = .ok (.aload_n 0, 1) := by decide +kernel
theorem dX8_wrong_16 : decode cX8_wrong 16 = .ok (.iload_n 2, 1) := by decide +kernel
theorem dX8_wrong_17 : decode cX8_wrong 17 = .ok (.invokevirtual 59, 3) := by decide +kernel
theorem dX8_wrong_20 : decode cX8_wrong 20 = .ok (.ifCond .eq 17, 3) := by decide +kernel
theorem dX8_wrong_23 : decode cX8_wrong 23 = .ok (.aload_n 0, 1) := by decide +kernel
theorem dX8_wrong_24 : decode cX8_wrong 24 = .ok (.iload_n 2, 1) := by decide +kernel
theorem dX8_wrong_25 : decode cX8_wrong 25 = .ok (.invokevirtual 179, 3) := by decide +kernel
theorem dX8_wrong_28 : decode cX8_wrong 28 = .ok (.ifCond .ne 9, 3) := by decide +kernel
theorem dX8_wrong_31 : decode cX8_wrong 31 = .ok (.iconst 1, 1) := by decide +kernel
theorem dX8_wrong_32 : decode cX8_wrong 32 = .ok (.iload_n 2, 1) := by decide +kernel
theorem dX8_wrong_33 : decode cX8_wrong 33 = .ok (.ishl, 1) := by decide +kernel
theorem dX8_wrong_34 : decode cX8_wrong 34 = .ok (.goto 4, 3) := by decide +kernel
theorem dX8_wrong_37 : decode cX8_wrong 37 = .ok (.iconst 0, 1) := by decide +kernel
theorem dX8_wrong_38 : decode cX8_wrong 38 = .ok (.ior, 1) := by decide +kernel
theorem dX8_wrong_39 : decode cX8_wrong 39 = .ok (.istore_n 1, 1) := by decide +kernel
theorem dX8_wrong_40 : decode cX8_wrong 40 = .ok (.iinc 2 1, 3) := by decide +kernel
theorem dX8_wrong_43 : decode cX8_wrong 43 = .ok (.goto (-35), 3) := by decide +kernel
theorem dX8_wrong_46 : decode cX8_wrong 46 = .ok (.iload_n 1, 1) := by decide +kernel
theorem dX8_wrong_47 : decode cX8_wrong 47 = .ok (.ireturn, 1) := by decide +kernel
theorem dX8_needs_0 : decode cX8_needs 0 = .ok (.iload_n 1, 1) := by decide +kernel
theorem dX8_needs_1 : decode cX8_needs 1 = .ok (.iload_n 2, 1) := by decide +kernel
theorem dX8_needs_2 : decode cX8_needs 2 = .ok (.if_icmp .eq 38, 3) := by decide +kernel
theorem dX8_needs_5 : decode cX8_needs 5 = .ok (.aload_n 0, 1) := by decide +kernel
theorem dX8_needs_6 : decode cX8_needs 6 = .ok (.getfield 9, 3) := by decide +kernel
theorem dX8_needs_9 : decode cX8_needs 9 = .ok (.bipush 50, 2) := by decide +kernel
theorem dX8_needs_11 : decode cX8_needs 11 = .ok (.iload_n 1, 1) := by decide +kernel
theorem dX8_needs_12 : decode cX8_needs 12 = .ok (.imul, 1) := by decide +kernel
theorem dX8_needs_13 : decode cX8_needs 13 = .ok (.iconst 4, 1) := by decide +kernel
theorem dX8_needs_14 : decode cX8_needs 14 = .ok (.iadd, 1) := by decide +kernel
theorem dX8_needs_15 : decode cX8_needs 15 = .ok (.iaload, 1) := by decide +kernel
theorem dX8_needs_16 : decode cX8_needs 16 = .ok (.bipush (-9), 2) := by decide +kernel
theorem dX8_needs_18 : decode cX8_needs 18 = .ok (.if_icmp .eq 26, 3) := by decide +kernel
theorem dX8_needs_21 : decode cX8_needs 21 = .ok (.aload_n 0, 1) := by decide +kernel
theorem dX8_needs_22 : decode cX8_needs 22 = .ok (.aload_n 0, 1) := by decide +kernel
theorem dX8_needs_23 : decode cX8_needs 23 = .ok (.getfield 9, 3) := by decide +kernel
theorem dX8_needs_26 : decode cX8_needs 26 = .ok (.bipush 50, 2) := by decide +kernel
theorem dX8_needs_28 : decode cX8_needs 28 = .ok (.iload_n 1, 1) := by decide +kernel
theorem dX8_needs_29 : decode cX8_needs 29 = .ok (.imul, 1) := by decide +kernel
theorem dX8_needs_30 : decode cX8_needs 30 = .ok (.iconst 4, 1) := by decide +kernel
theorem dX8_needs_31 : decode cX8_needs 31 = .ok (.iadd, 1) := by decide +kernel
theorem dX8_needs_32 : decode cX8_needs 32 = .ok (.iaload, 1) := by decide +kernel
theorem dX8_needs_33 : decode cX8_needs 33 = .ok (.iload_n 2, 1) := by decide +kernel
theorem dX8_needs_34 : decode cX8_needs 34 = .ok (.invokevirtual 197, 3) := by decide +kernel
theorem dX8_needs_37 : decode cX8_needs 37 = .ok (.ifCond .eq 7, 3) := by decide +kernel
theorem dX8_needs_40 : decode cX8_needs 40 = .ok (.iconst 1, 1) := by decide +kernel
theorem dX8_needs_41 : decode cX8_needs 41 = .ok (.goto 4, 3) := by decide +kernel
theorem dX8_needs_44 : decode cX8_needs 44 = .ok (.iconst 0, 1) := by decide +kernel
theorem dX8_needs_45 : decode cX8_needs 45 = .ok (.ireturn, 1) := by decide +kernel
theorem dX8_hurt_0 : decode cX8_hurt 0 = .ok (.aload_n 0, 1) := by decide +kernel
theorem dX8_hurt_1 : decode cX8_hurt 1 = .ok (.iload_n 1, 1) := by decide +kernel
theorem dX8_hurt_2 : decode cX8_hurt 2 = .ok (.invokevirtual 59, 3) := by decide +kernel
theorem dX8_hurt_5 : decode cX8_hurt 5 = .ok (.ifCond .ne 9, 3) := by decide +kernel
theorem dX8_hurt_8 : decode cX8_hurt 8 = .ok (.aload_n 0, 1) := by decide +kernel
theorem dX8_hurt_9 : decode cX8_hurt 9 = .ok (.iconst (-1), 1) := by decide +kernel
theorem dX8_hurt_10 : decode cX8_hurt 10 = .ok (.invokevirtual 51, 3) := by decide +kernel
theorem dX8_hurt_13 : decode cX8_hurt 13 = .ok (.ireturn, 1) := by decide +kernel
theorem dX8_hurt_14 : decode cX8_hurt 14 = .ok (.iconst 0, 1) := by decide +kernel
theorem dX8_hurt_15 : decode cX8_hurt 15 = .ok (.istore_n 2, 1) := by decide +kernel
theorem dX8_hurt_16 : decode cX8_hurt 16 = .ok (.iconst 0, 1) := by decide +kernel
theorem dX8_hurt_17 : decode cX8_hurt 17 = .ok (.istore_n 3, 1) := by decide +kernel
theorem dX8_hurt_18 : decode cX8_hurt 18 = .ok (.iload_n 3, 1) := by decide +kernel
theorem dX8_hurt_19 : decode cX8_hurt 19 = .ok (.bipush 10, 2) := by decide +kernel
theorem dX8_hurt_21 : decode cX8_hurt 21 = .ok (.if_icmp .ge 36, 3) := by decide +kernel
theorem dX8_hurt_24 : decode cX8_hurt 24 = .ok (.iload_n 2, 1) := by decide +kernel
theorem dX8_hurt_25 : decode cX8_hurt 25 = .ok (.aload_n 0, 1) := by decide +kernel
theorem dX8_hurt_26 : decode cX8_hurt 26 = .ok (.iload_n 3, 1) := by decide +kernel
theorem dX8_hurt_27 : decode cX8_hurt 27 = .ok (.invokevirtual 59, 3) := by decide +kernel
theorem dX8_hurt_30 : decode cX8_hurt 30 = .ok (.ifCond .eq 18, 3) := by decide +kernel
theorem dX8_hurt_33 : decode cX8_hurt 33 = .ok (.aload_n 0, 1) := by decide +kernel
theorem dX8_hurt_34 : decode cX8_hurt 34 = .ok (.iload_n 3, 1) := by decide +kernel
theorem dX8_hurt_35 : decode cX8_hurt 35 = .ok (.iload_n 1, 1) := by decide +kernel
theorem dX8_hurt_36 : decode cX8_hurt 36 = .ok (.invokevirtual 197, 3) := by decide +kernel
theorem dX8_hurt_39 : decode cX8_hurt 39 = .ok (.ifCond .eq 9, 3) := by decide +kernel
theorem dX8_hurt_42 : decode cX8_hurt 42 = .ok (.iconst 1, 1) := by decide +kernel
theorem dX8_hurt_43 : decode cX8_hurt 43 = .ok (.iload_n 3, 1) := by decide +kernel
theorem dX8_hurt_44 : decode cX8_hurt 44 = .ok (.ishl, 1) := by decide +kernel
theorem dX8_hurt_45 : decode cX8_hurt 45 = .ok (.goto 4, 3) := by decide +kernel
theorem dX8_hurt_48 : decode cX8_hurt 48 = .ok (.iconst 0, 1) := by decide +kernel
theorem dX8_hurt_49 : decode cX8_hurt 49 = .ok (.ior, 1) := by decide +kernel
theorem dX8_hurt_50 : decode cX8_hurt 50 = .ok (.istore_n 2, 1) := by decide +kernel
theorem dX8_hurt_51 : decode cX8_hurt 51 = .ok (.iinc 3 1, 3) := by decide +kernel
theorem dX8_hurt_54 : decode cX8_hurt 54 = .ok (.goto (-36), 3) := by decide +kernel
theorem dX8_hurt_57 : decode cX8_hurt 57 = .ok (.iload_n 2, 1) := by decide +kernel
theorem dX8_hurt_58 : decode cX8_hurt 58 = .ok (.ireturn, 1) := by decide +kernel
theorem dX8_common__0 : decode cX8_common_ 0 = .ok (.lload_n 2, 1) := by decide +kernel
theorem dX8_common__1 : decode cX8_common_ 1 = .ok (.lconst 0, 1) := by decide +kernel
theorem dX8_common__2 : decode cX8_common_ 2 = .ok (.lcmp, 1) := by decide +kernel
theorem dX8_common__3 : decode cX8_common_ 3 = .ok (.ifCond .ne 7, 3) := by decide +kernel
theorem dX8_common__6 : decode cX8_common_ 6 = .ok (.lload_n 0, 1) := by decide +kernel
theorem dX8_common__7 : decode cX8_common_ 7 = .ok (.goto 10, 3) := by decide +kernel
theorem dX8_common__10 : decode cX8_common_ 10 = .ok (.lload_n 2, 1) := by decide +kernel
theorem dX8_common__11 : decode cX8_common_ 11 = .ok (.lload_n 0, 1) := by decide +kernel
theorem dX8_common__12 : decode cX8_common_ 12 = .ok (.lload_n 2, 1) := by decide +kernel
theorem dX8_common__13 : decode cX8_common_ 13 = .ok (.lrem, 1) := by decide +kernel
theorem dX8_common__14 : decode cX8_common_ 14 = .ok (.invokestatic 200, 3) := by decide +kernel
theorem dX8_common__17 : decode cX8_common_ 17 = .ok (.lreturn, 1) := by decide +kernel
theorem dX8_part_0 : decode cX8_part 0 = .ok (.lload_n 0, 1) := by decide +kernel
theorem dX8_part_1 : decode cX8_part 1 = .ok (.lload_n 2, 1) := by decide +kernel
theorem dX8_part_2 : decode cX8_part 2 = .ok (.invokestatic 200, 3) := by decide +kernel
theorem dX8_part_5 : decode cX8_part 5 = .ok (.lstore 5, 2) := by decide +kernel
theorem dX8_part_7 : decode cX8_part 7 = .ok (.iload 4, 2) := by decide +kernel
theorem dX8_part_9 : decode cX8_part 9 = .ok (.ifCond .ne 7, 3) := by decide +kernel
theorem dX8_part_12 : decode cX8_part 12 = .ok (.lload_n 0, 1) := by decide +kernel
theorem dX8_part_13 : decode cX8_part 13 = .ok (.goto 4, 3) := by decide +kernel
theorem dX8_part_16 : decode cX8_part 16 = .ok (.lload_n 2, 1) := by decide +kernel
theorem dX8_part_17 : decode cX8_part 17 = .ok (.lload 5, 2) := by decide +kernel
theorem dX8_part_19 : decode cX8_part 19 = .ok (.ldiv, 1) := by decide +kernel
theorem dX8_part_20 : decode cX8_part 20 = .ok (.lreturn, 1) := by decide +kernel
theorem dX8_lost_0 : decode cX8_lost 0 = .ok (.iload_n 1, 1) := by decide +kernel
theorem dX8_lost_1 : decode cX8_lost 1 = .ok (.iconst 0, 1) := by decide +kernel
theorem dX8_lost_2 : decode cX8_lost 2 = .ok (.iconst 3, 1) := by decide +kernel
theorem dX8_lost_3 : decode cX8_lost 3 = .ok (.invokestatic 55, 3) := by decide +kernel
theorem dX8_lost_6 : decode cX8_lost 6 = .ok (.ifCond .ne 9, 3) := by decide +kernel
theorem dX8_lost_9 : decode cX8_lost 9 = .ok (.aload_n 0, 1) := by decide +kernel
theorem dX8_lost_10 : decode cX8_lost 10 = .ok (.iconst (-1), 1) := by decide +kernel
theorem dX8_lost_11 : decode cX8_lost 11 = .ok (.invokevirtual 204, 3) := by decide +kernel
theorem dX8_lost_14 : decode cX8_lost 14 = .ok (.lreturn, 1) := by decide +kernel
theorem dX8_lost_15 : decode cX8_lost 15 = .ok (.aload_n 0, 1) := by decide +kernel
theorem dX8_lost_16 : decode cX8_lost 16 = .ok (.getfield 9, 3) := by decide +kernel
theorem dX8_lost_19 : decode cX8_lost 19 = .ok (.sipush 501, 3) := by decide +kernel
theorem dX8_lost_22 : decode cX8_lost 22 = .ok (.iload_n 1, 1) := by decide +kernel
theorem dX8_lost_23 : decode cX8_lost 23 = .ok (.iadd, 1) := by decide +kernel
theorem dX8_lost_24 : decode cX8_lost 24 = .ok (.iaload, 1) := by decide +kernel
theorem dX8_lost_25 : decode cX8_lost 25 = .ok (.bipush (-9), 2) := by decide +kernel
theorem dX8_lost_27 : decode cX8_lost 27 = .ok (.if_icmp .ne 10, 3) := by decide +kernel
theorem dX8_lost_30 : decode cX8_lost 30 = .ok (.aload_n 0, 1) := by decide +kernel
theorem dX8_lost_31 : decode cX8_lost 31 = .ok (.bipush (-3), 2) := by decide +kernel
theorem dX8_lost_33 : decode cX8_lost 33 = .ok (.invokevirtual 204, 3) := by decide +kernel
theorem dX8_lost_36 : decode cX8_lost 36 = .ok (.lreturn, 1) := by decide +kernel
theorem dX8_lost_37 : decode cX8_lost 37 = .ok (.iload_n 2, 1) := by decide +kernel
theorem dX8_lost_38 : decode cX8_lost 38 = .ok (.iconst 2, 1) := by decide +kernel
theorem dX8_lost_39 : decode cX8_lost 39 = .ok (.if_icmp .ge 10, 3) := by decide +kernel
theorem dX8_lost_42 : decode cX8_lost 42 = .ok (.aload_n 0, 1) := by decide +kernel
theorem dX8_lost_43 : decode cX8_lost 43 = .ok (.bipush (-4), 2) := by decide +kernel
theorem dX8_lost_45 : decode cX8_lost 45 = .ok (.invokevirtual 204, 3) := by decide +kernel
theorem dX8_lost_48 : decode cX8_lost 48 = .ok (.lreturn, 1) := by decide +kernel
theorem dX8_lost_49 : decode cX8_lost 49 = .ok (.iload_n 2, 1) := by decide +kernel
theorem dX8_lost_50 : decode cX8_lost 50 = .ok (.bipush 20, 2) := by decide +kernel
theorem dX8_lost_52 : decode cX8_lost 52 = .ok (.if_icmp .le 10, 3) := by decide +kernel
theorem dX8_lost_55 : decode cX8_lost 55 = .ok (.aload_n 0, 1) := by decide +kernel
theorem dX8_lost_56 : decode cX8_lost 56 = .ok (.bipush (-6), 2) := by decide +kernel
theorem dX8_lost_58 : decode cX8_lost 58 = .ok (.invokevirtual 204, 3) := by decide +kernel
theorem dX8_lost_61 : decode cX8_lost 61 = .ok (.lreturn, 1) := by decide +kernel
theorem dX8_lost_62 : decode cX8_lost 62 = .ok (.iload_n 3, 1) := by decide +kernel
theorem dX8_lost_63 : decode cX8_lost 63 = .ok (.iconst 0, 1) := by decide +kernel
theorem dX8_lost_64 : decode cX8_lost 64 = .ok (.iconst 1, 1) := by decide +kernel
theorem dX8_lost_65 : decode cX8_lost 65 = .ok (.invokestatic 55, 3) := by decide +kernel
theorem dX8_lost_68 : decode cX8_lost 68 = .ok (.ifCond .ne 10, 3) := by decide +kernel
theorem dX8_lost_71 : decode cX8_lost 71 = .ok (.aload_n 0, 1) := by decide +kernel
theorem dX8_lost_72 : decode cX8_lost 72 = .ok (.bipush (-2), 2) := by decide +kernel
theorem dX8_lost_74 : decode cX8_lost 74 = .ok (.invokevirtual 204, 3) := by decide +kernel
theorem dX8_lost_77 : decode cX8_lost 77 = .ok (.lreturn, 1) := by decide +kernel
theorem dX8_lost_78 : decode cX8_lost 78 = .ok (.lconst 1, 1) := by decide +kernel
theorem dX8_lost_79 : decode cX8_lost 79 = .ok (.lstore 4, 2) := by decide +kernel
theorem dX8_lost_81 : decode cX8_lost 81 = .ok (.lconst 1, 1) := by decide +kernel
theorem dX8_lost_82 : decode cX8_lost 82 = .ok (.lstore 6, 2) := by decide +kernel
theorem dX8_lost_84 : decode cX8_lost 84 = .ok (.iconst 0, 1) := by decide +kernel
theorem dX8_lost_85 : decode cX8_lost 85 = .ok (.istore 8, 2) := by decide +kernel
theorem dX8_lost_87 : decode cX8_lost 87 = .ok (.iload 8, 2) := by decide +kernel
theorem dX8_lost_89 : decode cX8_lost 89 = .ok (.bipush 6, 2) := by decide +kernel
theorem dX8_lost_91 : decode cX8_lost 91 = .ok (.if_icmp .ge 56, 3) := by decide +kernel
theorem dX8_lost_94 : decode cX8_lost 94 = .ok (.aload_n 0, 1) := by decide +kernel
theorem dX8_lost_95 : decode cX8_lost 95 = .ok (.iload 8, 2) := by decide +kernel
theorem dX8_lost_97 : decode cX8_lost 97 = .ok (.invokevirtual 59, 3) := by decide +kernel
theorem dX8_lost_100 : decode cX8_lost 100 = .ok (.ifCond .eq 41, 3) := by decide +kernel
theorem dX8_lost_103 : decode cX8_lost 103 = .ok (.aload_n 0, 1) := by decide +kernel
theorem dX8_lost_104 : decode cX8_lost 104 = .ok (.aload_n 0, 1) := by decide +kernel
theorem dX8_lost_105 : decode cX8_lost 105 = .ok (.getfield 9, 3) := by decide +kernel
theorem dX8_lost_108 : decode cX8_lost 108 = .ok (.sipush 501, 3) := by decide +kernel
theorem dX8_lost_111 : decode cX8_lost 111 = .ok (.iload_n 1, 1) := by decide +kernel
theorem dX8_lost_112 : decode cX8_lost 112 = .ok (.iadd, 1) := by decide +kernel
theorem dX8_lost_113 : decode cX8_lost 113 = .ok (.iaload, 1) := by decide +kernel
theorem dX8_lost_114 : decode cX8_lost 114 = .ok (.iload 8, 2) := by decide +kernel
theorem dX8_lost_116 : decode cX8_lost 116 = .ok (.invokevirtual 197, 3) := by decide +kernel
theorem dX8_lost_119 : decode cX8_lost 119 = .ok (.ifCond .ne 6, 3) := by decide +kernel
theorem dX8_lost_122 : decode cX8_lost 122 = .ok (.goto 19, 3) := by decide +kernel
theorem dX8_lost_125 : decode cX8_lost 125 = .ok (.lload 4, 2) := by decide +kernel
theorem dX8_lost_127 : decode cX8_lost 127 = .ok (.iload_n 2, 1) := by decide +kernel
theorem dX8_lost_128 : decode cX8_lost 128 = .ok (.iconst 1, 1) := by decide +kernel
theorem dX8_lost_129 : decode cX8_lost 129 = .ok (.isub, 1) := by decide +kernel
theorem dX8_lost_130 : decode cX8_lost 130 = .ok (.i2l, 1) := by decide +kernel
theorem dX8_lost_131 : decode cX8_lost 131 = .ok (.lmul, 1) := by decide +kernel
theorem dX8_lost_132 : decode cX8_lost 132 = .ok (.lstore 4, 2) := by decide +kernel
theorem dX8_lost_134 : decode cX8_lost 134 = .ok (.lload 6, 2) := by decide +kernel
theorem dX8_lost_136 : decode cX8_lost 136 = .ok (.iload_n 2, 1) := by decide +kernel
theorem dX8_lost_137 : decode cX8_lost 137 = .ok (.i2l, 1) := by decide +kernel
theorem dX8_lost_138 : decode cX8_lost 138 = .ok (.lmul, 1) := by decide +kernel
theorem dX8_lost_139 : decode cX8_lost 139 = .ok (.lstore 6, 2) := by decide +kernel
theorem dX8_lost_141 : decode cX8_lost 141 = .ok (.iinc 8 1, 3) := by decide +kernel
theorem dX8_lost_144 : decode cX8_lost 144 = .ok (.goto (-57), 3) := by decide +kernel
theorem dX8_lost_147 : decode cX8_lost 147 = .ok (.lload 4, 2) := by decide +kernel
theorem dX8_lost_149 : decode cX8_lost 149 = .ok (.lload 6, 2) := by decide +kernel
theorem dX8_lost_151 : decode cX8_lost 151 = .ok (.iload_n 3, 1) := by decide +kernel
theorem dX8_lost_152 : decode cX8_lost 152 = .ok (.invokestatic 208, 3) := by decide +kernel
theorem dX8_lost_155 : decode cX8_lost 155 = .ok (.lreturn, 1) := by decide +kernel
theorem dX8_mean_0 : decode cX8_mean 0 = .ok (.iload_n 1, 1) := by decide +kernel
theorem dX8_mean_1 : decode cX8_mean 1 = .ok (.iconst 0, 1) := by decide +kernel
theorem dX8_mean_2 : decode cX8_mean 2 = .ok (.iconst 1, 1) := by decide +kernel
theorem dX8_mean_3 : decode cX8_mean 3 = .ok (.invokestatic 55, 3) := by decide +kernel
theorem dX8_mean_6 : decode cX8_mean 6 = .ok (.ifCond .ne 10, 3) := by decide +kernel
theorem dX8_mean_9 : decode cX8_mean 9 = .ok (.aload_n 0, 1) := by decide +kernel
theorem dX8_mean_10 : decode cX8_mean 10 = .ok (.bipush (-2), 2) := by decide +kernel
theorem dX8_mean_12 : decode cX8_mean 12 = .ok (.invokevirtual 204, 3) := by decide +kernel
theorem dX8_mean_15 : decode cX8_mean 15 = .ok (.lreturn, 1) := by decide +kernel
theorem dX8_mean_16 : decode cX8_mean 16 = .ok (.aload_n 0, 1) := by decide +kernel
theorem dX8_mean_17 : decode cX8_mean 17 = .ok (.invokevirtual 142, 3) := by decide +kernel
theorem dX8_mean_20 : decode cX8_mean 20 = .ok (.invokestatic 148, 3) := by decide +kernel
theorem dX8_mean_23 : decode cX8_mean 23 = .ok (.istore_n 2, 1) := by decide +kernel
theorem dX8_mean_24 : decode cX8_mean 24 = .ok (.iload_n 2, 1) := by decide +kernel
theorem dX8_mean_25 : decode cX8_mean 25 = .ok (.ifCond .ne 8, 3) := by decide +kernel
theorem dX8_mean_28 : decode cX8_mean 28 = .ok (.iload_n 1, 1) := by decide +kernel
theorem dX8_mean_29 : decode cX8_mean 29 = .ok (.i2l, 1) := by decide +kernel
theorem dX8_mean_30 : decode cX8_mean 30 = .ok (.goto 14, 3) := by decide +kernel
theorem dX8_mean_33 : decode cX8_mean 33 = .ok (.aload_n 0, 1) := by decide +kernel
theorem dX8_mean_34 : decode cX8_mean 34 = .ok (.invokevirtual 112, 3) := by decide +kernel
theorem dX8_mean_37 : decode cX8_mean 37 = .ok (.i2l, 1) := by decide +kernel
theorem dX8_mean_38 : decode cX8_mean 38 = .ok (.iload_n 2, 1) := by decide +kernel
theorem dX8_mean_39 : decode cX8_mean 39 = .ok (.i2l, 1) := by decide +kernel
theorem dX8_mean_40 : decode cX8_mean 40 = .ok (.iload_n 1, 1) := by decide +kernel
theorem dX8_mean_41 : decode cX8_mean 41 = .ok (.invokestatic 208, 3) := by decide +kernel
theorem dX8_mean_44 : decode cX8_mean 44 = .ok (.lreturn, 1) := by decide +kernel
theorem dX8_fitsRow_0 : decode cX8_fitsRow 0 = .ok (.iconst 0, 1) := by decide +kernel
theorem dX8_fitsRow_1 : decode cX8_fitsRow 1 = .ok (.istore_n 1, 1) := by decide +kernel
theorem dX8_fitsRow_2 : decode cX8_fitsRow 2 = .ok (.iload_n 1, 1) := by decide +kernel
theorem dX8_fitsRow_3 : decode cX8_fitsRow 3 = .ok (.aload_n 0, 1) := by decide +kernel
theorem dX8_fitsRow_4 : decode cX8_fitsRow 4 = .ok (.getfield 212, 3) := by decide +kernel
theorem dX8_fitsRow_7 : decode cX8_fitsRow 7 = .ok (.if_icmp .ge 67, 3) := by decide +kernel
theorem dX8_fitsRow_10 : decode cX8_fitsRow 10 = .ok (.aload_n 0, 1) := by decide +kernel
theorem dX8_fitsRow_11 : decode cX8_fitsRow 11 = .ok (.iload_n 1, 1) := by decide +kernel
theorem dX8_fitsRow_12 : decode cX8_fitsRow 12 = .ok (.invokevirtual 59, 3) := by decide +kernel
theorem dX8_fitsRow_15 : decode cX8_fitsRow 15 = .ok (.ifCond .ne 8, 3) := by decide +kernel
theorem dX8_fitsRow_18 : decode cX8_fitsRow 18 = .ok (.bipush 11, 2) := by decide +kernel
theorem dX8_fitsRow_20 : decode cX8_fitsRow 20 = .ok (.goto 35, 3) := by decide +kernel
theorem dX8_fitsRow_23 : decode cX8_fitsRow 23 = .ok (.aload_n 0, 1) := by decide +kernel
theorem dX8_fitsRow_24 : decode cX8_fitsRow 24 = .ok (.getfield 9, 3) := by decide +kernel
theorem dX8_fitsRow_27 : decode cX8_fitsRow 27 = .ok (.bipush 50, 2) := by decide +kernel
theorem dX8_fitsRow_29 : decode cX8_fitsRow 29 = .ok (.iload_n 1, 1) := by decide +kernel
theorem dX8_fitsRow_30 : decode cX8_fitsRow 30 = .ok (.imul, 1) := by decide +kernel
theorem dX8_fitsRow_31 : decode cX8_fitsRow 31 = .ok (.iconst 4, 1) := by decide +kernel
theorem dX8_fitsRow_32 : decode cX8_fitsRow 32 = .ok (.iadd, 1) := by decide +kernel
theorem dX8_fitsRow_33 : decode cX8_fitsRow 33 = .ok (.iaload, 1) := by decide +kernel
theorem dX8_fitsRow_34 : decode cX8_fitsRow 34 = .ok (.bipush (-9), 2) := by decide +kernel
theorem dX8_fitsRow_36 : decode cX8_fitsRow 36 = .ok (.if_icmp .ne 8, 3) := by decide +kernel
theorem dX8_fitsRow_39 : decode cX8_fitsRow 39 = .ok (.bipush 10, 2) := by decide +kernel
theorem dX8_fitsRow_41 : decode cX8_fitsRow 41 = .ok (.goto 14, 3) := by decide +kernel
theorem dX8_fitsRow_44 : decode cX8_fitsRow 44 = .ok (.aload_n 0, 1) := by decide +kernel
theorem dX8_fitsRow_45 : decode cX8_fitsRow 45 = .ok (.getfield 9, 3) := by decide +kernel
theorem dX8_fitsRow_48 : decode cX8_fitsRow 48 = .ok (.bipush 50, 2) := by decide +kernel
theorem dX8_fitsRow_50 : decode cX8_fitsRow 50 = .ok (.iload_n 1, 1) := by decide +kernel
theorem dX8_fitsRow_51 : decode cX8_fitsRow 51 = .ok (.imul, 1) := by decide +kernel
theorem dX8_fitsRow_52 : decode cX8_fitsRow 52 = .ok (.iconst 4, 1) := by decide +kernel
theorem dX8_fitsRow_53 : decode cX8_fitsRow 53 = .ok (.iadd, 1) := by decide +kernel
theorem dX8_fitsRow_54 : decode cX8_fitsRow 54 = .ok (.iaload, 1) := by decide +kernel
theorem dX8_fitsRow_55 : decode cX8_fitsRow 55 = .ok (.istore_n 2, 1) := by decide +kernel
theorem dX8_fitsRow_56 : decode cX8_fitsRow 56 = .ok (.aload_n 0, 1) := by decide +kernel
theorem dX8_fitsRow_57 : decode cX8_fitsRow 57 = .ok (.getfield 28, 3) := by decide +kernel
theorem dX8_fitsRow_60 : decode cX8_fitsRow 60 = .ok (.iload_n 1, 1) := by decide +kernel
theorem dX8_fitsRow_61 : decode cX8_fitsRow 61 = .ok (.iaload, 1) := by decide +kernel
theorem dX8_fitsRow_62 : decode cX8_fitsRow 62 = .ok (.iload_n 2, 1) := by decide +kernel
theorem dX8_fitsRow_63 : decode cX8_fitsRow 63 = .ok (.if_icmp .eq 5, 3) := by decide +kernel
theorem dX8_fitsRow_66 : decode cX8_fitsRow 66 = .ok (.iconst 0, 1) := by decide +kernel
theorem dX8_fitsRow_67 : decode cX8_fitsRow 67 = .ok (.ireturn, 1) := by decide +kernel
theorem dX8_fitsRow_68 : decode cX8_fitsRow 68 = .ok (.iinc 1 1, 3) := by decide +kernel
theorem dX8_fitsRow_71 : decode cX8_fitsRow 71 = .ok (.goto (-69), 3) := by decide +kernel
theorem dX8_fitsRow_74 : decode cX8_fitsRow 74 = .ok (.iconst 1, 1) := by decide +kernel
theorem dX8_fitsRow_75 : decode cX8_fitsRow 75 = .ok (.ireturn, 1) := by decide +kernel
theorem dX8_whatIs_0 : decode cX8_whatIs 0 = .ok (.iload_n 1, 1) := by decide +kernel
theorem dX8_whatIs_1 : decode cX8_whatIs 1 = .ok (.iconst 0, 1) := by decide +kernel
theorem dX8_whatIs_2 : decode cX8_whatIs 2 = .ok (.iconst 1, 1) := by decide +kernel
theorem dX8_whatIs_3 : decode cX8_whatIs 3 = .ok (.invokestatic 55, 3) := by decide +kernel
theorem dX8_whatIs_6 : decode cX8_whatIs 6 = .ok (.ifCond .ne 10, 3) := by decide +kernel
theorem dX8_whatIs_9 : decode cX8_whatIs 9 = .ok (.aload_n 0, 1) := by decide +kernel
theorem dX8_whatIs_10 : decode cX8_whatIs 10 = .ok (.bipush (-2), 2) := by decide +kernel
theorem dX8_whatIs_12 : decode cX8_whatIs 12 = .ok (.invokevirtual 51, 3) := by decide +kernel
theorem dX8_whatIs_15 : decode cX8_whatIs 15 = .ok (.ireturn, 1) := by decide +kernel
theorem dX8_whatIs_16 : decode cX8_whatIs 16 = .ok (.aload_n 0, 1) := by decide +kernel
theorem dX8_whatIs_17 : decode cX8_whatIs 17 = .ok (.getfield 9, 3) := by decide +kernel
theorem dX8_whatIs_20 : decode cX8_whatIs 20 = .ok (.aload_n 0, 1) := by decide +kernel
theorem dX8_whatIs_21 : decode cX8_whatIs 21 = .ok (.getfield 16, 3) := by decide +kernel
theorem dX8_whatIs_24 : decode cX8_whatIs 24 = .ok (.invokestatic 176, 3) := by decide +kernel
theorem dX8_whatIs_27 : decode cX8_whatIs 27 = .ok (.iconst 0, 1) := by decide +kernel
theorem dX8_whatIs_28 : decode cX8_whatIs 28 = .ok (.istore_n 2, 1) := by decide +kernel
theorem dX8_whatIs_29 : decode cX8_whatIs 29 = .ok (.iconst 0, 1) := by decide +kernel
theorem dX8_whatIs_30 : decode cX8_whatIs 30 = .ok (.istore_n 3, 1) := by decide +kernel
theorem dX8_whatIs_31 : decode cX8_whatIs 31 = .ok (.iload_n 3, 1) := by decide +kernel
theorem dX8_whatIs_32 : decode cX8_whatIs 32 = .ok (.iload_n 1, 1) := by decide +kernel
theorem dX8_whatIs_33 : decode cX8_whatIs 33 = .ok (.ifCond .ne 7, 3) := by decide +kernel
theorem dX8_whatIs_36 : decode cX8_whatIs 36 = .ok (.iconst 5, 1) := by decide +kernel
theorem dX8_whatIs_37 : decode cX8_whatIs 37 = .ok (.goto 5, 3) := by decide +kernel
theorem dX8_whatIs_40 : decode cX8_whatIs 40 = .ok (.bipush 9, 2) := by decide +kernel
theorem dX8_whatIs_42 : decode cX8_whatIs 42 = .ok (.if_icmp .gt 61, 3) := by decide +kernel
theorem dX8_whatIs_45 : decode cX8_whatIs 45 = .ok (.aload_n 0, 1) := by decide +kernel
theorem dX8_whatIs_46 : decode cX8_whatIs 46 = .ok (.getfield 9, 3) := by decide +kernel
theorem dX8_whatIs_49 : decode cX8_whatIs 49 = .ok (.iload_n 1, 1) := by decide +kernel
theorem dX8_whatIs_50 : decode cX8_whatIs 50 = .ok (.ifCond .ne 9, 3) := by decide +kernel
theorem dX8_whatIs_53 : decode cX8_whatIs 53 = .ok (.sipush 505, 3) := by decide +kernel
theorem dX8_whatIs_56 : decode cX8_whatIs 56 = .ok (.goto 6, 3) := by decide +kernel
theorem dX8_whatIs_59 : decode cX8_whatIs 59 = .ok (.sipush 506, 3) := by decide +kernel
theorem dX8_whatIs_62 : decode cX8_whatIs 62 = .ok (.iload_n 3, 1) := by decide +kernel
theorem dX8_whatIs_63 : decode cX8_whatIs 63 = .ok (.iastore, 1) := by decide +kernel
theorem dX8_whatIs_64 : decode cX8_whatIs 64 = .ok (.aload_n 0, 1) := by decide +kernel
theorem dX8_whatIs_65 : decode cX8_whatIs 65 = .ok (.invokevirtual 133, 3) := by decide +kernel
theorem dX8_whatIs_68 : decode cX8_whatIs 68 = .ok (.pop, 1) := by decide +kernel
theorem dX8_whatIs_69 : decode cX8_whatIs 69 = .ok (.iload_n 2, 1) := by decide +kernel
theorem dX8_whatIs_70 : decode cX8_whatIs 70 = .ok (.aload_n 0, 1) := by decide +kernel
theorem dX8_whatIs_71 : decode cX8_whatIs 71 = .ok (.invokevirtual 215, 3) := by decide +kernel
theorem dX8_whatIs_74 : decode cX8_whatIs 74 = .ok (.ifCond .eq 9, 3) := by decide +kernel
theorem dX8_whatIs_77 : decode cX8_whatIs 77 = .ok (.iconst 1, 1) := by decide +kernel
theorem dX8_whatIs_78 : decode cX8_whatIs 78 = .ok (.iload_n 3, 1) := by decide +kernel
theorem dX8_whatIs_79 : decode cX8_whatIs 79 = .ok (.ishl, 1) := by decide +kernel
theorem dX8_whatIs_80 : decode cX8_whatIs 80 = .ok (.goto 4, 3) := by decide +kernel
theorem dX8_whatIs_83 : decode cX8_whatIs 83 = .ok (.iconst 0, 1) := by decide +kernel
theorem dX8_whatIs_84 : decode cX8_whatIs 84 = .ok (.ior, 1) := by decide +kernel
theorem dX8_whatIs_85 : decode cX8_whatIs 85 = .ok (.istore_n 2, 1) := by decide +kernel
theorem dX8_whatIs_86 : decode cX8_whatIs 86 = .ok (.aload_n 0, 1) := by decide +kernel
theorem dX8_whatIs_87 : decode cX8_whatIs 87 = .ok (.getfield 16, 3) := by decide +kernel
theorem dX8_whatIs_90 : decode cX8_whatIs 90 = .ok (.aload_n 0, 1) := by decide +kernel
theorem dX8_whatIs_91 : decode cX8_whatIs 91 = .ok (.getfield 9, 3) := by decide +kernel
theorem dX8_whatIs_94 : decode cX8_whatIs 94 = .ok (.invokestatic 176, 3) := by decide +kernel
theorem dX8_whatIs_97 : decode cX8_whatIs 97 = .ok (.iinc 3 1, 3) := by decide +kernel
theorem dX8_whatIs_100 : decode cX8_whatIs 100 = .ok (.goto (-69), 3) := by decide +kernel
theorem dX8_whatIs_103 : decode cX8_whatIs 103 = .ok (.iload_n 2, 1) := by decide +kernel
theorem dX8_whatIs_104 : decode cX8_whatIs 104 = .ok (.ireturn, 1) := by decide +kernel
theorem dX8_row_0 : decode cX8_row 0 = .ok (.iload_n 1, 1) := by decide +kernel
theorem dX8_row_1 : decode cX8_row 1 = .ok (.ifCond .ge 10, 3) := by decide +kernel
theorem dX8_row_4 : decode cX8_row 4 = .ok (.aload_n 0, 1) := by decide +kernel
theorem dX8_row_5 : decode cX8_row 5 = .ok (.bipush (-4), 2) := by decide +kernel
theorem dX8_row_7 : decode cX8_row 7 = .ok (.invokevirtual 51, 3) := by decide +kernel
theorem dX8_row_10 : decode cX8_row 10 = .ok (.ireturn, 1) := by decide +kernel
theorem dX8_row_11 : decode cX8_row 11 = .ok (.iload_n 1, 1) := by decide +kernel
theorem dX8_row_12 : decode cX8_row 12 = .ok (.bipush 99, 2) := by decide +kernel
theorem dX8_row_14 : decode cX8_row 14 = .ok (.if_icmp .gt 12, 3) := by decide +kernel
theorem dX8_row_17 : decode cX8_row 17 = .ok (.aload_n 0, 1) := by decide +kernel
theorem dX8_row_18 : decode cX8_row 18 = .ok (.getfield 212, 3) := by decide +kernel
theorem dX8_row_21 : decode cX8_row 21 = .ok (.bipush 12, 2) := by decide +kernel
theorem dX8_row_23 : decode cX8_row 23 = .ok (.if_icmp .ne 10, 3) := by decide +kernel
theorem dX8_row_26 : decode cX8_row 26 = .ok (.aload_n 0, 1) := by decide +kernel
theorem dX8_row_27 : decode cX8_row 27 = .ok (.bipush (-6), 2) := by decide +kernel
theorem dX8_row_29 : decode cX8_row 29 = .ok (.invokevirtual 51, 3) := by decide +kernel
theorem dX8_row_32 : decode cX8_row 32 = .ok (.ireturn, 1) := by decide +kernel
theorem dX8_row_33 : decode cX8_row 33 = .ok (.aload_n 0, 1) := by decide +kernel
theorem dX8_row_34 : decode cX8_row 34 = .ok (.getfield 28, 3) := by decide +kernel
theorem dX8_row_37 : decode cX8_row 37 = .ok (.aload_n 0, 1) := by decide +kernel
theorem dX8_row_38 : decode cX8_row 38 = .ok (.getfield 212, 3) := by decide +kernel
theorem dX8_row_41 : decode cX8_row 41 = .ok (.iload_n 1, 1) := by decide +kernel
theorem dX8_row_42 : decode cX8_row 42 = .ok (.iastore, 1) := by decide +kernel
theorem dX8_row_43 : decode cX8_row 43 = .ok (.aload_n 0, 1) := by decide +kernel
theorem dX8_row_44 : decode cX8_row 44 = .ok (.dup, 1) := by decide +kernel
theorem dX8_row_45 : decode cX8_row 45 = .ok (.getfield 212, 3) := by decide +kernel
theorem dX8_row_48 : decode cX8_row 48 = .ok (.iconst 1, 1) := by decide +kernel
theorem dX8_row_49 : decode cX8_row 49 = .ok (.iadd, 1) := by decide +kernel
theorem dX8_row_50 : decode cX8_row 50 = .ok (.putfield 212, 3) := by decide +kernel
theorem dX8_row_53 : decode cX8_row 53 = .ok (.aload_n 0, 1) := by decide +kernel
theorem dX8_row_54 : decode cX8_row 54 = .ok (.getfield 212, 3) := by decide +kernel
theorem dX8_row_57 : decode cX8_row 57 = .ok (.ireturn, 1) := by decide +kernel
theorem dX8_judge_0 : decode cX8_judge 0 = .ok (.aload_n 0, 1) := by decide +kernel
theorem dX8_judge_1 : decode cX8_judge 1 = .ok (.iload_n 1, 1) := by decide +kernel
theorem dX8_judge_2 : decode cX8_judge 2 = .ok (.invokevirtual 59, 3) := by decide +kernel
theorem dX8_judge_5 : decode cX8_judge 5 = .ok (.ifCond .ne 9, 3) := by decide +kernel
theorem dX8_judge_8 : decode cX8_judge 8 = .ok (.aload_n 0, 1) := by decide +kernel
theorem dX8_judge_9 : decode cX8_judge 9 = .ok (.iconst (-1), 1) := by decide +kernel
theorem dX8_judge_10 : decode cX8_judge 10 = .ok (.invokevirtual 51, 3) := by decide +kernel
theorem dX8_judge_13 : decode cX8_judge 13 = .ok (.ireturn, 1) := by decide +kernel
theorem dX8_judge_14 : decode cX8_judge 14 = .ok (.aload_n 0, 1) := by decide +kernel
theorem dX8_judge_15 : decode cX8_judge 15 = .ok (.invokevirtual 84, 3) := by decide +kernel
theorem dX8_judge_18 : decode cX8_judge 18 = .ok (.aload_n 0, 1) := by decide +kernel
theorem dX8_judge_19 : decode cX8_judge 19 = .ok (.getfield 212, 3) := by decide +kernel
theorem dX8_judge_22 : decode cX8_judge 22 = .ok (.aload_n 0, 1) := by decide +kernel
theorem dX8_judge_23 : decode cX8_judge 23 = .ok (.getfield 34, 3) := by decide +kernel
theorem dX8_judge_26 : decode cX8_judge 26 = .ok (.iload_n 1, 1) := by decide +kernel
theorem dX8_judge_27 : decode cX8_judge 27 = .ok (.iaload, 1) := by decide +kernel
theorem dX8_judge_28 : decode cX8_judge 28 = .ok (.if_icmp .ge 10, 3) := by decide +kernel
theorem dX8_judge_31 : decode cX8_judge 31 = .ok (.aload_n 0, 1) := by decide +kernel
theorem dX8_judge_32 : decode cX8_judge 32 = .ok (.getfield 212, 3) := by decide +kernel
theorem dX8_judge_35 : decode cX8_judge 35 = .ok (.goto 5, 3) := by decide +kernel
theorem dX8_judge_38 : decode cX8_judge 38 = .ok (.bipush (-9), 2) := by decide +kernel
theorem dX8_judge_40 : decode cX8_judge 40 = .ok (.istore_n 2, 1) := by decide +kernel
theorem dX8_judge_41 : decode cX8_judge 41 = .ok (.aload_n 0, 1) := by decide +kernel
theorem dX8_judge_42 : decode cX8_judge 42 = .ok (.getfield 212, 3) := by decide +kernel
theorem dX8_judge_45 : decode cX8_judge 45 = .ok (.iconst 1, 1) := by decide +kernel
theorem dX8_judge_46 : decode cX8_judge 46 = .ok (.isub, 1) := by decide +kernel
theorem dX8_judge_47 : decode cX8_judge 47 = .ok (.istore_n 3, 1) := by decide +kernel
theorem dX8_judge_48 : decode cX8_judge 48 = .ok (.iload_n 3, 1) := by decide +kernel
theorem dX8_judge_49 : decode cX8_judge 49 = .ok (.ifCond .lt 45, 3) := by decide +kernel
theorem dX8_judge_52 : decode cX8_judge 52 = .ok (.iload_n 3, 1) := by decide +kernel
theorem dX8_judge_53 : decode cX8_judge 53 = .ok (.aload_n 0, 1) := by decide +kernel
theorem dX8_judge_54 : decode cX8_judge 54 = .ok (.getfield 34, 3) := by decide +kernel
theorem dX8_judge_57 : decode cX8_judge 57 = .ok (.iload_n 1, 1) := by decide +kernel
theorem dX8_judge_58 : decode cX8_judge 58 = .ok (.iaload, 1) := by decide +kernel
theorem dX8_judge_59 : decode cX8_judge 59 = .ok (.if_icmp .ge 23, 3) := by decide +kernel
theorem dX8_judge_62 : decode cX8_judge 62 = .ok (.aload_n 0, 1) := by decide +kernel
theorem dX8_judge_63 : decode cX8_judge 63 = .ok (.getfield 28, 3) := by decide +kernel
theorem dX8_judge_66 : decode cX8_judge 66 = .ok (.iload_n 3, 1) := by decide +kernel
theorem dX8_judge_67 : decode cX8_judge 67 = .ok (.iaload, 1) := by decide +kernel
theorem dX8_judge_68 : decode cX8_judge 68 = .ok (.aload_n 0, 1) := by decide +kernel
theorem dX8_judge_69 : decode cX8_judge 69 = .ok (.getfield 31, 3) := by decide +kernel
theorem dX8_judge_72 : decode cX8_judge 72 = .ok (.bipush 12, 2) := by decide +kernel
theorem dX8_judge_74 : decode cX8_judge 74 = .ok (.iload_n 1, 1) := by decide +kernel
theorem dX8_judge_75 : decode cX8_judge 75 = .ok (.imul, 1) := by decide +kernel
theorem dX8_judge_76 : decode cX8_judge 76 = .ok (.iload_n 3, 1) := by decide +kernel
theorem dX8_judge_77 : decode cX8_judge 77 = .ok (.iadd, 1) := by decide +kernel
theorem dX8_judge_78 : decode cX8_judge 78 = .ok (.iaload, 1) := by decide +kernel
theorem dX8_judge_79 : decode cX8_judge 79 = .ok (.if_icmp .eq 7, 3) := by decide +kernel
theorem dX8_judge_82 : decode cX8_judge 82 = .ok (.iload_n 3, 1) := by decide +kernel
theorem dX8_judge_83 : decode cX8_judge 83 = .ok (.goto 4, 3) := by decide +kernel
theorem dX8_judge_86 : decode cX8_judge 86 = .ok (.iload_n 2, 1) := by decide +kernel
theorem dX8_judge_87 : decode cX8_judge 87 = .ok (.istore_n 2, 1) := by decide +kernel
theorem dX8_judge_88 : decode cX8_judge 88 = .ok (.iinc 3 (-1), 3) := by decide +kernel
theorem dX8_judge_91 : decode cX8_judge 91 = .ok (.goto (-43), 3) := by decide +kernel
theorem dX8_judge_94 : decode cX8_judge 94 = .ok (.aload_n 0, 1) := by decide +kernel
theorem dX8_judge_95 : decode cX8_judge 95 = .ok (.iconst 0, 1) := by decide +kernel
theorem dX8_judge_96 : decode cX8_judge 96 = .ok (.putfield 212, 3) := by decide +kernel
theorem dX8_judge_99 : decode cX8_judge 99 = .ok (.iload_n 2, 1) := by decide +kernel
theorem dX8_judge_100 : decode cX8_judge 100 = .ok (.ireturn, 1) := by decide +kernel
theorem dX8_clear_0 : decode cX8_clear 0 = .ok (.aload_n 0, 1) := by decide +kernel
theorem dX8_clear_1 : decode cX8_clear 1 = .ok (.getfield 212, 3) := by decide +kernel
theorem dX8_clear_4 : decode cX8_clear 4 = .ok (.istore_n 1, 1) := by decide +kernel
theorem dX8_clear_5 : decode cX8_clear 5 = .ok (.aload_n 0, 1) := by decide +kernel
theorem dX8_clear_6 : decode cX8_clear 6 = .ok (.iconst 0, 1) := by decide +kernel
theorem dX8_clear_7 : decode cX8_clear 7 = .ok (.putfield 212, 3) := by decide +kernel
theorem dX8_clear_10 : decode cX8_clear 10 = .ok (.iload_n 1, 1) := by decide +kernel
theorem dX8_clear_11 : decode cX8_clear 11 = .ok (.ireturn, 1) := by decide +kernel
theorem dX8_draw_0 : decode cX8_draw 0 = .ok (.aload_n 0, 1) := by decide +kernel
theorem dX8_draw_1 : decode cX8_draw 1 = .ok (.aload_n 0, 1) := by decide +kernel
theorem dX8_draw_2 : decode cX8_draw 2 = .ok (.getfield 219, 3) := by decide +kernel
theorem dX8_draw_5 : decode cX8_draw 5 = .ok (.ldc 222, 2) := by decide +kernel
theorem dX8_draw_7 : decode cX8_draw 7 = .ok (.imul, 1) := by decide +kernel
theorem dX8_draw_8 : decode cX8_draw 8 = .ok (.ldc 223, 2) := by decide +kernel
theorem dX8_draw_10 : decode cX8_draw 10 = .ok (.iadd, 1) := by decide +kernel
theorem dX8_draw_11 : decode cX8_draw 11 = .ok (.putfield 219, 3) := by decide +kernel
theorem dX8_draw_14 : decode cX8_draw 14 = .ok (.aload_n 0, 1) := by decide +kernel
theorem dX8_draw_15 : decode cX8_draw 15 = .ok (.getfield 219, 3) := by decide +kernel
theorem dX8_draw_18 : decode cX8_draw 18 = .ok (.ldc 190, 2) := by decide +kernel
theorem dX8_draw_20 : decode cX8_draw 20 = .ok (.iand, 1) := by decide +kernel
theorem dX8_draw_21 : decode cX8_draw 21 = .ok (.sipush 256, 3) := by decide +kernel
theorem dX8_draw_24 : decode cX8_draw 24 = .ok (.idiv, 1) := by decide +kernel
theorem dX8_draw_25 : decode cX8_draw 25 = .ok (.iload_n 1, 1) := by decide +kernel
theorem dX8_draw_26 : decode cX8_draw 26 = .ok (.irem, 1) := by decide +kernel
theorem dX8_draw_27 : decode cX8_draw 27 = .ok (.ireturn, 1) := by decide +kernel
theorem dX8_nth_0 : decode cX8_nth 0 = .ok (.iload_n 1, 1) := by decide +kernel
theorem dX8_nth_1 : decode cX8_nth 1 = .ok (.istore_n 2, 1) := by decide +kernel
theorem dX8_nth_2 : decode cX8_nth 2 = .ok (.iconst 0, 1) := by decide +kernel
theorem dX8_nth_3 : decode cX8_nth 3 = .ok (.istore_n 3, 1) := by decide +kernel
theorem dX8_nth_4 : decode cX8_nth 4 = .ok (.aload_n 0, 1) := by decide +kernel
theorem dX8_nth_5 : decode cX8_nth 5 = .ok (.iload_n 3, 1) := by decide +kernel
theorem dX8_nth_6 : decode cX8_nth 6 = .ok (.invokevirtual 59, 3) := by decide +kernel
theorem dX8_nth_9 : decode cX8_nth 9 = .ok (.ifCond .eq 7, 3) := by decide +kernel
theorem dX8_nth_12 : decode cX8_nth 12 = .ok (.iload_n 2, 1) := by decide +kernel
theorem dX8_nth_13 : decode cX8_nth 13 = .ok (.ifCond .le 25, 3) := by decide +kernel
theorem dX8_nth_16 : decode cX8_nth 16 = .ok (.iload_n 2, 1) := by decide +kernel
theorem dX8_nth_17 : decode cX8_nth 17 = .ok (.aload_n 0, 1) := by decide +kernel
theorem dX8_nth_18 : decode cX8_nth 18 = .ok (.iload_n 3, 1) := by decide +kernel
theorem dX8_nth_19 : decode cX8_nth 19 = .ok (.invokevirtual 59, 3) := by decide +kernel
theorem dX8_nth_22 : decode cX8_nth 22 = .ok (.ifCond .eq 7, 3) := by decide +kernel
theorem dX8_nth_25 : decode cX8_nth 25 = .ok (.iconst 1, 1) := by decide +kernel
theorem dX8_nth_26 : decode cX8_nth 26 = .ok (.goto 4, 3) := by decide +kernel
theorem dX8_nth_29 : decode cX8_nth 29 = .ok (.iconst 0, 1) := by decide +kernel
theorem dX8_nth_30 : decode cX8_nth 30 = .ok (.isub, 1) := by decide +kernel
theorem dX8_nth_31 : decode cX8_nth 31 = .ok (.istore_n 2, 1) := by decide +kernel
theorem dX8_nth_32 : decode cX8_nth 32 = .ok (.iinc 3 1, 3) := by decide +kernel
theorem dX8_nth_35 : decode cX8_nth 35 = .ok (.goto (-31), 3) := by decide +kernel
theorem dX8_nth_38 : decode cX8_nth 38 = .ok (.iload_n 3, 1) := by decide +kernel
theorem dX8_nth_39 : decode cX8_nth 39 = .ok (.ireturn, 1) := by decide +kernel
theorem dX8_lots_0 : decode cX8_lots 0 = .ok (.iload_n 1, 1) := by decide +kernel
theorem dX8_lots_1 : decode cX8_lots 1 = .ok (.iconst 1, 1) := by decide +kernel
theorem dX8_lots_2 : decode cX8_lots 2 = .ok (.if_icmp .ge 10, 3) := by decide +kernel
theorem dX8_lots_5 : decode cX8_lots 5 = .ok (.aload_n 0, 1) := by decide +kernel
theorem dX8_lots_6 : decode cX8_lots 6 = .ok (.bipush (-4), 2) := by decide +kernel
theorem dX8_lots_8 : decode cX8_lots 8 = .ok (.invokevirtual 51, 3) := by decide +kernel
theorem dX8_lots_11 : decode cX8_lots 11 = .ok (.ireturn, 1) := by decide +kernel
theorem dX8_lots_12 : decode cX8_lots 12 = .ok (.iload_n 1, 1) := by decide +kernel
theorem dX8_lots_13 : decode cX8_lots 13 = .ok (.bipush 20, 2) := by decide +kernel
theorem dX8_lots_15 : decode cX8_lots 15 = .ok (.if_icmp .le 10, 3) := by decide +kernel
theorem dX8_lots_18 : decode cX8_lots 18 = .ok (.aload_n 0, 1) := by decide +kernel
theorem dX8_lots_19 : decode cX8_lots 19 = .ok (.bipush (-6), 2) := by decide +kernel
theorem dX8_lots_21 : decode cX8_lots 21 = .ok (.invokevirtual 51, 3) := by decide +kernel
theorem dX8_lots_24 : decode cX8_lots 24 = .ok (.ireturn, 1) := by decide +kernel
theorem dX8_lots_25 : decode cX8_lots 25 = .ok (.iload_n 3, 1) := by decide +kernel
theorem dX8_lots_26 : decode cX8_lots 26 = .ok (.iconst 0, 1) := by decide +kernel
theorem dX8_lots_27 : decode cX8_lots 27 = .ok (.iconst 1, 1) := by decide +kernel
theorem dX8_lots_28 : decode cX8_lots 28 = .ok (.invokestatic 55, 3) := by decide +kernel
theorem dX8_lots_31 : decode cX8_lots 31 = .ok (.ifCond .ne 10, 3) := by decide +kernel
end
section
theorem dX8_lots_34 : decode cX8_lots 34 = .ok (.aload_n 0, 1) := by decide +kernel
theorem dX8_lots_35 : decode cX8_lots 35 = .ok (.bipush (-2), 2) := by decide +kernel
theorem dX8_lots_37 : decode cX8_lots 37 = .ok (.invokevirtual 51, 3) := by decide +kernel
theorem dX8_lots_40 : decode cX8_lots 40 = .ok (.ireturn, 1) := by decide +kernel
theorem dX8_lots_41 : decode cX8_lots 41 = .ok (.aload_n 0, 1) := by decide +kernel
theorem dX8_lots_42 : decode cX8_lots 42 = .ok (.iload_n 2, 1) := by decide +kernel
theorem dX8_lots_43 : decode cX8_lots 43 = .ok (.putfield 219, 3) := by decide +kernel
theorem dX8_lots_46 : decode cX8_lots 46 = .ok (.aload_n 0, 1) := by decide +kernel
theorem dX8_lots_47 : decode cX8_lots 47 = .ok (.getfield 9, 3) := by decide +kernel
theorem dX8_lots_50 : decode cX8_lots 50 = .ok (.aload_n 0, 1) := by decide +kernel
theorem dX8_lots_51 : decode cX8_lots 51 = .ok (.getfield 16, 3) := by decide +kernel
theorem dX8_lots_54 : decode cX8_lots 54 = .ok (.invokestatic 176, 3) := by decide +kernel
theorem dX8_lots_57 : decode cX8_lots 57 = .ok (.iconst 0, 1) := by decide +kernel
theorem dX8_lots_58 : decode cX8_lots 58 = .ok (.istore 4, 2) := by decide +kernel
theorem dX8_lots_60 : decode cX8_lots 60 = .ok (.iconst 0, 1) := by decide +kernel
theorem dX8_lots_61 : decode cX8_lots 61 = .ok (.istore 5, 2) := by decide +kernel
theorem dX8_lots_63 : decode cX8_lots 63 = .ok (.iload 5, 2) := by decide +kernel
theorem dX8_lots_65 : decode cX8_lots 65 = .ok (.iload_n 1, 1) := by decide +kernel
theorem dX8_lots_66 : decode cX8_lots 66 = .ok (.if_icmp .ge 161, 3) := by decide +kernel
theorem dX8_lots_69 : decode cX8_lots 69 = .ok (.iconst 0, 1) := by decide +kernel
theorem dX8_lots_70 : decode cX8_lots 70 = .ok (.istore 6, 2) := by decide +kernel
theorem dX8_lots_72 : decode cX8_lots 72 = .ok (.iload 6, 2) := by decide +kernel
theorem dX8_lots_74 : decode cX8_lots 74 = .ok (.bipush 6, 2) := by decide +kernel
theorem dX8_lots_76 : decode cX8_lots 76 = .ok (.if_icmp .ge 107, 3) := by decide +kernel
theorem dX8_lots_79 : decode cX8_lots 79 = .ok (.aload_n 0, 1) := by decide +kernel
theorem dX8_lots_80 : decode cX8_lots 80 = .ok (.getfield 9, 3) := by decide +kernel
theorem dX8_lots_83 : decode cX8_lots 83 = .ok (.sipush 500, 3) := by decide +kernel
theorem dX8_lots_86 : decode cX8_lots 86 = .ok (.iaload, 1) := by decide +kernel
theorem dX8_lots_87 : decode cX8_lots 87 = .ok (.bipush 10, 2) := by decide +kernel
theorem dX8_lots_89 : decode cX8_lots 89 = .ok (.if_icmp .ge 94, 3) := by decide +kernel
theorem dX8_lots_92 : decode cX8_lots 92 = .ok (.aload_n 0, 1) := by decide +kernel
theorem dX8_lots_93 : decode cX8_lots 93 = .ok (.invokevirtual 142, 3) := by decide +kernel
theorem dX8_lots_96 : decode cX8_lots 96 = .ok (.invokestatic 148, 3) := by decide +kernel
theorem dX8_lots_99 : decode cX8_lots 99 = .ok (.istore 7, 2) := by decide +kernel
theorem dX8_lots_101 : decode cX8_lots 101 = .ok (.iload 7, 2) := by decide +kernel
theorem dX8_lots_103 : decode cX8_lots 103 = .ok (.ifCond .ne 30, 3) := by decide +kernel
theorem dX8_lots_106 : decode cX8_lots 106 = .ok (.aload_n 0, 1) := by decide +kernel
theorem dX8_lots_107 : decode cX8_lots 107 = .ok (.bipush (-9), 2) := by decide +kernel
theorem dX8_lots_109 : decode cX8_lots 109 = .ok (.bipush (-9), 2) := by decide +kernel
theorem dX8_lots_111 : decode cX8_lots 111 = .ok (.invokevirtual 119, 3) := by decide +kernel
theorem dX8_lots_114 : decode cX8_lots 114 = .ok (.istore 8, 2) := by decide +kernel
theorem dX8_lots_116 : decode cX8_lots 116 = .ok (.aload_n 0, 1) := by decide +kernel
theorem dX8_lots_117 : decode cX8_lots 117 = .ok (.iload 8, 2) := by decide +kernel
theorem dX8_lots_119 : decode cX8_lots 119 = .ok (.iconst 0, 1) := by decide +kernel
theorem dX8_lots_120 : decode cX8_lots 120 = .ok (.invokevirtual 122, 3) := by decide +kernel
theorem dX8_lots_123 : decode cX8_lots 123 = .ok (.aload_n 0, 1) := by decide +kernel
theorem dX8_lots_124 : decode cX8_lots 124 = .ok (.iload 8, 2) := by decide +kernel
theorem dX8_lots_126 : decode cX8_lots 126 = .ok (.invokevirtual 126, 3) := by decide +kernel
theorem dX8_lots_129 : decode cX8_lots 129 = .ok (.pop, 1) := by decide +kernel
theorem dX8_lots_130 : decode cX8_lots 130 = .ok (.goto 47, 3) := by decide +kernel
theorem dX8_lots_133 : decode cX8_lots 133 = .ok (.aload_n 0, 1) := by decide +kernel
theorem dX8_lots_134 : decode cX8_lots 134 = .ok (.aload_n 0, 1) := by decide +kernel
theorem dX8_lots_135 : decode cX8_lots 135 = .ok (.iload 7, 2) := by decide +kernel
theorem dX8_lots_137 : decode cX8_lots 137 = .ok (.invokevirtual 224, 3) := by decide +kernel
theorem dX8_lots_140 : decode cX8_lots 140 = .ok (.invokevirtual 227, 3) := by decide +kernel
theorem dX8_lots_143 : decode cX8_lots 143 = .ok (.istore 8, 2) := by decide +kernel
theorem dX8_lots_145 : decode cX8_lots 145 = .ok (.aload_n 0, 1) := by decide +kernel
theorem dX8_lots_146 : decode cX8_lots 146 = .ok (.invokevirtual 84, 3) := by decide +kernel
theorem dX8_lots_149 : decode cX8_lots 149 = .ok (.aload_n 0, 1) := by decide +kernel
theorem dX8_lots_150 : decode cX8_lots 150 = .ok (.aload_n 0, 1) := by decide +kernel
theorem dX8_lots_151 : decode cX8_lots 151 = .ok (.getfield 34, 3) := by decide +kernel
theorem dX8_lots_154 : decode cX8_lots 154 = .ok (.iload 8, 2) := by decide +kernel
theorem dX8_lots_156 : decode cX8_lots 156 = .ok (.iaload, 1) := by decide +kernel
theorem dX8_lots_157 : decode cX8_lots 157 = .ok (.invokevirtual 224, 3) := by decide +kernel
theorem dX8_lots_160 : decode cX8_lots 160 = .ok (.istore 9, 2) := by decide +kernel
theorem dX8_lots_162 : decode cX8_lots 162 = .ok (.aload_n 0, 1) := by decide +kernel
theorem dX8_lots_163 : decode cX8_lots 163 = .ok (.iload 8, 2) := by decide +kernel
theorem dX8_lots_165 : decode cX8_lots 165 = .ok (.iload 9, 2) := by decide +kernel
theorem dX8_lots_167 : decode cX8_lots 167 = .ok (.aload_n 0, 1) := by decide +kernel
theorem dX8_lots_168 : decode cX8_lots 168 = .ok (.bipush 8, 2) := by decide +kernel
theorem dX8_lots_170 : decode cX8_lots 170 = .ok (.invokevirtual 224, 3) := by decide +kernel
theorem dX8_lots_173 : decode cX8_lots 173 = .ok (.invokevirtual 129, 3) := by decide +kernel
theorem dX8_lots_176 : decode cX8_lots 176 = .ok (.pop, 1) := by decide +kernel
theorem dX8_lots_177 : decode cX8_lots 177 = .ok (.iinc 6 1, 3) := by decide +kernel
theorem dX8_lots_180 : decode cX8_lots 180 = .ok (.goto (-108), 3) := by decide +kernel
theorem dX8_lots_183 : decode cX8_lots 183 = .ok (.aload_n 0, 1) := by decide +kernel
theorem dX8_lots_184 : decode cX8_lots 184 = .ok (.invokevirtual 133, 3) := by decide +kernel
theorem dX8_lots_187 : decode cX8_lots 187 = .ok (.istore 6, 2) := by decide +kernel
theorem dX8_lots_189 : decode cX8_lots 189 = .ok (.iload 4, 2) := by decide +kernel
theorem dX8_lots_191 : decode cX8_lots 191 = .ok (.iload_n 3, 1) := by decide +kernel
theorem dX8_lots_192 : decode cX8_lots 192 = .ok (.ifCond .ne 8, 3) := by decide +kernel
theorem dX8_lots_195 : decode cX8_lots 195 = .ok (.iload 6, 2) := by decide +kernel
theorem dX8_lots_197 : decode cX8_lots 197 = .ok (.goto 10, 3) := by decide +kernel
theorem dX8_lots_200 : decode cX8_lots 200 = .ok (.aload_n 0, 1) := by decide +kernel
theorem dX8_lots_201 : decode cX8_lots 201 = .ok (.invokevirtual 185, 3) := by decide +kernel
theorem dX8_lots_204 : decode cX8_lots 204 = .ok (.invokestatic 148, 3) := by decide +kernel
theorem dX8_lots_207 : decode cX8_lots 207 = .ok (.iadd, 1) := by decide +kernel
theorem dX8_lots_208 : decode cX8_lots 208 = .ok (.istore 4, 2) := by decide +kernel
theorem dX8_lots_210 : decode cX8_lots 210 = .ok (.aload_n 0, 1) := by decide +kernel
theorem dX8_lots_211 : decode cX8_lots 211 = .ok (.getfield 16, 3) := by decide +kernel
theorem dX8_lots_214 : decode cX8_lots 214 = .ok (.aload_n 0, 1) := by decide +kernel
theorem dX8_lots_215 : decode cX8_lots 215 = .ok (.getfield 9, 3) := by decide +kernel
theorem dX8_lots_218 : decode cX8_lots 218 = .ok (.invokestatic 176, 3) := by decide +kernel
theorem dX8_lots_221 : decode cX8_lots 221 = .ok (.iinc 5 1, 3) := by decide +kernel
theorem dX8_lots_224 : decode cX8_lots 224 = .ok (.goto (-161), 3) := by decide +kernel
theorem dX8_lots_227 : decode cX8_lots 227 = .ok (.iload 4, 2) := by decide +kernel
theorem dX8_lots_229 : decode cX8_lots 229 = .ok (.ireturn, 1) := by decide +kernel
theorem dX8_image_0 : decode cX8_image 0 = .ok (.aload_n 0, 1) := by decide +kernel
theorem dX8_image_1 : decode cX8_image 1 = .ok (.iconst 1, 1) := by decide +kernel
theorem dX8_image_2 : decode cX8_image 2 = .ok (.putfield 230, 3) := by decide +kernel
theorem dX8_image_5 : decode cX8_image 5 = .ok (.aload_n 0, 1) := by decide +kernel
theorem dX8_image_6 : decode cX8_image 6 = .ok (.getfield 9, 3) := by decide +kernel
theorem dX8_image_9 : decode cX8_image 9 = .ok (.aload_n 0, 1) := by decide +kernel
theorem dX8_image_10 : decode cX8_image 10 = .ok (.getfield 13, 3) := by decide +kernel
theorem dX8_image_13 : decode cX8_image 13 = .ok (.invokestatic 176, 3) := by decide +kernel
theorem dX8_image_16 : decode cX8_image 16 = .ok (.aload_n 0, 1) := by decide +kernel
theorem dX8_image_17 : decode cX8_image 17 = .ok (.invokevirtual 142, 3) := by decide +kernel
theorem dX8_image_20 : decode cX8_image 20 = .ok (.invokestatic 148, 3) := by decide +kernel
theorem dX8_image_23 : decode cX8_image 23 = .ok (.ireturn, 1) := by decide +kernel
theorem dX8_on_0 : decode cX8_on 0 = .ok (.aload_n 0, 1) := by decide +kernel
theorem dX8_on_1 : decode cX8_on 1 = .ok (.getfield 230, 3) := by decide +kernel
theorem dX8_on_4 : decode cX8_on 4 = .ok (.ifCond .ne 10, 3) := by decide +kernel
theorem dX8_on_7 : decode cX8_on 7 = .ok (.aload_n 0, 1) := by decide +kernel
theorem dX8_on_8 : decode cX8_on 8 = .ok (.bipush (-3), 2) := by decide +kernel
theorem dX8_on_10 : decode cX8_on 10 = .ok (.invokevirtual 51, 3) := by decide +kernel
theorem dX8_on_13 : decode cX8_on 13 = .ok (.ireturn, 1) := by decide +kernel
theorem dX8_on_14 : decode cX8_on 14 = .ok (.aload_n 0, 1) := by decide +kernel
theorem dX8_on_15 : decode cX8_on 15 = .ok (.getfield 13, 3) := by decide +kernel
theorem dX8_on_18 : decode cX8_on 18 = .ok (.aload_n 0, 1) := by decide +kernel
theorem dX8_on_19 : decode cX8_on 19 = .ok (.getfield 9, 3) := by decide +kernel
theorem dX8_on_22 : decode cX8_on 22 = .ok (.invokestatic 176, 3) := by decide +kernel
theorem dX8_on_25 : decode cX8_on 25 = .ok (.aload_n 0, 1) := by decide +kernel
theorem dX8_on_26 : decode cX8_on 26 = .ok (.invokevirtual 142, 3) := by decide +kernel
theorem dX8_on_29 : decode cX8_on 29 = .ok (.invokestatic 148, 3) := by decide +kernel
theorem dX8_on_32 : decode cX8_on 32 = .ok (.ireturn, 1) := by decide +kernel
theorem dX8_count_0 : decode cX8_count 0 = .ok (.iload_n 1, 1) := by decide +kernel
theorem dX8_count_1 : decode cX8_count 1 = .ok (.bipush 11, 2) := by decide +kernel
theorem dX8_count_3 : decode cX8_count 3 = .ok (.bipush 16, 2) := by decide +kernel
theorem dX8_count_5 : decode cX8_count 5 = .ok (.invokestatic 55, 3) := by decide +kernel
theorem dX8_count_8 : decode cX8_count 8 = .ok (.ifCond .eq 13, 3) := by decide +kernel
theorem dX8_count_11 : decode cX8_count 11 = .ok (.aload_n 0, 1) := by decide +kernel
theorem dX8_count_12 : decode cX8_count 12 = .ok (.getfield 22, 3) := by decide +kernel
theorem dX8_count_15 : decode cX8_count 15 = .ok (.iload_n 1, 1) := by decide +kernel
theorem dX8_count_16 : decode cX8_count 16 = .ok (.bipush 10, 2) := by decide +kernel
theorem dX8_count_18 : decode cX8_count 18 = .ok (.isub, 1) := by decide +kernel
theorem dX8_count_19 : decode cX8_count 19 = .ok (.iaload, 1) := by decide +kernel
theorem dX8_count_20 : decode cX8_count 20 = .ok (.ireturn, 1) := by decide +kernel
theorem dX8_count_21 : decode cX8_count 21 = .ok (.iload_n 1, 1) := by decide +kernel
theorem dX8_count_22 : decode cX8_count 22 = .ok (.tableswitch 94 0 7 #[46, 55, 60, 65, 70, 75, 84, 89], 46) := by decide +kernel
theorem dX8_count_68 : decode cX8_count 68 = .ok (.aload_n 0, 1) := by decide +kernel
theorem dX8_count_69 : decode cX8_count 69 = .ok (.getfield 9, 3) := by decide +kernel
theorem dX8_count_72 : decode cX8_count 72 = .ok (.sipush 500, 3) := by decide +kernel
theorem dX8_count_75 : decode cX8_count 75 = .ok (.iaload, 1) := by decide +kernel
theorem dX8_count_76 : decode cX8_count 76 = .ok (.ireturn, 1) := by decide +kernel
theorem dX8_count_77 : decode cX8_count 77 = .ok (.aload_n 0, 1) := by decide +kernel
theorem dX8_count_78 : decode cX8_count 78 = .ok (.invokevirtual 142, 3) := by decide +kernel
theorem dX8_count_81 : decode cX8_count 81 = .ok (.ireturn, 1) := by decide +kernel
theorem dX8_count_82 : decode cX8_count 82 = .ok (.aload_n 0, 1) := by decide +kernel
theorem dX8_count_83 : decode cX8_count 83 = .ok (.invokevirtual 112, 3) := by decide +kernel
theorem dX8_count_86 : decode cX8_count 86 = .ok (.ireturn, 1) := by decide +kernel
theorem dX8_count_87 : decode cX8_count 87 = .ok (.aload_n 0, 1) := by decide +kernel
theorem dX8_count_88 : decode cX8_count 88 = .ok (.invokevirtual 182, 3) := by decide +kernel
theorem dX8_count_91 : decode cX8_count 91 = .ok (.ireturn, 1) := by decide +kernel
theorem dX8_count_92 : decode cX8_count 92 = .ok (.aload_n 0, 1) := by decide +kernel
theorem dX8_count_93 : decode cX8_count 93 = .ok (.invokevirtual 185, 3) := by decide +kernel
theorem dX8_count_96 : decode cX8_count 96 = .ok (.ireturn, 1) := by decide +kernel
theorem dX8_count_97 : decode cX8_count 97 = .ok (.aload_n 0, 1) := by decide +kernel
theorem dX8_count_98 : decode cX8_count 98 = .ok (.getfield 9, 3) := by decide +kernel
theorem dX8_count_101 : decode cX8_count 101 = .ok (.sipush 507, 3) := by decide +kernel
theorem dX8_count_104 : decode cX8_count 104 = .ok (.iaload, 1) := by decide +kernel
theorem dX8_count_105 : decode cX8_count 105 = .ok (.ireturn, 1) := by decide +kernel
theorem dX8_count_106 : decode cX8_count 106 = .ok (.aload_n 0, 1) := by decide +kernel
theorem dX8_count_107 : decode cX8_count 107 = .ok (.getfield 212, 3) := by decide +kernel
theorem dX8_count_110 : decode cX8_count 110 = .ok (.ireturn, 1) := by decide +kernel
theorem dX8_count_111 : decode cX8_count 111 = .ok (.aload_n 0, 1) := by decide +kernel
theorem dX8_count_112 : decode cX8_count 112 = .ok (.getfield 154, 3) := by decide +kernel
theorem dX8_count_115 : decode cX8_count 115 = .ok (.ireturn, 1) := by decide +kernel
theorem dX8_count_116 : decode cX8_count 116 = .ok (.bipush (-9), 2) := by decide +kernel
theorem dX8_count_118 : decode cX8_count 118 = .ok (.ireturn, 1) := by decide +kernel
theorem dJ6_bitCount_0f7a4_0 : decode cJ6_bitCount_0f7a4 0 = .ok (.iload_n 0, 1) := by decide +kernel
theorem dJ6_bitCount_0f7a4_1 : decode cJ6_bitCount_0f7a4 1 = .ok (.iload_n 0, 1) := by decide +kernel
theorem dJ6_bitCount_0f7a4_2 : decode cJ6_bitCount_0f7a4 2 = .ok (.iconst 1, 1) := by decide +kernel
theorem dJ6_bitCount_0f7a4_3 : decode cJ6_bitCount_0f7a4 3 = .ok (.iushr, 1) := by decide +kernel
theorem dJ6_bitCount_0f7a4_4 : decode cJ6_bitCount_0f7a4 4 = .ok (.ldc_w 265, 3) := by decide +kernel
theorem dJ6_bitCount_0f7a4_7 : decode cJ6_bitCount_0f7a4 7 = .ok (.iand, 1) := by decide +kernel
theorem dJ6_bitCount_0f7a4_8 : decode cJ6_bitCount_0f7a4 8 = .ok (.isub, 1) := by decide +kernel
theorem dJ6_bitCount_0f7a4_9 : decode cJ6_bitCount_0f7a4 9 = .ok (.istore_n 0, 1) := by decide +kernel
theorem dJ6_bitCount_0f7a4_10 : decode cJ6_bitCount_0f7a4 10 = .ok (.iload_n 0, 1) := by decide +kernel
theorem dJ6_bitCount_0f7a4_11 : decode cJ6_bitCount_0f7a4 11 = .ok (.ldc_w 266, 3) := by decide +kernel
theorem dJ6_bitCount_0f7a4_14 : decode cJ6_bitCount_0f7a4 14 = .ok (.iand, 1) := by decide +kernel
theorem dJ6_bitCount_0f7a4_15 : decode cJ6_bitCount_0f7a4 15 = .ok (.iload_n 0, 1) := by decide +kernel
theorem dJ6_bitCount_0f7a4_16 : decode cJ6_bitCount_0f7a4 16 = .ok (.iconst 2, 1) := by decide +kernel
theorem dJ6_bitCount_0f7a4_17 : decode cJ6_bitCount_0f7a4 17 = .ok (.iushr, 1) := by decide +kernel
theorem dJ6_bitCount_0f7a4_18 : decode cJ6_bitCount_0f7a4 18 = .ok (.ldc_w 266, 3) := by decide +kernel
theorem dJ6_bitCount_0f7a4_21 : decode cJ6_bitCount_0f7a4 21 = .ok (.iand, 1) := by decide +kernel
theorem dJ6_bitCount_0f7a4_22 : decode cJ6_bitCount_0f7a4 22 = .ok (.iadd, 1) := by decide +kernel
theorem dJ6_bitCount_0f7a4_23 : decode cJ6_bitCount_0f7a4 23 = .ok (.istore_n 0, 1) := by decide +kernel
theorem dJ6_bitCount_0f7a4_24 : decode cJ6_bitCount_0f7a4 24 = .ok (.iload_n 0, 1) := by decide +kernel
theorem dJ6_bitCount_0f7a4_25 : decode cJ6_bitCount_0f7a4 25 = .ok (.iload_n 0, 1) := by decide +kernel
theorem dJ6_bitCount_0f7a4_26 : decode cJ6_bitCount_0f7a4 26 = .ok (.iconst 4, 1) := by decide +kernel
theorem dJ6_bitCount_0f7a4_27 : decode cJ6_bitCount_0f7a4 27 = .ok (.iushr, 1) := by decide +kernel
theorem dJ6_bitCount_0f7a4_28 : decode cJ6_bitCount_0f7a4 28 = .ok (.iadd, 1) := by decide +kernel
theorem dJ6_bitCount_0f7a4_29 : decode cJ6_bitCount_0f7a4 29 = .ok (.ldc_w 267, 3) := by decide +kernel
theorem dJ6_bitCount_0f7a4_32 : decode cJ6_bitCount_0f7a4 32 = .ok (.iand, 1) := by decide +kernel
theorem dJ6_bitCount_0f7a4_33 : decode cJ6_bitCount_0f7a4 33 = .ok (.istore_n 0, 1) := by decide +kernel
theorem dJ6_bitCount_0f7a4_34 : decode cJ6_bitCount_0f7a4 34 = .ok (.iload_n 0, 1) := by decide +kernel
theorem dJ6_bitCount_0f7a4_35 : decode cJ6_bitCount_0f7a4 35 = .ok (.iload_n 0, 1) := by decide +kernel
theorem dJ6_bitCount_0f7a4_36 : decode cJ6_bitCount_0f7a4 36 = .ok (.bipush 8, 2) := by decide +kernel
theorem dJ6_bitCount_0f7a4_38 : decode cJ6_bitCount_0f7a4 38 = .ok (.iushr, 1) := by decide +kernel
theorem dJ6_bitCount_0f7a4_39 : decode cJ6_bitCount_0f7a4 39 = .ok (.iadd, 1) := by decide +kernel
theorem dJ6_bitCount_0f7a4_40 : decode cJ6_bitCount_0f7a4 40 = .ok (.istore_n 0, 1) := by decide +kernel
theorem dJ6_bitCount_0f7a4_41 : decode cJ6_bitCount_0f7a4 41 = .ok (.iload_n 0, 1) := by decide +kernel
theorem dJ6_bitCount_0f7a4_42 : decode cJ6_bitCount_0f7a4 42 = .ok (.iload_n 0, 1) := by decide +kernel
theorem dJ6_bitCount_0f7a4_43 : decode cJ6_bitCount_0f7a4 43 = .ok (.bipush 16, 2) := by decide +kernel
theorem dJ6_bitCount_0f7a4_45 : decode cJ6_bitCount_0f7a4 45 = .ok (.iushr, 1) := by decide +kernel
theorem dJ6_bitCount_0f7a4_46 : decode cJ6_bitCount_0f7a4 46 = .ok (.iadd, 1) := by decide +kernel
theorem dJ6_bitCount_0f7a4_47 : decode cJ6_bitCount_0f7a4 47 = .ok (.istore_n 0, 1) := by decide +kernel
theorem dJ6_bitCount_0f7a4_48 : decode cJ6_bitCount_0f7a4 48 = .ok (.iload_n 0, 1) := by decide +kernel
theorem dJ6_bitCount_0f7a4_49 : decode cJ6_bitCount_0f7a4 49 = .ok (.bipush 63, 2) := by decide +kernel
theorem dJ6_bitCount_0f7a4_51 : decode cJ6_bitCount_0f7a4 51 = .ok (.iand, 1) := by decide +kernel
theorem dJ6_bitCount_0f7a4_52 : decode cJ6_bitCount_0f7a4 52 = .ok (.ireturn, 1) := by decide +kernel
theorem dJ9_max_7cf53_0 : decode cJ9_max_7cf53 0 = .ok (.iload_n 0, 1) := by decide +kernel
theorem dJ9_max_7cf53_1 : decode cJ9_max_7cf53 1 = .ok (.iload_n 1, 1) := by decide +kernel
theorem dJ9_max_7cf53_2 : decode cJ9_max_7cf53 2 = .ok (.if_icmp .lt 7, 3) := by decide +kernel
theorem dJ9_max_7cf53_5 : decode cJ9_max_7cf53 5 = .ok (.iload_n 0, 1) := by decide +kernel
theorem dJ9_max_7cf53_6 : decode cJ9_max_7cf53 6 = .ok (.goto 4, 3) := by decide +kernel
theorem dJ9_max_7cf53_9 : decode cJ9_max_7cf53 9 = .ok (.iload_n 1, 1) := by decide +kernel
theorem dJ9_max_7cf53_10 : decode cJ9_max_7cf53 10 = .ok (.ireturn, 1) := by decide +kernel
theorem dJ9_min_7cf53_0 : decode cJ9_min_7cf53 0 = .ok (.iload_n 0, 1) := by decide +kernel
theorem dJ9_min_7cf53_1 : decode cJ9_min_7cf53 1 = .ok (.iload_n 1, 1) := by decide +kernel
theorem dJ9_min_7cf53_2 : decode cJ9_min_7cf53 2 = .ok (.if_icmp .gt 7, 3) := by decide +kernel
theorem dJ9_min_7cf53_5 : decode cJ9_min_7cf53 5 = .ok (.iload_n 0, 1) := by decide +kernel
theorem dJ9_min_7cf53_6 : decode cJ9_min_7cf53 6 = .ok (.goto 4, 3) := by decide +kernel
theorem dJ9_min_7cf53_9 : decode cJ9_min_7cf53 9 = .ok (.iload_n 1, 1) := by decide +kernel
theorem dJ9_min_7cf53_10 : decode cJ9_min_7cf53 10 = .ok (.ireturn, 1) := by decide +kernel
theorem dJ0_length_8abf5_0 : decode cJ0_length_8abf5 0 = .ok (.aload_n 0, 1) := by decide +kernel
theorem dJ0_length_8abf5_1 : decode cJ0_length_8abf5 1 = .ok (.getfield 9, 3) := by decide +kernel
theorem dJ0_length_8abf5_4 : decode cJ0_length_8abf5 4 = .ok (.arraylength, 1) := by decide +kernel
theorem dJ0_length_8abf5_5 : decode cJ0_length_8abf5 5 = .ok (.aload_n 0, 1) := by decide +kernel
theorem dJ0_length_8abf5_6 : decode cJ0_length_8abf5 6 = .ok (.invokevirtual 335, 3) := by decide +kernel
theorem dJ0_length_8abf5_9 : decode cJ0_length_8abf5 9 = .ok (.ishr, 1) := by decide +kernel
theorem dJ0_length_8abf5_10 : decode cJ0_length_8abf5 10 = .ok (.ireturn, 1) := by decide +kernel
theorem dJ0_isEmpty_aae02_0 : decode cJ0_isEmpty_aae02 0 = .ok (.aload_n 0, 1) := by decide +kernel
theorem dJ0_isEmpty_aae02_1 : decode cJ0_isEmpty_aae02 1 = .ok (.getfield 9, 3) := by decide +kernel
theorem dJ0_isEmpty_aae02_4 : decode cJ0_isEmpty_aae02 4 = .ok (.arraylength, 1) := by decide +kernel
theorem dJ0_isEmpty_aae02_5 : decode cJ0_isEmpty_aae02 5 = .ok (.ifCond .ne 7, 3) := by decide +kernel
theorem dJ0_isEmpty_aae02_8 : decode cJ0_isEmpty_aae02 8 = .ok (.iconst 1, 1) := by decide +kernel
theorem dJ0_isEmpty_aae02_9 : decode cJ0_isEmpty_aae02 9 = .ok (.goto 4, 3) := by decide +kernel
theorem dJ0_isEmpty_aae02_12 : decode cJ0_isEmpty_aae02 12 = .ok (.iconst 0, 1) := by decide +kernel
theorem dJ0_isEmpty_aae02_13 : decode cJ0_isEmpty_aae02 13 = .ok (.ireturn, 1) := by decide +kernel
theorem dJ0_charAt_5068e_0 : decode cJ0_charAt_5068e 0 = .ok (.aload_n 0, 1) := by decide +kernel
theorem dJ0_charAt_5068e_1 : decode cJ0_charAt_5068e 1 = .ok (.invokevirtual 492, 3) := by decide +kernel
theorem dJ0_charAt_5068e_4 : decode cJ0_charAt_5068e 4 = .ok (.ifCond .eq 12, 3) := by decide +kernel
theorem dJ0_charAt_5068e_7 : decode cJ0_charAt_5068e 7 = .ok (.aload_n 0, 1) := by decide +kernel
theorem dJ0_charAt_5068e_8 : decode cJ0_charAt_5068e 8 = .ok (.getfield 9, 3) := by decide +kernel
theorem dJ0_charAt_5068e_11 : decode cJ0_charAt_5068e 11 = .ok (.iload_n 1, 1) := by decide +kernel
theorem dJ0_charAt_5068e_12 : decode cJ0_charAt_5068e 12 = .ok (.invokestatic 495, 3) := by decide +kernel
theorem dJ0_charAt_5068e_15 : decode cJ0_charAt_5068e 15 = .ok (.ireturn, 1) := by decide +kernel
theorem dJ0_charAt_5068e_16 : decode cJ0_charAt_5068e 16 = .ok (.aload_n 0, 1) := by decide +kernel
theorem dJ0_charAt_5068e_17 : decode cJ0_charAt_5068e 17 = .ok (.getfield 9, 3) := by decide +kernel
theorem dJ0_charAt_5068e_20 : decode cJ0_charAt_5068e 20 = .ok (.iload_n 1, 1) := by decide +kernel
theorem dJ0_charAt_5068e_21 : decode cJ0_charAt_5068e 21 = .ok (.invokestatic 498, 3) := by decide +kernel
theorem dJ0_charAt_5068e_24 : decode cJ0_charAt_5068e 24 = .ok (.ireturn, 1) := by decide +kernel
theorem dJ0_coder_7d493_0 : decode cJ0_coder_7d493 0 = .ok (.getstatic 38, 3) := by decide +kernel
theorem dJ0_coder_7d493_3 : decode cJ0_coder_7d493 3 = .ok (.ifCond .eq 10, 3) := by decide +kernel
theorem dJ0_coder_7d493_6 : decode cJ0_coder_7d493 6 = .ok (.aload_n 0, 1) := by decide +kernel
theorem dJ0_coder_7d493_7 : decode cJ0_coder_7d493 7 = .ok (.getfield 15, 3) := by decide +kernel
theorem dJ0_coder_7d493_10 : decode cJ0_coder_7d493 10 = .ok (.goto 4, 3) := by decide +kernel
theorem dJ0_coder_7d493_13 : decode cJ0_coder_7d493 13 = .ok (.iconst 1, 1) := by decide +kernel
theorem dJ0_coder_7d493_14 : decode cJ0_coder_7d493 14 = .ok (.ireturn, 1) := by decide +kernel
theorem dJ0_isLatin1_aae02_0 : decode cJ0_isLatin1_aae02 0 = .ok (.getstatic 38, 3) := by decide +kernel
theorem dJ0_isLatin1_aae02_3 : decode cJ0_isLatin1_aae02 3 = .ok (.ifCond .eq 14, 3) := by decide +kernel
theorem dJ0_isLatin1_aae02_6 : decode cJ0_isLatin1_aae02 6 = .ok (.aload_n 0, 1) := by decide +kernel
theorem dJ0_isLatin1_aae02_7 : decode cJ0_isLatin1_aae02 7 = .ok (.getfield 15, 3) := by decide +kernel
theorem dJ0_isLatin1_aae02_10 : decode cJ0_isLatin1_aae02 10 = .ok (.ifCond .ne 7, 3) := by decide +kernel
theorem dJ0_isLatin1_aae02_13 : decode cJ0_isLatin1_aae02 13 = .ok (.iconst 1, 1) := by decide +kernel
theorem dJ0_isLatin1_aae02_14 : decode cJ0_isLatin1_aae02 14 = .ok (.goto 4, 3) := by decide +kernel
theorem dJ0_isLatin1_aae02_17 : decode cJ0_isLatin1_aae02 17 = .ok (.iconst 0, 1) := by decide +kernel
theorem dJ0_isLatin1_aae02_18 : decode cJ0_isLatin1_aae02 18 = .ok (.ireturn, 1) := by decide +kernel
theorem dJ0_checkIndex_df160_0 : decode cJ0_checkIndex_df160 0 = .ok (.iload_n 0, 1) := by decide +kernel
theorem dJ0_checkIndex_df160_1 : decode cJ0_checkIndex_df160 1 = .ok (.iload_n 1, 1) := by decide +kernel
theorem dJ0_checkIndex_df160_2 : decode cJ0_checkIndex_df160 2 = .ok (.getstatic 1053, 3) := by decide +kernel
theorem dJ0_checkIndex_df160_5 : decode cJ0_checkIndex_df160 5 = .ok (.invokestatic 1059, 3) := by decide +kernel
theorem dJ0_checkIndex_df160_8 : decode cJ0_checkIndex_df160 8 = .ok (.pop, 1) := by decide +kernel
theorem dJ0_checkIndex_df160_9 : decode cJ0_checkIndex_df160 9 = .ok (.return_, 1) := by decide +kernel
theorem dJ1_charAt_3b067_0 : decode cJ1_charAt_3b067 0 = .ok (.iload_n 1, 1) := by decide +kernel
theorem dJ1_charAt_3b067_1 : decode cJ1_charAt_3b067 1 = .ok (.aload_n 0, 1) := by decide +kernel
theorem dJ1_charAt_3b067_2 : decode cJ1_charAt_3b067 2 = .ok (.arraylength, 1) := by decide +kernel
theorem dJ1_charAt_3b067_3 : decode cJ1_charAt_3b067 3 = .ok (.invokestatic 9, 3) := by decide +kernel
theorem dJ1_charAt_3b067_6 : decode cJ1_charAt_3b067 6 = .ok (.aload_n 0, 1) := by decide +kernel
theorem dJ1_charAt_3b067_7 : decode cJ1_charAt_3b067 7 = .ok (.iload_n 1, 1) := by decide +kernel
theorem dJ1_charAt_3b067_8 : decode cJ1_charAt_3b067 8 = .ok (.baload, 1) := by decide +kernel
theorem dJ1_charAt_3b067_9 : decode cJ1_charAt_3b067 9 = .ok (.sipush 255, 3) := by decide +kernel
theorem dJ1_charAt_3b067_12 : decode cJ1_charAt_3b067 12 = .ok (.iand, 1) := by decide +kernel
theorem dJ1_charAt_3b067_13 : decode cJ1_charAt_3b067 13 = .ok (.i2c, 1) := by decide +kernel
theorem dJ1_charAt_3b067_14 : decode cJ1_charAt_3b067 14 = .ok (.ireturn, 1) := by decide +kernel
theorem dJ2_getChar_3b067_0 : decode cJ2_getChar_3b067 0 = .ok (.getstatic 44, 3) := by decide +kernel
theorem dJ2_getChar_3b067_3 : decode cJ2_getChar_3b067 3 = .ok (.ifCond .ne 25, 3) := by decide +kernel
theorem dJ2_getChar_3b067_6 : decode cJ2_getChar_3b067 6 = .ok (.iload_n 1, 1) := by decide +kernel
theorem dJ2_getChar_3b067_7 : decode cJ2_getChar_3b067 7 = .ok (.ifCond .lt 11, 3) := by decide +kernel
theorem dJ2_getChar_3b067_10 : decode cJ2_getChar_3b067 10 = .ok (.iload_n 1, 1) := by decide +kernel
theorem dJ2_getChar_3b067_11 : decode cJ2_getChar_3b067 11 = .ok (.aload_n 0, 1) := by decide +kernel
theorem dJ2_getChar_3b067_12 : decode cJ2_getChar_3b067 12 = .ok (.invokestatic 48, 3) := by decide +kernel
theorem dJ2_getChar_3b067_15 : decode cJ2_getChar_3b067 15 = .ok (.if_icmp .lt 13, 3) := by decide +kernel
theorem dJ2_getChar_3b067_18 : decode cJ2_getChar_3b067 18 = .ok (.new 52, 3) := by decide +kernel
theorem dJ2_getChar_3b067_21 : decode cJ2_getChar_3b067 21 = .ok (.dup, 1) := by decide +kernel
theorem dJ2_getChar_3b067_22 : decode cJ2_getChar_3b067 22 = .ok (.ldc 54, 2) := by decide +kernel
theorem dJ2_getChar_3b067_24 : decode cJ2_getChar_3b067 24 = .ok (.invokespecial 56, 3) := by decide +kernel
theorem dJ2_getChar_3b067_27 : decode cJ2_getChar_3b067 27 = .ok (.athrow, 1) := by decide +kernel
theorem dJ2_getChar_3b067_28 : decode cJ2_getChar_3b067 28 = .ok (.iload_n 1, 1) := by decide +kernel
theorem dJ2_getChar_3b067_29 : decode cJ2_getChar_3b067 29 = .ok (.iconst 1, 1) := by decide +kernel
theorem dJ2_getChar_3b067_30 : decode cJ2_getChar_3b067 30 = .ok (.ishl, 1) := by decide +kernel
theorem dJ2_getChar_3b067_31 : decode cJ2_getChar_3b067 31 = .ok (.istore_n 1, 1) := by decide +kernel
theorem dJ2_getChar_3b067_32 : decode cJ2_getChar_3b067 32 = .ok (.aload_n 0, 1) := by decide +kernel
theorem dJ2_getChar_3b067_33 : decode cJ2_getChar_3b067 33 = .ok (.iload_n 1, 1) := by decide +kernel
theorem dJ2_getChar_3b067_34 : decode cJ2_getChar_3b067 34 = .ok (.iinc 1 1, 3) := by decide +kernel
theorem dJ2_getChar_3b067_37 : decode cJ2_getChar_3b067 37 = .ok (.baload, 1) := by decide +kernel
theorem dJ2_getChar_3b067_38 : decode cJ2_getChar_3b067 38 = .ok (.sipush 255, 3) := by decide +kernel
theorem dJ2_getChar_3b067_41 : decode cJ2_getChar_3b067 41 = .ok (.iand, 1) := by decide +kernel
theorem dJ2_getChar_3b067_42 : decode cJ2_getChar_3b067 42 = .ok (.getstatic 59, 3) := by decide +kernel
theorem dJ2_getChar_3b067_45 : decode cJ2_getChar_3b067 45 = .ok (.ishl, 1) := by decide +kernel
theorem dJ2_getChar_3b067_46 : decode cJ2_getChar_3b067 46 = .ok (.aload_n 0, 1) := by decide +kernel
theorem dJ2_getChar_3b067_47 : decode cJ2_getChar_3b067 47 = .ok (.iload_n 1, 1) := by decide +kernel
theorem dJ2_getChar_3b067_48 : decode cJ2_getChar_3b067 48 = .ok (.baload, 1) := by decide +kernel
theorem dJ2_getChar_3b067_49 : decode cJ2_getChar_3b067 49 = .ok (.sipush 255, 3) := by decide +kernel
theorem dJ2_getChar_3b067_52 : decode cJ2_getChar_3b067 52 = .ok (.iand, 1) := by decide +kernel
theorem dJ2_getChar_3b067_53 : decode cJ2_getChar_3b067 53 = .ok (.getstatic 63, 3) := by decide +kernel
theorem dJ2_getChar_3b067_56 : decode cJ2_getChar_3b067 56 = .ok (.ishl, 1) := by decide +kernel
theorem dJ2_getChar_3b067_57 : decode cJ2_getChar_3b067 57 = .ok (.ior, 1) := by decide +kernel
theorem dJ2_getChar_3b067_58 : decode cJ2_getChar_3b067 58 = .ok (.i2c, 1) := by decide +kernel
theorem dJ2_getChar_3b067_59 : decode cJ2_getChar_3b067 59 = .ok (.ireturn, 1) := by decide +kernel
theorem dJ2_length_9d52b_0 : decode cJ2_length_9d52b 0 = .ok (.aload_n 0, 1) := by decide +kernel
theorem dJ2_length_9d52b_1 : decode cJ2_length_9d52b 1 = .ok (.arraylength, 1) := by decide +kernel
theorem dJ2_length_9d52b_2 : decode cJ2_length_9d52b 2 = .ok (.iconst 1, 1) := by decide +kernel
theorem dJ2_length_9d52b_3 : decode cJ2_length_9d52b 3 = .ok (.ishr, 1) := by decide +kernel
theorem dJ2_length_9d52b_4 : decode cJ2_length_9d52b 4 = .ok (.ireturn, 1) := by decide +kernel
theorem dJ2_charAt_3b067_0 : decode cJ2_charAt_3b067 0 = .ok (.iload_n 1, 1) := by decide +kernel
theorem dJ2_charAt_3b067_1 : decode cJ2_charAt_3b067 1 = .ok (.aload_n 0, 1) := by decide +kernel
theorem dJ2_charAt_3b067_2 : decode cJ2_charAt_3b067 2 = .ok (.invokestatic 67, 3) := by decide +kernel
theorem dJ2_charAt_3b067_5 : decode cJ2_charAt_3b067 5 = .ok (.aload_n 0, 1) := by decide +kernel
theorem dJ2_charAt_3b067_6 : decode cJ2_charAt_3b067 6 = .ok (.iload_n 1, 1) := by decide +kernel
theorem dJ2_charAt_3b067_7 : decode cJ2_charAt_3b067 7 = .ok (.invokestatic 71, 3) := by decide +kernel
theorem dJ2_charAt_3b067_10 : decode cJ2_charAt_3b067 10 = .ok (.ireturn, 1) := by decide +kernel
theorem dJ2_checkIndex_2214a_0 : decode cJ2_checkIndex_2214a 0 = .ok (.iload_n 0, 1) := by decide +kernel
theorem dJ2_checkIndex_2214a_1 : decode cJ2_checkIndex_2214a 1 = .ok (.aload_n 1, 1) := by decide +kernel
theorem dJ2_checkIndex_2214a_2 : decode cJ2_checkIndex_2214a 2 = .ok (.invokestatic 48, 3) := by decide +kernel
theorem dJ2_checkIndex_2214a_5 : decode cJ2_checkIndex_2214a 5 = .ok (.invokestatic 414, 3) := by decide +kernel
theorem dJ2_checkIndex_2214a_8 : decode cJ2_checkIndex_2214a 8 = .ok (.return_, 1) := by decide +kernel
theorem dJ3_checkIndex_8e157_0 : decode cJ3_checkIndex_8e157 0 = .ok (.iload_n 0, 1) := by decide +kernel
theorem dJ3_checkIndex_8e157_1 : decode cJ3_checkIndex_8e157 1 = .ok (.ifCond .lt 8, 3) := by decide +kernel
theorem dJ3_checkIndex_8e157_4 : decode cJ3_checkIndex_8e157 4 = .ok (.iload_n 0, 1) := by decide +kernel
theorem dJ3_checkIndex_8e157_5 : decode cJ3_checkIndex_8e157 5 = .ok (.iload_n 1, 1) := by decide +kernel
theorem dJ3_checkIndex_8e157_6 : decode cJ3_checkIndex_8e157 6 = .ok (.if_icmp .lt 10, 3) := by decide +kernel
theorem dJ3_checkIndex_8e157_9 : decode cJ3_checkIndex_8e157 9 = .ok (.aload_n 2, 1) := by decide +kernel
theorem dJ3_checkIndex_8e157_10 : decode cJ3_checkIndex_8e157 10 = .ok (.iload_n 0, 1) := by decide +kernel
theorem dJ3_checkIndex_8e157_11 : decode cJ3_checkIndex_8e157 11 = .ok (.iload_n 1, 1) := by decide +kernel
theorem dJ3_checkIndex_8e157_12 : decode cJ3_checkIndex_8e157 12 = .ok (.invokestatic 95, 3) := by decide +kernel
theorem dJ3_checkIndex_8e157_15 : decode cJ3_checkIndex_8e157 15 = .ok (.athrow, 1) := by decide +kernel
theorem dJ3_checkIndex_8e157_16 : decode cJ3_checkIndex_8e157 16 = .ok (.iload_n 0, 1) := by decide +kernel
theorem dJ3_checkIndex_8e157_17 : decode cJ3_checkIndex_8e157 17 = .ok (.ireturn, 1) := by decide +kernel
theorem dL_law_0 : decode cL_law 0 = .ok (.new 7, 3) := by decide +kernel
theorem dL_law_3 : decode cL_law 3 = .ok (.dup, 1) := by decide +kernel
theorem dL_law_4 : decode cL_law 4 = .ok (.invokespecial 9, 3) := by decide +kernel
theorem dL_law_7 : decode cL_law 7 = .ok (.astore_n 1, 1) := by decide +kernel
theorem dL_law_8 : decode cL_law 8 = .ok (.new 10, 3) := by decide +kernel
theorem dL_law_11 : decode cL_law 11 = .ok (.dup, 1) := by decide +kernel
theorem dL_law_12 : decode cL_law 12 = .ok (.invokespecial 12, 3) := by decide +kernel
theorem dL_law_15 : decode cL_law 15 = .ok (.astore_n 2, 1) := by decide +kernel
theorem dL_law_16 : decode cL_law 16 = .ok (.iconst 0, 1) := by decide +kernel
theorem dL_law_17 : decode cL_law 17 = .ok (.istore_n 3, 1) := by decide +kernel
theorem dL_law_18 : decode cL_law 18 = .ok (.iload_n 3, 1) := by decide +kernel
theorem dL_law_19 : decode cL_law 19 = .ok (.aload_n 0, 1) := by decide +kernel
theorem dL_law_20 : decode cL_law 20 = .ok (.arraylength, 1) := by decide +kernel
theorem dL_law_21 : decode cL_law 21 = .ok (.iconst 4, 1) := by decide +kernel
theorem dL_law_22 : decode cL_law 22 = .ok (.isub, 1) := by decide +kernel
theorem dL_law_23 : decode cL_law 23 = .ok (.if_icmp .gt 1128, 3) := by decide +kernel
theorem dL_law_26 : decode cL_law 26 = .ok (.aload_n 0, 1) := by decide +kernel
theorem dL_law_27 : decode cL_law 27 = .ok (.iload_n 3, 1) := by decide +kernel
theorem dL_law_28 : decode cL_law 28 = .ok (.iaload, 1) := by decide +kernel
theorem dL_law_29 : decode cL_law 29 = .ok (.bipush 63, 2) := by decide +kernel
theorem dL_law_31 : decode cL_law 31 = .ok (.iand, 1) := by decide +kernel
theorem dL_law_32 : decode cL_law 32 = .ok (.tableswitch 1113 0 34 #[156, 179, 192, 235, 268, 301, 334, 357, 370, 383, 426, 459, 492, 535, 578, 601, 624, 657, 680, 703, 736, 769, 792, 835, 848, 871, 915, 939, 962, 985, 1008, 1021, 1064, 1077, 1090], 156) := by decide +kernel
theorem dL_law_188 : decode cL_law 188 = .ok (.aload_n 1, 1) := by decide +kernel
theorem dL_law_189 : decode cL_law 189 = .ok (.aload_n 0, 1) := by decide +kernel
theorem dL_law_190 : decode cL_law 190 = .ok (.iload_n 3, 1) := by decide +kernel
theorem dL_law_191 : decode cL_law 191 = .ok (.iconst 1, 1) := by decide +kernel
theorem dL_law_192 : decode cL_law 192 = .ok (.iadd, 1) := by decide +kernel
theorem dL_law_193 : decode cL_law 193 = .ok (.iaload, 1) := by decide +kernel
theorem dL_law_194 : decode cL_law 194 = .ok (.invokevirtual 13, 3) := by decide +kernel
theorem dL_law_197 : decode cL_law 197 = .ok (.aload_n 2, 1) := by decide +kernel
theorem dL_law_198 : decode cL_law 198 = .ok (.aload_n 0, 1) := by decide +kernel
theorem dL_law_199 : decode cL_law 199 = .ok (.iload_n 3, 1) := by decide +kernel
theorem dL_law_200 : decode cL_law 200 = .ok (.iconst 1, 1) := by decide +kernel
theorem dL_law_201 : decode cL_law 201 = .ok (.iadd, 1) := by decide +kernel
theorem dL_law_202 : decode cL_law 202 = .ok (.iaload, 1) := by decide +kernel
theorem dL_law_203 : decode cL_law 203 = .ok (.invokevirtual 17, 3) := by decide +kernel
theorem dL_law_206 : decode cL_law 206 = .ok (.if_icmp .eq 939, 3) := by decide +kernel
theorem dL_law_209 : decode cL_law 209 = .ok (.iconst 0, 1) := by decide +kernel
theorem dL_law_210 : decode cL_law 210 = .ok (.ireturn, 1) := by decide +kernel
theorem dL_law_211 : decode cL_law 211 = .ok (.aload_n 1, 1) := by decide +kernel
theorem dL_law_212 : decode cL_law 212 = .ok (.invokevirtual 18, 3) := by decide +kernel
theorem dL_law_215 : decode cL_law 215 = .ok (.aload_n 2, 1) := by decide +kernel
theorem dL_law_216 : decode cL_law 216 = .ok (.invokevirtual 22, 3) := by decide +kernel
theorem dL_law_219 : decode cL_law 219 = .ok (.if_icmp .eq 926, 3) := by decide +kernel
theorem dL_law_222 : decode cL_law 222 = .ok (.iconst 0, 1) := by decide +kernel
theorem dL_law_223 : decode cL_law 223 = .ok (.ireturn, 1) := by decide +kernel
theorem dL_law_224 : decode cL_law 224 = .ok (.aload_n 1, 1) := by decide +kernel
theorem dL_law_225 : decode cL_law 225 = .ok (.aload_n 0, 1) := by decide +kernel
theorem dL_law_226 : decode cL_law 226 = .ok (.iload_n 3, 1) := by decide +kernel
theorem dL_law_227 : decode cL_law 227 = .ok (.iconst 1, 1) := by decide +kernel
theorem dL_law_228 : decode cL_law 228 = .ok (.iadd, 1) := by decide +kernel
theorem dL_law_229 : decode cL_law 229 = .ok (.iaload, 1) := by decide +kernel
theorem dL_law_230 : decode cL_law 230 = .ok (.aload_n 0, 1) := by decide +kernel
theorem dL_law_231 : decode cL_law 231 = .ok (.iload_n 3, 1) := by decide +kernel
theorem dL_law_232 : decode cL_law 232 = .ok (.iconst 2, 1) := by decide +kernel
theorem dL_law_233 : decode cL_law 233 = .ok (.iadd, 1) := by decide +kernel
theorem dL_law_234 : decode cL_law 234 = .ok (.iaload, 1) := by decide +kernel
theorem dL_law_235 : decode cL_law 235 = .ok (.aload_n 0, 1) := by decide +kernel
theorem dL_law_236 : decode cL_law 236 = .ok (.iload_n 3, 1) := by decide +kernel
theorem dL_law_237 : decode cL_law 237 = .ok (.iconst 3, 1) := by decide +kernel
theorem dL_law_238 : decode cL_law 238 = .ok (.iadd, 1) := by decide +kernel
theorem dL_law_239 : decode cL_law 239 = .ok (.iaload, 1) := by decide +kernel
theorem dL_law_240 : decode cL_law 240 = .ok (.invokevirtual 23, 3) := by decide +kernel
theorem dL_law_243 : decode cL_law 243 = .ok (.aload_n 2, 1) := by decide +kernel
theorem dL_law_244 : decode cL_law 244 = .ok (.aload_n 0, 1) := by decide +kernel
theorem dL_law_245 : decode cL_law 245 = .ok (.iload_n 3, 1) := by decide +kernel
theorem dL_law_246 : decode cL_law 246 = .ok (.iconst 1, 1) := by decide +kernel
theorem dL_law_247 : decode cL_law 247 = .ok (.iadd, 1) := by decide +kernel
theorem dL_law_248 : decode cL_law 248 = .ok (.iaload, 1) := by decide +kernel
theorem dL_law_249 : decode cL_law 249 = .ok (.aload_n 0, 1) := by decide +kernel
theorem dL_law_250 : decode cL_law 250 = .ok (.iload_n 3, 1) := by decide +kernel
theorem dL_law_251 : decode cL_law 251 = .ok (.iconst 2, 1) := by decide +kernel
theorem dL_law_252 : decode cL_law 252 = .ok (.iadd, 1) := by decide +kernel
theorem dL_law_253 : decode cL_law 253 = .ok (.iaload, 1) := by decide +kernel
theorem dL_law_254 : decode cL_law 254 = .ok (.aload_n 0, 1) := by decide +kernel
theorem dL_law_255 : decode cL_law 255 = .ok (.iload_n 3, 1) := by decide +kernel
theorem dL_law_256 : decode cL_law 256 = .ok (.iconst 3, 1) := by decide +kernel
theorem dL_law_257 : decode cL_law 257 = .ok (.iadd, 1) := by decide +kernel
theorem dL_law_258 : decode cL_law 258 = .ok (.iaload, 1) := by decide +kernel
theorem dL_law_259 : decode cL_law 259 = .ok (.invokevirtual 27, 3) := by decide +kernel
theorem dL_law_262 : decode cL_law 262 = .ok (.if_icmp .eq 883, 3) := by decide +kernel
theorem dL_law_265 : decode cL_law 265 = .ok (.iconst 0, 1) := by decide +kernel
theorem dL_law_266 : decode cL_law 266 = .ok (.ireturn, 1) := by decide +kernel
theorem dL_law_267 : decode cL_law 267 = .ok (.aload_n 1, 1) := by decide +kernel
theorem dL_law_268 : decode cL_law 268 = .ok (.aload_n 0, 1) := by decide +kernel
theorem dL_law_269 : decode cL_law 269 = .ok (.iload_n 3, 1) := by decide +kernel
theorem dL_law_270 : decode cL_law 270 = .ok (.iconst 1, 1) := by decide +kernel
theorem dL_law_271 : decode cL_law 271 = .ok (.iadd, 1) := by decide +kernel
theorem dL_law_272 : decode cL_law 272 = .ok (.iaload, 1) := by decide +kernel
theorem dL_law_273 : decode cL_law 273 = .ok (.aload_n 0, 1) := by decide +kernel
theorem dL_law_274 : decode cL_law 274 = .ok (.iload_n 3, 1) := by decide +kernel
theorem dL_law_275 : decode cL_law 275 = .ok (.iconst 2, 1) := by decide +kernel
theorem dL_law_276 : decode cL_law 276 = .ok (.iadd, 1) := by decide +kernel
theorem dL_law_277 : decode cL_law 277 = .ok (.iaload, 1) := by decide +kernel
theorem dL_law_278 : decode cL_law 278 = .ok (.invokevirtual 28, 3) := by decide +kernel
theorem dL_law_281 : decode cL_law 281 = .ok (.aload_n 2, 1) := by decide +kernel
theorem dL_law_282 : decode cL_law 282 = .ok (.aload_n 0, 1) := by decide +kernel
theorem dL_law_283 : decode cL_law 283 = .ok (.iload_n 3, 1) := by decide +kernel
theorem dL_law_284 : decode cL_law 284 = .ok (.iconst 1, 1) := by decide +kernel
theorem dL_law_285 : decode cL_law 285 = .ok (.iadd, 1) := by decide +kernel
theorem dL_law_286 : decode cL_law 286 = .ok (.iaload, 1) := by decide +kernel
theorem dL_law_287 : decode cL_law 287 = .ok (.aload_n 0, 1) := by decide +kernel
theorem dL_law_288 : decode cL_law 288 = .ok (.iload_n 3, 1) := by decide +kernel
theorem dL_law_289 : decode cL_law 289 = .ok (.iconst 2, 1) := by decide +kernel
theorem dL_law_290 : decode cL_law 290 = .ok (.iadd, 1) := by decide +kernel
theorem dL_law_291 : decode cL_law 291 = .ok (.iaload, 1) := by decide +kernel
theorem dL_law_292 : decode cL_law 292 = .ok (.invokevirtual 32, 3) := by decide +kernel
theorem dL_law_295 : decode cL_law 295 = .ok (.if_icmp .eq 850, 3) := by decide +kernel
theorem dL_law_298 : decode cL_law 298 = .ok (.iconst 0, 1) := by decide +kernel
theorem dL_law_299 : decode cL_law 299 = .ok (.ireturn, 1) := by decide +kernel
theorem dL_law_300 : decode cL_law 300 = .ok (.aload_n 1, 1) := by decide +kernel
theorem dL_law_301 : decode cL_law 301 = .ok (.aload_n 0, 1) := by decide +kernel
theorem dL_law_302 : decode cL_law 302 = .ok (.iload_n 3, 1) := by decide +kernel
theorem dL_law_303 : decode cL_law 303 = .ok (.iconst 1, 1) := by decide +kernel
theorem dL_law_304 : decode cL_law 304 = .ok (.iadd, 1) := by decide +kernel
theorem dL_law_305 : decode cL_law 305 = .ok (.iaload, 1) := by decide +kernel
theorem dL_law_306 : decode cL_law 306 = .ok (.aload_n 0, 1) := by decide +kernel
theorem dL_law_307 : decode cL_law 307 = .ok (.iload_n 3, 1) := by decide +kernel
theorem dL_law_308 : decode cL_law 308 = .ok (.iconst 2, 1) := by decide +kernel
theorem dL_law_309 : decode cL_law 309 = .ok (.iadd, 1) := by decide +kernel
theorem dL_law_310 : decode cL_law 310 = .ok (.iaload, 1) := by decide +kernel
theorem dL_law_311 : decode cL_law 311 = .ok (.invokevirtual 33, 3) := by decide +kernel
theorem dL_law_314 : decode cL_law 314 = .ok (.aload_n 2, 1) := by decide +kernel
theorem dL_law_315 : decode cL_law 315 = .ok (.aload_n 0, 1) := by decide +kernel
theorem dL_law_316 : decode cL_law 316 = .ok (.iload_n 3, 1) := by decide +kernel
theorem dL_law_317 : decode cL_law 317 = .ok (.iconst 1, 1) := by decide +kernel
theorem dL_law_318 : decode cL_law 318 = .ok (.iadd, 1) := by decide +kernel
theorem dL_law_319 : decode cL_law 319 = .ok (.iaload, 1) := by decide +kernel
theorem dL_law_320 : decode cL_law 320 = .ok (.aload_n 0, 1) := by decide +kernel
theorem dL_law_321 : decode cL_law 321 = .ok (.iload_n 3, 1) := by decide +kernel
theorem dL_law_322 : decode cL_law 322 = .ok (.iconst 2, 1) := by decide +kernel
theorem dL_law_323 : decode cL_law 323 = .ok (.iadd, 1) := by decide +kernel
theorem dL_law_324 : decode cL_law 324 = .ok (.iaload, 1) := by decide +kernel
theorem dL_law_325 : decode cL_law 325 = .ok (.invokevirtual 36, 3) := by decide +kernel
theorem dL_law_328 : decode cL_law 328 = .ok (.if_icmp .eq 817, 3) := by decide +kernel
theorem dL_law_331 : decode cL_law 331 = .ok (.iconst 0, 1) := by decide +kernel
theorem dL_law_332 : decode cL_law 332 = .ok (.ireturn, 1) := by decide +kernel
theorem dL_law_333 : decode cL_law 333 = .ok (.aload_n 1, 1) := by decide +kernel
theorem dL_law_334 : decode cL_law 334 = .ok (.aload_n 0, 1) := by decide +kernel
theorem dL_law_335 : decode cL_law 335 = .ok (.iload_n 3, 1) := by decide +kernel
theorem dL_law_336 : decode cL_law 336 = .ok (.iconst 1, 1) := by decide +kernel
theorem dL_law_337 : decode cL_law 337 = .ok (.iadd, 1) := by decide +kernel
theorem dL_law_338 : decode cL_law 338 = .ok (.iaload, 1) := by decide +kernel
theorem dL_law_339 : decode cL_law 339 = .ok (.aload_n 0, 1) := by decide +kernel
theorem dL_law_340 : decode cL_law 340 = .ok (.iload_n 3, 1) := by decide +kernel
theorem dL_law_341 : decode cL_law 341 = .ok (.iconst 2, 1) := by decide +kernel
theorem dL_law_342 : decode cL_law 342 = .ok (.iadd, 1) := by decide +kernel
theorem dL_law_343 : decode cL_law 343 = .ok (.iaload, 1) := by decide +kernel
theorem dL_law_344 : decode cL_law 344 = .ok (.invokevirtual 37, 3) := by decide +kernel
theorem dL_law_347 : decode cL_law 347 = .ok (.aload_n 2, 1) := by decide +kernel
theorem dL_law_348 : decode cL_law 348 = .ok (.aload_n 0, 1) := by decide +kernel
theorem dL_law_349 : decode cL_law 349 = .ok (.iload_n 3, 1) := by decide +kernel
theorem dL_law_350 : decode cL_law 350 = .ok (.iconst 1, 1) := by decide +kernel
theorem dL_law_351 : decode cL_law 351 = .ok (.iadd, 1) := by decide +kernel
theorem dL_law_352 : decode cL_law 352 = .ok (.iaload, 1) := by decide +kernel
theorem dL_law_353 : decode cL_law 353 = .ok (.aload_n 0, 1) := by decide +kernel
theorem dL_law_354 : decode cL_law 354 = .ok (.iload_n 3, 1) := by decide +kernel
theorem dL_law_355 : decode cL_law 355 = .ok (.iconst 2, 1) := by decide +kernel
theorem dL_law_356 : decode cL_law 356 = .ok (.iadd, 1) := by decide +kernel
theorem dL_law_357 : decode cL_law 357 = .ok (.iaload, 1) := by decide +kernel
theorem dL_law_358 : decode cL_law 358 = .ok (.invokevirtual 40, 3) := by decide +kernel
theorem dL_law_361 : decode cL_law 361 = .ok (.if_icmp .eq 784, 3) := by decide +kernel
theorem dL_law_364 : decode cL_law 364 = .ok (.iconst 0, 1) := by decide +kernel
theorem dL_law_365 : decode cL_law 365 = .ok (.ireturn, 1) := by decide +kernel
theorem dL_law_366 : decode cL_law 366 = .ok (.aload_n 1, 1) := by decide +kernel
theorem dL_law_367 : decode cL_law 367 = .ok (.aload_n 0, 1) := by decide +kernel
theorem dL_law_368 : decode cL_law 368 = .ok (.iload_n 3, 1) := by decide +kernel
theorem dL_law_369 : decode cL_law 369 = .ok (.iconst 1, 1) := by decide +kernel
theorem dL_law_370 : decode cL_law 370 = .ok (.iadd, 1) := by decide +kernel
theorem dL_law_371 : decode cL_law 371 = .ok (.iaload, 1) := by decide +kernel
theorem dL_law_372 : decode cL_law 372 = .ok (.invokevirtual 41, 3) := by decide +kernel
theorem dL_law_375 : decode cL_law 375 = .ok (.aload_n 2, 1) := by decide +kernel
theorem dL_law_376 : decode cL_law 376 = .ok (.aload_n 0, 1) := by decide +kernel
theorem dL_law_377 : decode cL_law 377 = .ok (.iload_n 3, 1) := by decide +kernel
theorem dL_law_378 : decode cL_law 378 = .ok (.iconst 1, 1) := by decide +kernel
theorem dL_law_379 : decode cL_law 379 = .ok (.iadd, 1) := by decide +kernel
theorem dL_law_380 : decode cL_law 380 = .ok (.iaload, 1) := by decide +kernel
theorem dL_law_381 : decode cL_law 381 = .ok (.invokevirtual 44, 3) := by decide +kernel
theorem dL_law_384 : decode cL_law 384 = .ok (.if_icmp .eq 761, 3) := by decide +kernel
theorem dL_law_387 : decode cL_law 387 = .ok (.iconst 0, 1) := by decide +kernel
theorem dL_law_388 : decode cL_law 388 = .ok (.ireturn, 1) := by decide +kernel
theorem dL_law_389 : decode cL_law 389 = .ok (.aload_n 1, 1) := by decide +kernel
theorem dL_law_390 : decode cL_law 390 = .ok (.invokevirtual 45, 3) := by decide +kernel
theorem dL_law_393 : decode cL_law 393 = .ok (.aload_n 2, 1) := by decide +kernel
theorem dL_law_394 : decode cL_law 394 = .ok (.invokevirtual 48, 3) := by decide +kernel
theorem dL_law_397 : decode cL_law 397 = .ok (.if_icmp .eq 748, 3) := by decide +kernel
theorem dL_law_400 : decode cL_law 400 = .ok (.iconst 0, 1) := by decide +kernel
theorem dL_law_401 : decode cL_law 401 = .ok (.ireturn, 1) := by decide +kernel
theorem dL_law_402 : decode cL_law 402 = .ok (.aload_n 1, 1) := by decide +kernel
theorem dL_law_403 : decode cL_law 403 = .ok (.invokevirtual 49, 3) := by decide +kernel
theorem dL_law_406 : decode cL_law 406 = .ok (.aload_n 2, 1) := by decide +kernel
theorem dL_law_407 : decode cL_law 407 = .ok (.invokevirtual 52, 3) := by decide +kernel
theorem dL_law_410 : decode cL_law 410 = .ok (.if_icmp .eq 735, 3) := by decide +kernel
theorem dL_law_413 : decode cL_law 413 = .ok (.iconst 0, 1) := by decide +kernel
theorem dL_law_414 : decode cL_law 414 = .ok (.ireturn, 1) := by decide +kernel
theorem dL_law_415 : decode cL_law 415 = .ok (.aload_n 1, 1) := by decide +kernel
theorem dL_law_416 : decode cL_law 416 = .ok (.aload_n 0, 1) := by decide +kernel
theorem dL_law_417 : decode cL_law 417 = .ok (.iload_n 3, 1) := by decide +kernel
theorem dL_law_418 : decode cL_law 418 = .ok (.iconst 1, 1) := by decide +kernel
theorem dL_law_419 : decode cL_law 419 = .ok (.iadd, 1) := by decide +kernel
theorem dL_law_420 : decode cL_law 420 = .ok (.iaload, 1) := by decide +kernel
theorem dL_law_421 : decode cL_law 421 = .ok (.aload_n 0, 1) := by decide +kernel
theorem dL_law_422 : decode cL_law 422 = .ok (.iload_n 3, 1) := by decide +kernel
theorem dL_law_423 : decode cL_law 423 = .ok (.iconst 2, 1) := by decide +kernel
theorem dL_law_424 : decode cL_law 424 = .ok (.iadd, 1) := by decide +kernel
theorem dL_law_425 : decode cL_law 425 = .ok (.iaload, 1) := by decide +kernel
theorem dL_law_426 : decode cL_law 426 = .ok (.aload_n 0, 1) := by decide +kernel
theorem dL_law_427 : decode cL_law 427 = .ok (.iload_n 3, 1) := by decide +kernel
theorem dL_law_428 : decode cL_law 428 = .ok (.iconst 3, 1) := by decide +kernel
theorem dL_law_429 : decode cL_law 429 = .ok (.iadd, 1) := by decide +kernel
theorem dL_law_430 : decode cL_law 430 = .ok (.iaload, 1) := by decide +kernel
theorem dL_law_431 : decode cL_law 431 = .ok (.invokevirtual 53, 3) := by decide +kernel
theorem dL_law_434 : decode cL_law 434 = .ok (.aload_n 2, 1) := by decide +kernel
theorem dL_law_435 : decode cL_law 435 = .ok (.aload_n 0, 1) := by decide +kernel
theorem dL_law_436 : decode cL_law 436 = .ok (.iload_n 3, 1) := by decide +kernel
theorem dL_law_437 : decode cL_law 437 = .ok (.iconst 1, 1) := by decide +kernel
theorem dL_law_438 : decode cL_law 438 = .ok (.iadd, 1) := by decide +kernel
theorem dL_law_439 : decode cL_law 439 = .ok (.iaload, 1) := by decide +kernel
theorem dL_law_440 : decode cL_law 440 = .ok (.aload_n 0, 1) := by decide +kernel
theorem dL_law_441 : decode cL_law 441 = .ok (.iload_n 3, 1) := by decide +kernel
theorem dL_law_442 : decode cL_law 442 = .ok (.iconst 2, 1) := by decide +kernel
theorem dL_law_443 : decode cL_law 443 = .ok (.iadd, 1) := by decide +kernel
theorem dL_law_444 : decode cL_law 444 = .ok (.iaload, 1) := by decide +kernel
theorem dL_law_445 : decode cL_law 445 = .ok (.aload_n 0, 1) := by decide +kernel
theorem dL_law_446 : decode cL_law 446 = .ok (.iload_n 3, 1) := by decide +kernel
theorem dL_law_447 : decode cL_law 447 = .ok (.iconst 3, 1) := by decide +kernel
theorem dL_law_448 : decode cL_law 448 = .ok (.iadd, 1) := by decide +kernel
theorem dL_law_449 : decode cL_law 449 = .ok (.iaload, 1) := by decide +kernel
theorem dL_law_450 : decode cL_law 450 = .ok (.invokevirtual 56, 3) := by decide +kernel
theorem dL_law_453 : decode cL_law 453 = .ok (.if_icmp .eq 692, 3) := by decide +kernel
theorem dL_law_456 : decode cL_law 456 = .ok (.iconst 0, 1) := by decide +kernel
theorem dL_law_457 : decode cL_law 457 = .ok (.ireturn, 1) := by decide +kernel
theorem dL_law_458 : decode cL_law 458 = .ok (.aload_n 1, 1) := by decide +kernel
theorem dL_law_459 : decode cL_law 459 = .ok (.aload_n 0, 1) := by decide +kernel
theorem dL_law_460 : decode cL_law 460 = .ok (.iload_n 3, 1) := by decide +kernel
theorem dL_law_461 : decode cL_law 461 = .ok (.iconst 1, 1) := by decide +kernel
theorem dL_law_462 : decode cL_law 462 = .ok (.iadd, 1) := by decide +kernel
theorem dL_law_463 : decode cL_law 463 = .ok (.iaload, 1) := by decide +kernel
theorem dL_law_464 : decode cL_law 464 = .ok (.aload_n 0, 1) := by decide +kernel
theorem dL_law_465 : decode cL_law 465 = .ok (.iload_n 3, 1) := by decide +kernel
theorem dL_law_466 : decode cL_law 466 = .ok (.iconst 2, 1) := by decide +kernel
theorem dL_law_467 : decode cL_law 467 = .ok (.iadd, 1) := by decide +kernel
theorem dL_law_468 : decode cL_law 468 = .ok (.iaload, 1) := by decide +kernel
theorem dL_law_469 : decode cL_law 469 = .ok (.invokevirtual 57, 3) := by decide +kernel
theorem dL_law_472 : decode cL_law 472 = .ok (.aload_n 2, 1) := by decide +kernel
theorem dL_law_473 : decode cL_law 473 = .ok (.aload_n 0, 1) := by decide +kernel
theorem dL_law_474 : decode cL_law 474 = .ok (.iload_n 3, 1) := by decide +kernel
theorem dL_law_475 : decode cL_law 475 = .ok (.iconst 1, 1) := by decide +kernel
theorem dL_law_476 : decode cL_law 476 = .ok (.iadd, 1) := by decide +kernel
theorem dL_law_477 : decode cL_law 477 = .ok (.iaload, 1) := by decide +kernel
theorem dL_law_478 : decode cL_law 478 = .ok (.aload_n 0, 1) := by decide +kernel
theorem dL_law_479 : decode cL_law 479 = .ok (.iload_n 3, 1) := by decide +kernel
theorem dL_law_480 : decode cL_law 480 = .ok (.iconst 2, 1) := by decide +kernel
theorem dL_law_481 : decode cL_law 481 = .ok (.iadd, 1) := by decide +kernel
theorem dL_law_482 : decode cL_law 482 = .ok (.iaload, 1) := by decide +kernel
theorem dL_law_483 : decode cL_law 483 = .ok (.invokevirtual 60, 3) := by decide +kernel
theorem dL_law_486 : decode cL_law 486 = .ok (.if_icmp .eq 659, 3) := by decide +kernel
theorem dL_law_489 : decode cL_law 489 = .ok (.iconst 0, 1) := by decide +kernel
theorem dL_law_490 : decode cL_law 490 = .ok (.ireturn, 1) := by decide +kernel
theorem dL_law_491 : decode cL_law 491 = .ok (.aload_n 1, 1) := by decide +kernel
theorem dL_law_492 : decode cL_law 492 = .ok (.aload_n 0, 1) := by decide +kernel
theorem dL_law_493 : decode cL_law 493 = .ok (.iload_n 3, 1) := by decide +kernel
theorem dL_law_494 : decode cL_law 494 = .ok (.iconst 1, 1) := by decide +kernel
theorem dL_law_495 : decode cL_law 495 = .ok (.iadd, 1) := by decide +kernel
theorem dL_law_496 : decode cL_law 496 = .ok (.iaload, 1) := by decide +kernel
theorem dL_law_497 : decode cL_law 497 = .ok (.aload_n 0, 1) := by decide +kernel
theorem dL_law_498 : decode cL_law 498 = .ok (.iload_n 3, 1) := by decide +kernel
theorem dL_law_499 : decode cL_law 499 = .ok (.iconst 2, 1) := by decide +kernel
theorem dL_law_500 : decode cL_law 500 = .ok (.iadd, 1) := by decide +kernel
theorem dL_law_501 : decode cL_law 501 = .ok (.iaload, 1) := by decide +kernel
theorem dL_law_502 : decode cL_law 502 = .ok (.invokevirtual 61, 3) := by decide +kernel
theorem dL_law_505 : decode cL_law 505 = .ok (.aload_n 2, 1) := by decide +kernel
theorem dL_law_506 : decode cL_law 506 = .ok (.aload_n 0, 1) := by decide +kernel
theorem dL_law_507 : decode cL_law 507 = .ok (.iload_n 3, 1) := by decide +kernel
theorem dL_law_508 : decode cL_law 508 = .ok (.iconst 1, 1) := by decide +kernel
theorem dL_law_509 : decode cL_law 509 = .ok (.iadd, 1) := by decide +kernel
theorem dL_law_510 : decode cL_law 510 = .ok (.iaload, 1) := by decide +kernel
theorem dL_law_511 : decode cL_law 511 = .ok (.aload_n 0, 1) := by decide +kernel
theorem dL_law_512 : decode cL_law 512 = .ok (.iload_n 3, 1) := by decide +kernel
theorem dL_law_513 : decode cL_law 513 = .ok (.iconst 2, 1) := by decide +kernel
theorem dL_law_514 : decode cL_law 514 = .ok (.iadd, 1) := by decide +kernel
theorem dL_law_515 : decode cL_law 515 = .ok (.iaload, 1) := by decide +kernel
theorem dL_law_516 : decode cL_law 516 = .ok (.invokevirtual 64, 3) := by decide +kernel
theorem dL_law_519 : decode cL_law 519 = .ok (.if_icmp .eq 626, 3) := by decide +kernel
theorem dL_law_522 : decode cL_law 522 = .ok (.iconst 0, 1) := by decide +kernel
theorem dL_law_523 : decode cL_law 523 = .ok (.ireturn, 1) := by decide +kernel
theorem dL_law_524 : decode cL_law 524 = .ok (.aload_n 1, 1) := by decide +kernel
theorem dL_law_525 : decode cL_law 525 = .ok (.aload_n 0, 1) := by decide +kernel
theorem dL_law_526 : decode cL_law 526 = .ok (.iload_n 3, 1) := by decide +kernel
theorem dL_law_527 : decode cL_law 527 = .ok (.iconst 1, 1) := by decide +kernel
theorem dL_law_528 : decode cL_law 528 = .ok (.iadd, 1) := by decide +kernel
theorem dL_law_529 : decode cL_law 529 = .ok (.iaload, 1) := by decide +kernel
theorem dL_law_530 : decode cL_law 530 = .ok (.aload_n 0, 1) := by decide +kernel
theorem dL_law_531 : decode cL_law 531 = .ok (.iload_n 3, 1) := by decide +kernel
theorem dL_law_532 : decode cL_law 532 = .ok (.iconst 2, 1) := by decide +kernel
theorem dL_law_533 : decode cL_law 533 = .ok (.iadd, 1) := by decide +kernel
theorem dL_law_534 : decode cL_law 534 = .ok (.iaload, 1) := by decide +kernel
theorem dL_law_535 : decode cL_law 535 = .ok (.aload_n 0, 1) := by decide +kernel
theorem dL_law_536 : decode cL_law 536 = .ok (.iload_n 3, 1) := by decide +kernel
theorem dL_law_537 : decode cL_law 537 = .ok (.iconst 3, 1) := by decide +kernel
theorem dL_law_538 : decode cL_law 538 = .ok (.iadd, 1) := by decide +kernel
theorem dL_law_539 : decode cL_law 539 = .ok (.iaload, 1) := by decide +kernel
theorem dL_law_540 : decode cL_law 540 = .ok (.invokevirtual 65, 3) := by decide +kernel
theorem dL_law_543 : decode cL_law 543 = .ok (.aload_n 2, 1) := by decide +kernel
theorem dL_law_544 : decode cL_law 544 = .ok (.aload_n 0, 1) := by decide +kernel
theorem dL_law_545 : decode cL_law 545 = .ok (.iload_n 3, 1) := by decide +kernel
theorem dL_law_546 : decode cL_law 546 = .ok (.iconst 1, 1) := by decide +kernel
theorem dL_law_547 : decode cL_law 547 = .ok (.iadd, 1) := by decide +kernel
theorem dL_law_548 : decode cL_law 548 = .ok (.iaload, 1) := by decide +kernel
theorem dL_law_549 : decode cL_law 549 = .ok (.aload_n 0, 1) := by decide +kernel
theorem dL_law_550 : decode cL_law 550 = .ok (.iload_n 3, 1) := by decide +kernel
theorem dL_law_551 : decode cL_law 551 = .ok (.iconst 2, 1) := by decide +kernel
theorem dL_law_552 : decode cL_law 552 = .ok (.iadd, 1) := by decide +kernel
theorem dL_law_553 : decode cL_law 553 = .ok (.iaload, 1) := by decide +kernel
theorem dL_law_554 : decode cL_law 554 = .ok (.aload_n 0, 1) := by decide +kernel
theorem dL_law_555 : decode cL_law 555 = .ok (.iload_n 3, 1) := by decide +kernel
theorem dL_law_556 : decode cL_law 556 = .ok (.iconst 3, 1) := by decide +kernel
theorem dL_law_557 : decode cL_law 557 = .ok (.iadd, 1) := by decide +kernel
theorem dL_law_558 : decode cL_law 558 = .ok (.iaload, 1) := by decide +kernel
theorem dL_law_559 : decode cL_law 559 = .ok (.invokevirtual 68, 3) := by decide +kernel
theorem dL_law_562 : decode cL_law 562 = .ok (.if_icmp .eq 583, 3) := by decide +kernel
theorem dL_law_565 : decode cL_law 565 = .ok (.iconst 0, 1) := by decide +kernel
theorem dL_law_566 : decode cL_law 566 = .ok (.ireturn, 1) := by decide +kernel
theorem dL_law_567 : decode cL_law 567 = .ok (.aload_n 1, 1) := by decide +kernel
theorem dL_law_568 : decode cL_law 568 = .ok (.aload_n 0, 1) := by decide +kernel
theorem dL_law_569 : decode cL_law 569 = .ok (.iload_n 3, 1) := by decide +kernel
theorem dL_law_570 : decode cL_law 570 = .ok (.iconst 1, 1) := by decide +kernel
theorem dL_law_571 : decode cL_law 571 = .ok (.iadd, 1) := by decide +kernel
theorem dL_law_572 : decode cL_law 572 = .ok (.iaload, 1) := by decide +kernel
theorem dL_law_573 : decode cL_law 573 = .ok (.aload_n 0, 1) := by decide +kernel
theorem dL_law_574 : decode cL_law 574 = .ok (.iload_n 3, 1) := by decide +kernel
theorem dL_law_575 : decode cL_law 575 = .ok (.iconst 2, 1) := by decide +kernel
theorem dL_law_576 : decode cL_law 576 = .ok (.iadd, 1) := by decide +kernel
theorem dL_law_577 : decode cL_law 577 = .ok (.iaload, 1) := by decide +kernel
theorem dL_law_578 : decode cL_law 578 = .ok (.aload_n 0, 1) := by decide +kernel
theorem dL_law_579 : decode cL_law 579 = .ok (.iload_n 3, 1) := by decide +kernel
theorem dL_law_580 : decode cL_law 580 = .ok (.iconst 3, 1) := by decide +kernel
theorem dL_law_581 : decode cL_law 581 = .ok (.iadd, 1) := by decide +kernel
theorem dL_law_582 : decode cL_law 582 = .ok (.iaload, 1) := by decide +kernel
theorem dL_law_583 : decode cL_law 583 = .ok (.invokevirtual 69, 3) := by decide +kernel
theorem dL_law_586 : decode cL_law 586 = .ok (.aload_n 2, 1) := by decide +kernel
theorem dL_law_587 : decode cL_law 587 = .ok (.aload_n 0, 1) := by decide +kernel
theorem dL_law_588 : decode cL_law 588 = .ok (.iload_n 3, 1) := by decide +kernel
theorem dL_law_589 : decode cL_law 589 = .ok (.iconst 1, 1) := by decide +kernel
theorem dL_law_590 : decode cL_law 590 = .ok (.iadd, 1) := by decide +kernel
theorem dL_law_591 : decode cL_law 591 = .ok (.iaload, 1) := by decide +kernel
theorem dL_law_592 : decode cL_law 592 = .ok (.aload_n 0, 1) := by decide +kernel
theorem dL_law_593 : decode cL_law 593 = .ok (.iload_n 3, 1) := by decide +kernel
theorem dL_law_594 : decode cL_law 594 = .ok (.iconst 2, 1) := by decide +kernel
theorem dL_law_595 : decode cL_law 595 = .ok (.iadd, 1) := by decide +kernel
theorem dL_law_596 : decode cL_law 596 = .ok (.iaload, 1) := by decide +kernel
theorem dL_law_597 : decode cL_law 597 = .ok (.aload_n 0, 1) := by decide +kernel
theorem dL_law_598 : decode cL_law 598 = .ok (.iload_n 3, 1) := by decide +kernel
theorem dL_law_599 : decode cL_law 599 = .ok (.iconst 3, 1) := by decide +kernel
theorem dL_law_600 : decode cL_law 600 = .ok (.iadd, 1) := by decide +kernel
theorem dL_law_601 : decode cL_law 601 = .ok (.iaload, 1) := by decide +kernel
theorem dL_law_602 : decode cL_law 602 = .ok (.invokevirtual 72, 3) := by decide +kernel
theorem dL_law_605 : decode cL_law 605 = .ok (.if_icmp .eq 540, 3) := by decide +kernel
theorem dL_law_608 : decode cL_law 608 = .ok (.iconst 0, 1) := by decide +kernel
theorem dL_law_609 : decode cL_law 609 = .ok (.ireturn, 1) := by decide +kernel
theorem dL_law_610 : decode cL_law 610 = .ok (.aload_n 1, 1) := by decide +kernel
theorem dL_law_611 : decode cL_law 611 = .ok (.aload_n 0, 1) := by decide +kernel
theorem dL_law_612 : decode cL_law 612 = .ok (.iload_n 3, 1) := by decide +kernel
theorem dL_law_613 : decode cL_law 613 = .ok (.iconst 1, 1) := by decide +kernel
theorem dL_law_614 : decode cL_law 614 = .ok (.iadd, 1) := by decide +kernel
theorem dL_law_615 : decode cL_law 615 = .ok (.iaload, 1) := by decide +kernel
theorem dL_law_616 : decode cL_law 616 = .ok (.invokevirtual 73, 3) := by decide +kernel
theorem dL_law_619 : decode cL_law 619 = .ok (.aload_n 2, 1) := by decide +kernel
theorem dL_law_620 : decode cL_law 620 = .ok (.aload_n 0, 1) := by decide +kernel
theorem dL_law_621 : decode cL_law 621 = .ok (.iload_n 3, 1) := by decide +kernel
theorem dL_law_622 : decode cL_law 622 = .ok (.iconst 1, 1) := by decide +kernel
theorem dL_law_623 : decode cL_law 623 = .ok (.iadd, 1) := by decide +kernel
theorem dL_law_624 : decode cL_law 624 = .ok (.iaload, 1) := by decide +kernel
theorem dL_law_625 : decode cL_law 625 = .ok (.invokevirtual 76, 3) := by decide +kernel
theorem dL_law_628 : decode cL_law 628 = .ok (.if_icmp .eq 517, 3) := by decide +kernel
theorem dL_law_631 : decode cL_law 631 = .ok (.iconst 0, 1) := by decide +kernel
theorem dL_law_632 : decode cL_law 632 = .ok (.ireturn, 1) := by decide +kernel
theorem dL_law_633 : decode cL_law 633 = .ok (.aload_n 1, 1) := by decide +kernel
theorem dL_law_634 : decode cL_law 634 = .ok (.aload_n 0, 1) := by decide +kernel
theorem dL_law_635 : decode cL_law 635 = .ok (.iload_n 3, 1) := by decide +kernel
theorem dL_law_636 : decode cL_law 636 = .ok (.iconst 1, 1) := by decide +kernel
theorem dL_law_637 : decode cL_law 637 = .ok (.iadd, 1) := by decide +kernel
theorem dL_law_638 : decode cL_law 638 = .ok (.iaload, 1) := by decide +kernel
theorem dL_law_639 : decode cL_law 639 = .ok (.invokevirtual 77, 3) := by decide +kernel
theorem dL_law_642 : decode cL_law 642 = .ok (.aload_n 2, 1) := by decide +kernel
theorem dL_law_643 : decode cL_law 643 = .ok (.aload_n 0, 1) := by decide +kernel
theorem dL_law_644 : decode cL_law 644 = .ok (.iload_n 3, 1) := by decide +kernel
theorem dL_law_645 : decode cL_law 645 = .ok (.iconst 1, 1) := by decide +kernel
theorem dL_law_646 : decode cL_law 646 = .ok (.iadd, 1) := by decide +kernel
theorem dL_law_647 : decode cL_law 647 = .ok (.iaload, 1) := by decide +kernel
theorem dL_law_648 : decode cL_law 648 = .ok (.invokevirtual 80, 3) := by decide +kernel
theorem dL_law_651 : decode cL_law 651 = .ok (.if_icmp .eq 494, 3) := by decide +kernel
theorem dL_law_654 : decode cL_law 654 = .ok (.iconst 0, 1) := by decide +kernel
theorem dL_law_655 : decode cL_law 655 = .ok (.ireturn, 1) := by decide +kernel
theorem dL_law_656 : decode cL_law 656 = .ok (.aload_n 1, 1) := by decide +kernel
theorem dL_law_657 : decode cL_law 657 = .ok (.aload_n 0, 1) := by decide +kernel
theorem dL_law_658 : decode cL_law 658 = .ok (.iload_n 3, 1) := by decide +kernel
theorem dL_law_659 : decode cL_law 659 = .ok (.iconst 1, 1) := by decide +kernel
theorem dL_law_660 : decode cL_law 660 = .ok (.iadd, 1) := by decide +kernel
theorem dL_law_661 : decode cL_law 661 = .ok (.iaload, 1) := by decide +kernel
theorem dL_law_662 : decode cL_law 662 = .ok (.aload_n 0, 1) := by decide +kernel
theorem dL_law_663 : decode cL_law 663 = .ok (.iload_n 3, 1) := by decide +kernel
theorem dL_law_664 : decode cL_law 664 = .ok (.iconst 2, 1) := by decide +kernel
theorem dL_law_665 : decode cL_law 665 = .ok (.iadd, 1) := by decide +kernel
theorem dL_law_666 : decode cL_law 666 = .ok (.iaload, 1) := by decide +kernel
theorem dL_law_667 : decode cL_law 667 = .ok (.invokevirtual 81, 3) := by decide +kernel
theorem dL_law_670 : decode cL_law 670 = .ok (.aload_n 2, 1) := by decide +kernel
theorem dL_law_671 : decode cL_law 671 = .ok (.aload_n 0, 1) := by decide +kernel
theorem dL_law_672 : decode cL_law 672 = .ok (.iload_n 3, 1) := by decide +kernel
theorem dL_law_673 : decode cL_law 673 = .ok (.iconst 1, 1) := by decide +kernel
theorem dL_law_674 : decode cL_law 674 = .ok (.iadd, 1) := by decide +kernel
theorem dL_law_675 : decode cL_law 675 = .ok (.iaload, 1) := by decide +kernel
theorem dL_law_676 : decode cL_law 676 = .ok (.aload_n 0, 1) := by decide +kernel
theorem dL_law_677 : decode cL_law 677 = .ok (.iload_n 3, 1) := by decide +kernel
theorem dL_law_678 : decode cL_law 678 = .ok (.iconst 2, 1) := by decide +kernel
theorem dL_law_679 : decode cL_law 679 = .ok (.iadd, 1) := by decide +kernel
theorem dL_law_680 : decode cL_law 680 = .ok (.iaload, 1) := by decide +kernel
theorem dL_law_681 : decode cL_law 681 = .ok (.invokevirtual 84, 3) := by decide +kernel
theorem dL_law_684 : decode cL_law 684 = .ok (.if_icmp .eq 461, 3) := by decide +kernel
theorem dL_law_687 : decode cL_law 687 = .ok (.iconst 0, 1) := by decide +kernel
theorem dL_law_688 : decode cL_law 688 = .ok (.ireturn, 1) := by decide +kernel
theorem dL_law_689 : decode cL_law 689 = .ok (.aload_n 1, 1) := by decide +kernel
theorem dL_law_690 : decode cL_law 690 = .ok (.aload_n 0, 1) := by decide +kernel
theorem dL_law_691 : decode cL_law 691 = .ok (.iload_n 3, 1) := by decide +kernel
theorem dL_law_692 : decode cL_law 692 = .ok (.iconst 1, 1) := by decide +kernel
theorem dL_law_693 : decode cL_law 693 = .ok (.iadd, 1) := by decide +kernel
theorem dL_law_694 : decode cL_law 694 = .ok (.iaload, 1) := by decide +kernel
theorem dL_law_695 : decode cL_law 695 = .ok (.invokevirtual 85, 3) := by decide +kernel
theorem dL_law_698 : decode cL_law 698 = .ok (.aload_n 2, 1) := by decide +kernel
theorem dL_law_699 : decode cL_law 699 = .ok (.aload_n 0, 1) := by decide +kernel
theorem dL_law_700 : decode cL_law 700 = .ok (.iload_n 3, 1) := by decide +kernel
theorem dL_law_701 : decode cL_law 701 = .ok (.iconst 1, 1) := by decide +kernel
theorem dL_law_702 : decode cL_law 702 = .ok (.iadd, 1) := by decide +kernel
theorem dL_law_703 : decode cL_law 703 = .ok (.iaload, 1) := by decide +kernel
theorem dL_law_704 : decode cL_law 704 = .ok (.invokevirtual 88, 3) := by decide +kernel
theorem dL_law_707 : decode cL_law 707 = .ok (.if_icmp .eq 438, 3) := by decide +kernel
theorem dL_law_710 : decode cL_law 710 = .ok (.iconst 0, 1) := by decide +kernel
theorem dL_law_711 : decode cL_law 711 = .ok (.ireturn, 1) := by decide +kernel
theorem dL_law_712 : decode cL_law 712 = .ok (.aload_n 1, 1) := by decide +kernel
theorem dL_law_713 : decode cL_law 713 = .ok (.aload_n 0, 1) := by decide +kernel
theorem dL_law_714 : decode cL_law 714 = .ok (.iload_n 3, 1) := by decide +kernel
theorem dL_law_715 : decode cL_law 715 = .ok (.iconst 1, 1) := by decide +kernel
theorem dL_law_716 : decode cL_law 716 = .ok (.iadd, 1) := by decide +kernel
theorem dL_law_717 : decode cL_law 717 = .ok (.iaload, 1) := by decide +kernel
theorem dL_law_718 : decode cL_law 718 = .ok (.invokevirtual 89, 3) := by decide +kernel
theorem dL_law_721 : decode cL_law 721 = .ok (.aload_n 2, 1) := by decide +kernel
theorem dL_law_722 : decode cL_law 722 = .ok (.aload_n 0, 1) := by decide +kernel
theorem dL_law_723 : decode cL_law 723 = .ok (.iload_n 3, 1) := by decide +kernel
theorem dL_law_724 : decode cL_law 724 = .ok (.iconst 1, 1) := by decide +kernel
theorem dL_law_725 : decode cL_law 725 = .ok (.iadd, 1) := by decide +kernel
theorem dL_law_726 : decode cL_law 726 = .ok (.iaload, 1) := by decide +kernel
theorem dL_law_727 : decode cL_law 727 = .ok (.invokevirtual 92, 3) := by decide +kernel
theorem dL_law_730 : decode cL_law 730 = .ok (.if_icmp .eq 415, 3) := by decide +kernel
theorem dL_law_733 : decode cL_law 733 = .ok (.iconst 0, 1) := by decide +kernel
theorem dL_law_734 : decode cL_law 734 = .ok (.ireturn, 1) := by decide +kernel
theorem dL_law_735 : decode cL_law 735 = .ok (.aload_n 1, 1) := by decide +kernel
theorem dL_law_736 : decode cL_law 736 = .ok (.aload_n 0, 1) := by decide +kernel
theorem dL_law_737 : decode cL_law 737 = .ok (.iload_n 3, 1) := by decide +kernel
theorem dL_law_738 : decode cL_law 738 = .ok (.iconst 1, 1) := by decide +kernel
theorem dL_law_739 : decode cL_law 739 = .ok (.iadd, 1) := by decide +kernel
theorem dL_law_740 : decode cL_law 740 = .ok (.iaload, 1) := by decide +kernel
theorem dL_law_741 : decode cL_law 741 = .ok (.aload_n 0, 1) := by decide +kernel
theorem dL_law_742 : decode cL_law 742 = .ok (.iload_n 3, 1) := by decide +kernel
theorem dL_law_743 : decode cL_law 743 = .ok (.iconst 2, 1) := by decide +kernel
theorem dL_law_744 : decode cL_law 744 = .ok (.iadd, 1) := by decide +kernel
theorem dL_law_745 : decode cL_law 745 = .ok (.iaload, 1) := by decide +kernel
theorem dL_law_746 : decode cL_law 746 = .ok (.invokevirtual 93, 3) := by decide +kernel
theorem dL_law_749 : decode cL_law 749 = .ok (.aload_n 2, 1) := by decide +kernel
theorem dL_law_750 : decode cL_law 750 = .ok (.aload_n 0, 1) := by decide +kernel
theorem dL_law_751 : decode cL_law 751 = .ok (.iload_n 3, 1) := by decide +kernel
theorem dL_law_752 : decode cL_law 752 = .ok (.iconst 1, 1) := by decide +kernel
theorem dL_law_753 : decode cL_law 753 = .ok (.iadd, 1) := by decide +kernel
theorem dL_law_754 : decode cL_law 754 = .ok (.iaload, 1) := by decide +kernel
theorem dL_law_755 : decode cL_law 755 = .ok (.aload_n 0, 1) := by decide +kernel
theorem dL_law_756 : decode cL_law 756 = .ok (.iload_n 3, 1) := by decide +kernel
theorem dL_law_757 : decode cL_law 757 = .ok (.iconst 2, 1) := by decide +kernel
theorem dL_law_758 : decode cL_law 758 = .ok (.iadd, 1) := by decide +kernel
theorem dL_law_759 : decode cL_law 759 = .ok (.iaload, 1) := by decide +kernel
theorem dL_law_760 : decode cL_law 760 = .ok (.invokevirtual 96, 3) := by decide +kernel
theorem dL_law_763 : decode cL_law 763 = .ok (.if_icmp .eq 382, 3) := by decide +kernel
theorem dL_law_766 : decode cL_law 766 = .ok (.iconst 0, 1) := by decide +kernel
theorem dL_law_767 : decode cL_law 767 = .ok (.ireturn, 1) := by decide +kernel
theorem dL_law_768 : decode cL_law 768 = .ok (.aload_n 1, 1) := by decide +kernel
theorem dL_law_769 : decode cL_law 769 = .ok (.aload_n 0, 1) := by decide +kernel
theorem dL_law_770 : decode cL_law 770 = .ok (.iload_n 3, 1) := by decide +kernel
theorem dL_law_771 : decode cL_law 771 = .ok (.iconst 1, 1) := by decide +kernel
theorem dL_law_772 : decode cL_law 772 = .ok (.iadd, 1) := by decide +kernel
theorem dL_law_773 : decode cL_law 773 = .ok (.iaload, 1) := by decide +kernel
theorem dL_law_774 : decode cL_law 774 = .ok (.aload_n 0, 1) := by decide +kernel
theorem dL_law_775 : decode cL_law 775 = .ok (.iload_n 3, 1) := by decide +kernel
theorem dL_law_776 : decode cL_law 776 = .ok (.iconst 2, 1) := by decide +kernel
theorem dL_law_777 : decode cL_law 777 = .ok (.iadd, 1) := by decide +kernel
theorem dL_law_778 : decode cL_law 778 = .ok (.iaload, 1) := by decide +kernel
theorem dL_law_779 : decode cL_law 779 = .ok (.invokevirtual 97, 3) := by decide +kernel
theorem dL_law_782 : decode cL_law 782 = .ok (.aload_n 2, 1) := by decide +kernel
theorem dL_law_783 : decode cL_law 783 = .ok (.aload_n 0, 1) := by decide +kernel
theorem dL_law_784 : decode cL_law 784 = .ok (.iload_n 3, 1) := by decide +kernel
theorem dL_law_785 : decode cL_law 785 = .ok (.iconst 1, 1) := by decide +kernel
theorem dL_law_786 : decode cL_law 786 = .ok (.iadd, 1) := by decide +kernel
theorem dL_law_787 : decode cL_law 787 = .ok (.iaload, 1) := by decide +kernel
theorem dL_law_788 : decode cL_law 788 = .ok (.aload_n 0, 1) := by decide +kernel
theorem dL_law_789 : decode cL_law 789 = .ok (.iload_n 3, 1) := by decide +kernel
theorem dL_law_790 : decode cL_law 790 = .ok (.iconst 2, 1) := by decide +kernel
theorem dL_law_791 : decode cL_law 791 = .ok (.iadd, 1) := by decide +kernel
theorem dL_law_792 : decode cL_law 792 = .ok (.iaload, 1) := by decide +kernel
theorem dL_law_793 : decode cL_law 793 = .ok (.invokevirtual 100, 3) := by decide +kernel
theorem dL_law_796 : decode cL_law 796 = .ok (.if_icmp .eq 349, 3) := by decide +kernel
theorem dL_law_799 : decode cL_law 799 = .ok (.iconst 0, 1) := by decide +kernel
theorem dL_law_800 : decode cL_law 800 = .ok (.ireturn, 1) := by decide +kernel
theorem dL_law_801 : decode cL_law 801 = .ok (.aload_n 1, 1) := by decide +kernel
theorem dL_law_802 : decode cL_law 802 = .ok (.aload_n 0, 1) := by decide +kernel
theorem dL_law_803 : decode cL_law 803 = .ok (.iload_n 3, 1) := by decide +kernel
theorem dL_law_804 : decode cL_law 804 = .ok (.iconst 1, 1) := by decide +kernel
theorem dL_law_805 : decode cL_law 805 = .ok (.iadd, 1) := by decide +kernel
theorem dL_law_806 : decode cL_law 806 = .ok (.iaload, 1) := by decide +kernel
theorem dL_law_807 : decode cL_law 807 = .ok (.invokevirtual 101, 3) := by decide +kernel
theorem dL_law_810 : decode cL_law 810 = .ok (.aload_n 2, 1) := by decide +kernel
theorem dL_law_811 : decode cL_law 811 = .ok (.aload_n 0, 1) := by decide +kernel
theorem dL_law_812 : decode cL_law 812 = .ok (.iload_n 3, 1) := by decide +kernel
theorem dL_law_813 : decode cL_law 813 = .ok (.iconst 1, 1) := by decide +kernel
theorem dL_law_814 : decode cL_law 814 = .ok (.iadd, 1) := by decide +kernel
theorem dL_law_815 : decode cL_law 815 = .ok (.iaload, 1) := by decide +kernel
theorem dL_law_816 : decode cL_law 816 = .ok (.invokevirtual 104, 3) := by decide +kernel
theorem dL_law_819 : decode cL_law 819 = .ok (.if_icmp .eq 326, 3) := by decide +kernel
theorem dL_law_822 : decode cL_law 822 = .ok (.iconst 0, 1) := by decide +kernel
theorem dL_law_823 : decode cL_law 823 = .ok (.ireturn, 1) := by decide +kernel
theorem dL_law_824 : decode cL_law 824 = .ok (.aload_n 1, 1) := by decide +kernel
theorem dL_law_825 : decode cL_law 825 = .ok (.aload_n 0, 1) := by decide +kernel
theorem dL_law_826 : decode cL_law 826 = .ok (.iload_n 3, 1) := by decide +kernel
theorem dL_law_827 : decode cL_law 827 = .ok (.iconst 1, 1) := by decide +kernel
theorem dL_law_828 : decode cL_law 828 = .ok (.iadd, 1) := by decide +kernel
theorem dL_law_829 : decode cL_law 829 = .ok (.iaload, 1) := by decide +kernel
theorem dL_law_830 : decode cL_law 830 = .ok (.aload_n 0, 1) := by decide +kernel
theorem dL_law_831 : decode cL_law 831 = .ok (.iload_n 3, 1) := by decide +kernel
theorem dL_law_832 : decode cL_law 832 = .ok (.iconst 2, 1) := by decide +kernel
theorem dL_law_833 : decode cL_law 833 = .ok (.iadd, 1) := by decide +kernel
theorem dL_law_834 : decode cL_law 834 = .ok (.iaload, 1) := by decide +kernel
theorem dL_law_835 : decode cL_law 835 = .ok (.aload_n 0, 1) := by decide +kernel
theorem dL_law_836 : decode cL_law 836 = .ok (.iload_n 3, 1) := by decide +kernel
theorem dL_law_837 : decode cL_law 837 = .ok (.iconst 3, 1) := by decide +kernel
theorem dL_law_838 : decode cL_law 838 = .ok (.iadd, 1) := by decide +kernel
theorem dL_law_839 : decode cL_law 839 = .ok (.iaload, 1) := by decide +kernel
theorem dL_law_840 : decode cL_law 840 = .ok (.invokevirtual 105, 3) := by decide +kernel
theorem dL_law_843 : decode cL_law 843 = .ok (.aload_n 2, 1) := by decide +kernel
theorem dL_law_844 : decode cL_law 844 = .ok (.aload_n 0, 1) := by decide +kernel
theorem dL_law_845 : decode cL_law 845 = .ok (.iload_n 3, 1) := by decide +kernel
theorem dL_law_846 : decode cL_law 846 = .ok (.iconst 1, 1) := by decide +kernel
theorem dL_law_847 : decode cL_law 847 = .ok (.iadd, 1) := by decide +kernel
theorem dL_law_848 : decode cL_law 848 = .ok (.iaload, 1) := by decide +kernel
theorem dL_law_849 : decode cL_law 849 = .ok (.aload_n 0, 1) := by decide +kernel
theorem dL_law_850 : decode cL_law 850 = .ok (.iload_n 3, 1) := by decide +kernel
theorem dL_law_851 : decode cL_law 851 = .ok (.iconst 2, 1) := by decide +kernel
theorem dL_law_852 : decode cL_law 852 = .ok (.iadd, 1) := by decide +kernel
theorem dL_law_853 : decode cL_law 853 = .ok (.iaload, 1) := by decide +kernel
theorem dL_law_854 : decode cL_law 854 = .ok (.aload_n 0, 1) := by decide +kernel
theorem dL_law_855 : decode cL_law 855 = .ok (.iload_n 3, 1) := by decide +kernel
theorem dL_law_856 : decode cL_law 856 = .ok (.iconst 3, 1) := by decide +kernel
theorem dL_law_857 : decode cL_law 857 = .ok (.iadd, 1) := by decide +kernel
theorem dL_law_858 : decode cL_law 858 = .ok (.iaload, 1) := by decide +kernel
theorem dL_law_859 : decode cL_law 859 = .ok (.invokevirtual 108, 3) := by decide +kernel
theorem dL_law_862 : decode cL_law 862 = .ok (.if_icmp .eq 283, 3) := by decide +kernel
theorem dL_law_865 : decode cL_law 865 = .ok (.iconst 0, 1) := by decide +kernel
theorem dL_law_866 : decode cL_law 866 = .ok (.ireturn, 1) := by decide +kernel
theorem dL_law_867 : decode cL_law 867 = .ok (.aload_n 1, 1) := by decide +kernel
theorem dL_law_868 : decode cL_law 868 = .ok (.invokevirtual 109, 3) := by decide +kernel
theorem dL_law_871 : decode cL_law 871 = .ok (.aload_n 2, 1) := by decide +kernel
theorem dL_law_872 : decode cL_law 872 = .ok (.invokevirtual 112, 3) := by decide +kernel
theorem dL_law_875 : decode cL_law 875 = .ok (.if_icmp .eq 270, 3) := by decide +kernel
theorem dL_law_878 : decode cL_law 878 = .ok (.iconst 0, 1) := by decide +kernel
theorem dL_law_879 : decode cL_law 879 = .ok (.ireturn, 1) := by decide +kernel
theorem dL_law_880 : decode cL_law 880 = .ok (.aload_n 1, 1) := by decide +kernel
theorem dL_law_881 : decode cL_law 881 = .ok (.aload_n 0, 1) := by decide +kernel
theorem dL_law_882 : decode cL_law 882 = .ok (.iload_n 3, 1) := by decide +kernel
theorem dL_law_883 : decode cL_law 883 = .ok (.iconst 1, 1) := by decide +kernel
theorem dL_law_884 : decode cL_law 884 = .ok (.iadd, 1) := by decide +kernel
theorem dL_law_885 : decode cL_law 885 = .ok (.iaload, 1) := by decide +kernel
theorem dL_law_886 : decode cL_law 886 = .ok (.invokevirtual 113, 3) := by decide +kernel
theorem dL_law_889 : decode cL_law 889 = .ok (.aload_n 2, 1) := by decide +kernel
theorem dL_law_890 : decode cL_law 890 = .ok (.aload_n 0, 1) := by decide +kernel
theorem dL_law_891 : decode cL_law 891 = .ok (.iload_n 3, 1) := by decide +kernel
theorem dL_law_892 : decode cL_law 892 = .ok (.iconst 1, 1) := by decide +kernel
theorem dL_law_893 : decode cL_law 893 = .ok (.iadd, 1) := by decide +kernel
theorem dL_law_894 : decode cL_law 894 = .ok (.iaload, 1) := by decide +kernel
theorem dL_law_895 : decode cL_law 895 = .ok (.invokevirtual 116, 3) := by decide +kernel
theorem dL_law_898 : decode cL_law 898 = .ok (.if_icmp .eq 247, 3) := by decide +kernel
theorem dL_law_901 : decode cL_law 901 = .ok (.iconst 0, 1) := by decide +kernel
theorem dL_law_902 : decode cL_law 902 = .ok (.ireturn, 1) := by decide +kernel
theorem dL_law_903 : decode cL_law 903 = .ok (.aload_n 1, 1) := by decide +kernel
theorem dL_law_904 : decode cL_law 904 = .ok (.aload_n 0, 1) := by decide +kernel
theorem dL_law_905 : decode cL_law 905 = .ok (.iload_n 3, 1) := by decide +kernel
theorem dL_law_906 : decode cL_law 906 = .ok (.iconst 1, 1) := by decide +kernel
theorem dL_law_907 : decode cL_law 907 = .ok (.iadd, 1) := by decide +kernel
theorem dL_law_908 : decode cL_law 908 = .ok (.iaload, 1) := by decide +kernel
theorem dL_law_909 : decode cL_law 909 = .ok (.aload_n 0, 1) := by decide +kernel
theorem dL_law_910 : decode cL_law 910 = .ok (.iload_n 3, 1) := by decide +kernel
theorem dL_law_911 : decode cL_law 911 = .ok (.iconst 2, 1) := by decide +kernel
theorem dL_law_912 : decode cL_law 912 = .ok (.iadd, 1) := by decide +kernel
theorem dL_law_913 : decode cL_law 913 = .ok (.iaload, 1) := by decide +kernel
theorem dL_law_914 : decode cL_law 914 = .ok (.aload_n 0, 1) := by decide +kernel
theorem dL_law_915 : decode cL_law 915 = .ok (.iload_n 3, 1) := by decide +kernel
theorem dL_law_916 : decode cL_law 916 = .ok (.iconst 3, 1) := by decide +kernel
theorem dL_law_917 : decode cL_law 917 = .ok (.iadd, 1) := by decide +kernel
theorem dL_law_918 : decode cL_law 918 = .ok (.iaload, 1) := by decide +kernel
theorem dL_law_919 : decode cL_law 919 = .ok (.invokevirtual 117, 3) := by decide +kernel
theorem dL_law_922 : decode cL_law 922 = .ok (.aload_n 2, 1) := by decide +kernel
theorem dL_law_923 : decode cL_law 923 = .ok (.aload_n 0, 1) := by decide +kernel
theorem dL_law_924 : decode cL_law 924 = .ok (.iload_n 3, 1) := by decide +kernel
theorem dL_law_925 : decode cL_law 925 = .ok (.iconst 1, 1) := by decide +kernel
theorem dL_law_926 : decode cL_law 926 = .ok (.iadd, 1) := by decide +kernel
theorem dL_law_927 : decode cL_law 927 = .ok (.iaload, 1) := by decide +kernel
theorem dL_law_928 : decode cL_law 928 = .ok (.aload_n 0, 1) := by decide +kernel
theorem dL_law_929 : decode cL_law 929 = .ok (.iload_n 3, 1) := by decide +kernel
theorem dL_law_930 : decode cL_law 930 = .ok (.iconst 2, 1) := by decide +kernel
theorem dL_law_931 : decode cL_law 931 = .ok (.iadd, 1) := by decide +kernel
theorem dL_law_932 : decode cL_law 932 = .ok (.iaload, 1) := by decide +kernel
theorem dL_law_933 : decode cL_law 933 = .ok (.aload_n 0, 1) := by decide +kernel
theorem dL_law_934 : decode cL_law 934 = .ok (.iload_n 3, 1) := by decide +kernel
theorem dL_law_935 : decode cL_law 935 = .ok (.iconst 3, 1) := by decide +kernel
theorem dL_law_936 : decode cL_law 936 = .ok (.iadd, 1) := by decide +kernel
theorem dL_law_937 : decode cL_law 937 = .ok (.iaload, 1) := by decide +kernel
theorem dL_law_938 : decode cL_law 938 = .ok (.invokevirtual 121, 3) := by decide +kernel
theorem dL_law_941 : decode cL_law 941 = .ok (.lcmp, 1) := by decide +kernel
theorem dL_law_942 : decode cL_law 942 = .ok (.ifCond .eq 203, 3) := by decide +kernel
theorem dL_law_945 : decode cL_law 945 = .ok (.iconst 0, 1) := by decide +kernel
theorem dL_law_946 : decode cL_law 946 = .ok (.ireturn, 1) := by decide +kernel
theorem dL_law_947 : decode cL_law 947 = .ok (.aload_n 1, 1) := by decide +kernel
theorem dL_law_948 : decode cL_law 948 = .ok (.aload_n 0, 1) := by decide +kernel
theorem dL_law_949 : decode cL_law 949 = .ok (.iload_n 3, 1) := by decide +kernel
theorem dL_law_950 : decode cL_law 950 = .ok (.iconst 1, 1) := by decide +kernel
theorem dL_law_951 : decode cL_law 951 = .ok (.iadd, 1) := by decide +kernel
theorem dL_law_952 : decode cL_law 952 = .ok (.iaload, 1) := by decide +kernel
theorem dL_law_953 : decode cL_law 953 = .ok (.invokevirtual 122, 3) := by decide +kernel
theorem dL_law_956 : decode cL_law 956 = .ok (.aload_n 2, 1) := by decide +kernel
theorem dL_law_957 : decode cL_law 957 = .ok (.aload_n 0, 1) := by decide +kernel
theorem dL_law_958 : decode cL_law 958 = .ok (.iload_n 3, 1) := by decide +kernel
theorem dL_law_959 : decode cL_law 959 = .ok (.iconst 1, 1) := by decide +kernel
theorem dL_law_960 : decode cL_law 960 = .ok (.iadd, 1) := by decide +kernel
theorem dL_law_961 : decode cL_law 961 = .ok (.iaload, 1) := by decide +kernel
theorem dL_law_962 : decode cL_law 962 = .ok (.invokevirtual 126, 3) := by decide +kernel
theorem dL_law_965 : decode cL_law 965 = .ok (.lcmp, 1) := by decide +kernel
theorem dL_law_966 : decode cL_law 966 = .ok (.ifCond .eq 179, 3) := by decide +kernel
theorem dL_law_969 : decode cL_law 969 = .ok (.iconst 0, 1) := by decide +kernel
theorem dL_law_970 : decode cL_law 970 = .ok (.ireturn, 1) := by decide +kernel
theorem dL_law_971 : decode cL_law 971 = .ok (.aload_n 1, 1) := by decide +kernel
theorem dL_law_972 : decode cL_law 972 = .ok (.aload_n 0, 1) := by decide +kernel
theorem dL_law_973 : decode cL_law 973 = .ok (.iload_n 3, 1) := by decide +kernel
theorem dL_law_974 : decode cL_law 974 = .ok (.iconst 1, 1) := by decide +kernel
theorem dL_law_975 : decode cL_law 975 = .ok (.iadd, 1) := by decide +kernel
theorem dL_law_976 : decode cL_law 976 = .ok (.iaload, 1) := by decide +kernel
theorem dL_law_977 : decode cL_law 977 = .ok (.invokevirtual 127, 3) := by decide +kernel
theorem dL_law_980 : decode cL_law 980 = .ok (.aload_n 2, 1) := by decide +kernel
theorem dL_law_981 : decode cL_law 981 = .ok (.aload_n 0, 1) := by decide +kernel
theorem dL_law_982 : decode cL_law 982 = .ok (.iload_n 3, 1) := by decide +kernel
theorem dL_law_983 : decode cL_law 983 = .ok (.iconst 1, 1) := by decide +kernel
theorem dL_law_984 : decode cL_law 984 = .ok (.iadd, 1) := by decide +kernel
theorem dL_law_985 : decode cL_law 985 = .ok (.iaload, 1) := by decide +kernel
theorem dL_law_986 : decode cL_law 986 = .ok (.invokevirtual 130, 3) := by decide +kernel
theorem dL_law_989 : decode cL_law 989 = .ok (.if_icmp .eq 156, 3) := by decide +kernel
theorem dL_law_992 : decode cL_law 992 = .ok (.iconst 0, 1) := by decide +kernel
theorem dL_law_993 : decode cL_law 993 = .ok (.ireturn, 1) := by decide +kernel
theorem dL_law_994 : decode cL_law 994 = .ok (.aload_n 1, 1) := by decide +kernel
theorem dL_law_995 : decode cL_law 995 = .ok (.aload_n 0, 1) := by decide +kernel
theorem dL_law_996 : decode cL_law 996 = .ok (.iload_n 3, 1) := by decide +kernel
theorem dL_law_997 : decode cL_law 997 = .ok (.iconst 1, 1) := by decide +kernel
theorem dL_law_998 : decode cL_law 998 = .ok (.iadd, 1) := by decide +kernel
theorem dL_law_999 : decode cL_law 999 = .ok (.iaload, 1) := by decide +kernel
theorem dL_law_1000 : decode cL_law 1000 = .ok (.invokevirtual 131, 3) := by decide +kernel
theorem dL_law_1003 : decode cL_law 1003 = .ok (.aload_n 2, 1) := by decide +kernel
theorem dL_law_1004 : decode cL_law 1004 = .ok (.aload_n 0, 1) := by decide +kernel
theorem dL_law_1005 : decode cL_law 1005 = .ok (.iload_n 3, 1) := by decide +kernel
theorem dL_law_1006 : decode cL_law 1006 = .ok (.iconst 1, 1) := by decide +kernel
theorem dL_law_1007 : decode cL_law 1007 = .ok (.iadd, 1) := by decide +kernel
theorem dL_law_1008 : decode cL_law 1008 = .ok (.iaload, 1) := by decide +kernel
theorem dL_law_1009 : decode cL_law 1009 = .ok (.invokevirtual 134, 3) := by decide +kernel
theorem dL_law_1012 : decode cL_law 1012 = .ok (.if_icmp .eq 133, 3) := by decide +kernel
theorem dL_law_1015 : decode cL_law 1015 = .ok (.iconst 0, 1) := by decide +kernel
theorem dL_law_1016 : decode cL_law 1016 = .ok (.ireturn, 1) := by decide +kernel
theorem dL_law_1017 : decode cL_law 1017 = .ok (.aload_n 1, 1) := by decide +kernel
theorem dL_law_1018 : decode cL_law 1018 = .ok (.aload_n 0, 1) := by decide +kernel
theorem dL_law_1019 : decode cL_law 1019 = .ok (.iload_n 3, 1) := by decide +kernel
theorem dL_law_1020 : decode cL_law 1020 = .ok (.iconst 1, 1) := by decide +kernel
theorem dL_law_1021 : decode cL_law 1021 = .ok (.iadd, 1) := by decide +kernel
theorem dL_law_1022 : decode cL_law 1022 = .ok (.iaload, 1) := by decide +kernel
theorem dL_law_1023 : decode cL_law 1023 = .ok (.invokevirtual 135, 3) := by decide +kernel
theorem dL_law_1026 : decode cL_law 1026 = .ok (.aload_n 2, 1) := by decide +kernel
theorem dL_law_1027 : decode cL_law 1027 = .ok (.aload_n 0, 1) := by decide +kernel
theorem dL_law_1028 : decode cL_law 1028 = .ok (.iload_n 3, 1) := by decide +kernel
theorem dL_law_1029 : decode cL_law 1029 = .ok (.iconst 1, 1) := by decide +kernel
theorem dL_law_1030 : decode cL_law 1030 = .ok (.iadd, 1) := by decide +kernel
theorem dL_law_1031 : decode cL_law 1031 = .ok (.iaload, 1) := by decide +kernel
theorem dL_law_1032 : decode cL_law 1032 = .ok (.invokevirtual 138, 3) := by decide +kernel
theorem dL_law_1035 : decode cL_law 1035 = .ok (.if_icmp .eq 110, 3) := by decide +kernel
theorem dL_law_1038 : decode cL_law 1038 = .ok (.iconst 0, 1) := by decide +kernel
theorem dL_law_1039 : decode cL_law 1039 = .ok (.ireturn, 1) := by decide +kernel
theorem dL_law_1040 : decode cL_law 1040 = .ok (.aload_n 1, 1) := by decide +kernel
theorem dL_law_1041 : decode cL_law 1041 = .ok (.invokevirtual 139, 3) := by decide +kernel
theorem dL_law_1044 : decode cL_law 1044 = .ok (.aload_n 2, 1) := by decide +kernel
theorem dL_law_1045 : decode cL_law 1045 = .ok (.invokevirtual 142, 3) := by decide +kernel
theorem dL_law_1048 : decode cL_law 1048 = .ok (.if_icmp .eq 97, 3) := by decide +kernel
theorem dL_law_1051 : decode cL_law 1051 = .ok (.iconst 0, 1) := by decide +kernel
theorem dL_law_1052 : decode cL_law 1052 = .ok (.ireturn, 1) := by decide +kernel
theorem dL_law_1053 : decode cL_law 1053 = .ok (.aload_n 1, 1) := by decide +kernel
theorem dL_law_1054 : decode cL_law 1054 = .ok (.aload_n 0, 1) := by decide +kernel
theorem dL_law_1055 : decode cL_law 1055 = .ok (.iload_n 3, 1) := by decide +kernel
theorem dL_law_1056 : decode cL_law 1056 = .ok (.iconst 1, 1) := by decide +kernel
theorem dL_law_1057 : decode cL_law 1057 = .ok (.iadd, 1) := by decide +kernel
theorem dL_law_1058 : decode cL_law 1058 = .ok (.iaload, 1) := by decide +kernel
theorem dL_law_1059 : decode cL_law 1059 = .ok (.aload_n 0, 1) := by decide +kernel
theorem dL_law_1060 : decode cL_law 1060 = .ok (.iload_n 3, 1) := by decide +kernel
theorem dL_law_1061 : decode cL_law 1061 = .ok (.iconst 2, 1) := by decide +kernel
theorem dL_law_1062 : decode cL_law 1062 = .ok (.iadd, 1) := by decide +kernel
theorem dL_law_1063 : decode cL_law 1063 = .ok (.iaload, 1) := by decide +kernel
theorem dL_law_1064 : decode cL_law 1064 = .ok (.aload_n 0, 1) := by decide +kernel
theorem dL_law_1065 : decode cL_law 1065 = .ok (.iload_n 3, 1) := by decide +kernel
theorem dL_law_1066 : decode cL_law 1066 = .ok (.iconst 3, 1) := by decide +kernel
theorem dL_law_1067 : decode cL_law 1067 = .ok (.iadd, 1) := by decide +kernel
theorem dL_law_1068 : decode cL_law 1068 = .ok (.iaload, 1) := by decide +kernel
theorem dL_law_1069 : decode cL_law 1069 = .ok (.invokevirtual 143, 3) := by decide +kernel
theorem dL_law_1072 : decode cL_law 1072 = .ok (.aload_n 2, 1) := by decide +kernel
theorem dL_law_1073 : decode cL_law 1073 = .ok (.aload_n 0, 1) := by decide +kernel
theorem dL_law_1074 : decode cL_law 1074 = .ok (.iload_n 3, 1) := by decide +kernel
theorem dL_law_1075 : decode cL_law 1075 = .ok (.iconst 1, 1) := by decide +kernel
theorem dL_law_1076 : decode cL_law 1076 = .ok (.iadd, 1) := by decide +kernel
theorem dL_law_1077 : decode cL_law 1077 = .ok (.iaload, 1) := by decide +kernel
theorem dL_law_1078 : decode cL_law 1078 = .ok (.aload_n 0, 1) := by decide +kernel
theorem dL_law_1079 : decode cL_law 1079 = .ok (.iload_n 3, 1) := by decide +kernel
theorem dL_law_1080 : decode cL_law 1080 = .ok (.iconst 2, 1) := by decide +kernel
theorem dL_law_1081 : decode cL_law 1081 = .ok (.iadd, 1) := by decide +kernel
theorem dL_law_1082 : decode cL_law 1082 = .ok (.iaload, 1) := by decide +kernel
theorem dL_law_1083 : decode cL_law 1083 = .ok (.aload_n 0, 1) := by decide +kernel
theorem dL_law_1084 : decode cL_law 1084 = .ok (.iload_n 3, 1) := by decide +kernel
theorem dL_law_1085 : decode cL_law 1085 = .ok (.iconst 3, 1) := by decide +kernel
theorem dL_law_1086 : decode cL_law 1086 = .ok (.iadd, 1) := by decide +kernel
theorem dL_law_1087 : decode cL_law 1087 = .ok (.iaload, 1) := by decide +kernel
theorem dL_law_1088 : decode cL_law 1088 = .ok (.invokevirtual 146, 3) := by decide +kernel
theorem dL_law_1091 : decode cL_law 1091 = .ok (.if_icmp .eq 54, 3) := by decide +kernel
theorem dL_law_1094 : decode cL_law 1094 = .ok (.iconst 0, 1) := by decide +kernel
theorem dL_law_1095 : decode cL_law 1095 = .ok (.ireturn, 1) := by decide +kernel
theorem dL_law_1096 : decode cL_law 1096 = .ok (.aload_n 1, 1) := by decide +kernel
theorem dL_law_1097 : decode cL_law 1097 = .ok (.invokevirtual 147, 3) := by decide +kernel
theorem dL_law_1100 : decode cL_law 1100 = .ok (.aload_n 2, 1) := by decide +kernel
theorem dL_law_1101 : decode cL_law 1101 = .ok (.invokevirtual 150, 3) := by decide +kernel
theorem dL_law_1104 : decode cL_law 1104 = .ok (.if_icmp .eq 41, 3) := by decide +kernel
theorem dL_law_1107 : decode cL_law 1107 = .ok (.iconst 0, 1) := by decide +kernel
theorem dL_law_1108 : decode cL_law 1108 = .ok (.ireturn, 1) := by decide +kernel
theorem dL_law_1109 : decode cL_law 1109 = .ok (.aload_n 1, 1) := by decide +kernel
theorem dL_law_1110 : decode cL_law 1110 = .ok (.invokevirtual 151, 3) := by decide +kernel
theorem dL_law_1113 : decode cL_law 1113 = .ok (.aload_n 2, 1) := by decide +kernel
theorem dL_law_1114 : decode cL_law 1114 = .ok (.invokevirtual 154, 3) := by decide +kernel
theorem dL_law_1117 : decode cL_law 1117 = .ok (.if_icmp .eq 28, 3) := by decide +kernel
theorem dL_law_1120 : decode cL_law 1120 = .ok (.iconst 0, 1) := by decide +kernel
theorem dL_law_1121 : decode cL_law 1121 = .ok (.ireturn, 1) := by decide +kernel
theorem dL_law_1122 : decode cL_law 1122 = .ok (.aload_n 1, 1) := by decide +kernel
theorem dL_law_1123 : decode cL_law 1123 = .ok (.aload_n 0, 1) := by decide +kernel
theorem dL_law_1124 : decode cL_law 1124 = .ok (.iload_n 3, 1) := by decide +kernel
theorem dL_law_1125 : decode cL_law 1125 = .ok (.iconst 1, 1) := by decide +kernel
theorem dL_law_1126 : decode cL_law 1126 = .ok (.iadd, 1) := by decide +kernel
theorem dL_law_1127 : decode cL_law 1127 = .ok (.iaload, 1) := by decide +kernel
theorem dL_law_1128 : decode cL_law 1128 = .ok (.invokevirtual 155, 3) := by decide +kernel
theorem dL_law_1131 : decode cL_law 1131 = .ok (.aload_n 2, 1) := by decide +kernel
theorem dL_law_1132 : decode cL_law 1132 = .ok (.aload_n 0, 1) := by decide +kernel
theorem dL_law_1133 : decode cL_law 1133 = .ok (.iload_n 3, 1) := by decide +kernel
theorem dL_law_1134 : decode cL_law 1134 = .ok (.iconst 1, 1) := by decide +kernel
theorem dL_law_1135 : decode cL_law 1135 = .ok (.iadd, 1) := by decide +kernel
theorem dL_law_1136 : decode cL_law 1136 = .ok (.iaload, 1) := by decide +kernel
theorem dL_law_1137 : decode cL_law 1137 = .ok (.invokevirtual 158, 3) := by decide +kernel
theorem dL_law_1140 : decode cL_law 1140 = .ok (.if_icmp .eq 5, 3) := by decide +kernel
theorem dL_law_1143 : decode cL_law 1143 = .ok (.iconst 0, 1) := by decide +kernel
theorem dL_law_1144 : decode cL_law 1144 = .ok (.ireturn, 1) := by decide +kernel
theorem dL_law_1145 : decode cL_law 1145 = .ok (.iinc 3 4, 3) := by decide +kernel
theorem dL_law_1148 : decode cL_law 1148 = .ok (.goto (-1130), 3) := by decide +kernel
theorem dL_law_1151 : decode cL_law 1151 = .ok (.iconst 1, 1) := by decide +kernel
theorem dL_law_1152 : decode cL_law 1152 = .ok (.ireturn, 1) := by decide +kernel
end
section
/-! ===== the memory of both systems as numbers (kind, index, slot), and the world that it stands for ===== -/
abbrev ad_Mem : Type := Nat → Nat → Nat → Int
/-- launch, addresses, class numbers and slots, (int arrays' class, version arrays' class), the strings' and their bytes' addresses -/
abbrev ad_G : Type := Launch × (Nat → Nat → Nat) × va_G × (ClassId × ClassId) × (Nat → Nat) × (Nat → Nat)
abbrev ad_iv (x : Int) : Value := .int (Int32.ofInt x)
abbrev ad_lv (x : Int) : Value := .long (Int64.ofInt x)
abbrev ad_rf (g : ad_G) (k i : Nat) : Value := .ref (g.2.1 k i)
abbrev ad_pv (c : Prop) [Decidable c] : Value := ad_iv (if c then 1 else 0)
def ad_rng (x : Int) : Prop := -2147483648 ≤ x ∧ x ≤ 2147483647
def ad_cnt (k : Nat) : Nat := match k with
  | 0 => 32 | 1 => 1 | 2 => 36 | 3 => 1 | 4 => 3 | 5 => 1 | 6 => 30 | 7 => 1 | 8 => 1
  | 10 => 32 | 11 => 32 | 12 => 36 | 13 => 1 | 14 => 1 | 15 => 1 | 16 => 1 | 18 => 3 | 19 => 3 | 20 => 1
  | 21 => 1 | 22 => 1 | 23 => 1 | 24 => 1 | 25 => 1 | 26 => 1 | 27 => 1 | 28 => 1 | 29 => 1 | 30 => 1 | 31 => 1 | 32 => 1 | 33 => 1 | _ => 0
def ad_len (k i : Nat) : Nat := match k with
  | 10 => 12 | 11 => 12 | 12 => if i = 33 then 96 else 12 | 13 => 10 | 14 => 10 | 15 => 10 | 16 => 100 | 18 => 10 | 19 => 4 | 20 => 7
  | 21 => 520 | 22 => 520 | 23 => 520 | 24 => 520 | 25 => 8 | 26 => 96 | 27 => 12 | 28 => 120 | 29 => 10 | 30 => 24 | 31 => 10 | 32 => 10 | 33 => 10 | _ => 0
def ad_nf (k : Nat) : Nat := match k with
  | 0 => 4 | 1 => 1 | 2 => 2 | 3 => 13 | 4 => 8 | 5 => 2 | 6 => 7 | 7 => 10 | 8 => 21 | _ => 0
/-- what a field that never changes holds: a cell by kind and index -/
def ad_tgt (k i slot : Nat) : Option (Nat × Nat) := match k with
  | 0 => (match slot with | 0 => some (10, i) | 1 => some (11, i) | _ => none)
  | 2 => (match slot with | 0 => some (12, i) | _ => none)
  | 3 => (match slot with | 0 => some (13, 0) | 1 => some (14, 0) | 2 => some (15, 0) | 3 => some (16, 0) | 4 => some (0, 30) | _ => none)
  | 4 => (match slot with | 0 => some (18, i) | 1 => some (19, i) | 2 => some (2, 30 + i) | _ => none)
  | 5 => (match slot with | 0 => some (2, 33) | 1 => some (2, 34) | _ => none)
  | 6 => (match slot with | 0 => some (2, i) | 1 => some (0, i) | _ => none)
  | 7 => (match slot with | 0 => some (4, 0) | 1 => some (4, 1) | 2 => some (4, 2) | 3 => some (3, 0) | 4 => some (0, 31) | 5 => some (5, 0) | 6 => some (2, 35) | 7 => some (1, 0) | 8 => some (20, 0) | _ => none)
  | 8 => (match slot with | 0 => some (21, 0) | 1 => some (22, 0) | 2 => some (23, 0) | 3 => some (24, 0) | 4 => some (25, 0) | 5 => some (26, 0) | 6 => some (27, 0) | 7 => some (28, 0) | 8 => some (29, 0) | 9 => some (30, 0) | 10 => some (31, 0) | 11 => some (32, 0) | 12 => some (33, 0) | _ => none)
  | _ => none
/-- the one reference that changes: the plan's store, 0 null, s + 1 the store s -/
def ad_ps (g : ad_G) (x : Int) : Value := if x = 0 then .null else ad_rf g 4 (x.toNat - 1)
def ad_fv (g : ad_G) (k i slot : Nat) (x : Int) : Value := match ad_tgt k i slot with
  | some q => ad_rf g q.1 q.2
  | none => if k = 3 ∧ slot = 5 then ad_ps g x else ad_iv x
def ad_fs (g : ad_G) (k i : Nat) (m : Nat → Int) : List Value := (List.range (ad_nf k)).map (fun s => ad_fv g k i s (m s))
def ad_ent (g : ad_G) (k i : Nat) (m : Nat → Int) : va_E :=
  if k < 9 then .inr (k, ad_fs g k i m)
  else if k = 18 then .inl (g.2.2.2.1.2, 10, .inr (.inr (.inr (.inr (fun v => some (g.2.1 6 (10 * i + v)))))))
  else .inl (g.2.2.2.1.1, ad_len k i, .inl (fun j => Int32.ofInt (m j)))
def ad_cells : List (Nat × Nat) := (List.range 34).flatMap (fun k => (List.range (ad_cnt k)).map (fun i => (k, i)))
def ad_ws (g : ad_G) (σ : ad_Mem) : va_W := ad_cells.map (fun q => (g.2.1 q.1 q.2, ad_ent g q.1 q.2 (σ q.1 q.2)))
/-- the addresses of all cells -/
def ad_A (g : ad_G) : Nat → Prop := fun q => ∃ k i, i < ad_cnt k ∧ q = g.2.1 k i
def ad_Inj (g : ad_G) : Prop := ∀ k i k' i', i < ad_cnt k → i' < ad_cnt k' → g.2.1 k i = g.2.1 k' i' → k = k' ∧ i = i'
theorem ad_cnt_lt {k i : Nat} (h : i < ad_cnt k) : k < 34 := by
  rcases Nat.lt_or_ge k 34 with h1 | h1
  · exact h1
  · exfalso
    obtain ⟨j, rfl⟩ : ∃ j, k = j + 34 := ⟨k - 34, by omega⟩
    exact Nat.not_lt_zero i h
theorem ad_mem {k i : Nat} : (k, i) ∈ ad_cells ↔ i < ad_cnt k := by
  unfold ad_cells
  simp only [List.mem_flatMap, List.mem_range, List.mem_map, Prod.mk.injEq]
  constructor
  · rintro ⟨a, h1, b, h2, rfl, rfl⟩
    exact h2
  · intro h
    exact ⟨k, ad_cnt_lt h, i, h, rfl, rfl⟩
theorem ad_nodup : ad_cells.Nodup := by decide +kernel
/-- changing one number -/
def ad_st (σ : ad_Mem) (k i j : Nat) (x : Int) : ad_Mem := fun a b c => if a = k ∧ b = i ∧ c = j then x else σ a b c
/-- changing a row -/
def ad_sr (σ : ad_Mem) (k i : Nat) (f : Nat → Int) : ad_Mem := fun a b => if a = k ∧ b = i then f else σ a b
theorem ad_st_row (σ : ad_Mem) (k i j : Nat) (x : Int) : ad_st σ k i j x = ad_sr σ k i (fun c => if c = j then x else σ k i c) := by
  funext a b c
  unfold ad_st ad_sr
  by_cases h : a = k ∧ b = i
  · obtain ⟨rfl, rfl⟩ := h
    simp
  · rw [if_neg h, if_neg (fun q => h ⟨q.1, q.2.1⟩)]
theorem ad_ws_at (g : ad_G) (σ : ad_Mem) {k i : Nat} (h : i < ad_cnt k) : ∃ q : Nat, (ad_ws g σ)[q]? = some (g.2.1 k i, ad_ent g k i (σ k i)) ∧ ∀ f : Nat → Int, (ad_ws g σ).set q (g.2.1 k i, ad_ent g k i f) = ad_ws g (ad_sr σ k i f) := by
  obtain ⟨q, hq⟩ := List.getElem?_of_mem (ad_mem.mpr h)
  refine ⟨q, ?_, fun f => ?_⟩
  · unfold ad_ws
    rw [List.getElem?_map, hq]
    rfl
  · unfold ad_ws
    apply List.ext_getElem?
    intro n
    have hlt : q < ad_cells.length := (List.getElem?_eq_some_iff.mp hq).1
    by_cases hn : n = q
    · subst hn
      rw [List.getElem?_set_self (by simpa using hlt), List.getElem?_map, hq]
      simp [ad_sr]
    · rw [List.getElem?_set_ne (fun e => hn e.symm), List.getElem?_map, List.getElem?_map]
      cases hc : ad_cells[n]? with
      | none => rfl
      | some c =>
        have hne : ¬ (c.1 = k ∧ c.2 = i) := by
          rintro ⟨h1, h2⟩
          have hc' : c = (k, i) := Prod.ext h1 h2
          rw [hc'] at hc
          exact hn ((List.getElem?_inj (List.getElem?_eq_some_iff.mp hc).1 ad_nodup).mp (hc.trans hq.symm))
        simp [ad_sr, hne]
theorem ad_ws_D {g : ad_G} (hI : ad_Inj g) (σ : ad_Mem) : va_D (ad_A g) (ad_ws g σ) := by
  have at' : ∀ (n : Nat) (q : Nat × va_E), (ad_ws g σ)[n]? = some q → ∃ c : Nat × Nat, ad_cells[n]? = some c ∧ c.2 < ad_cnt c.1 ∧ q.1 = g.2.1 c.1 c.2 := by
    intro n q hq
    unfold ad_ws at hq
    rw [List.getElem?_map] at hq
    cases hc : ad_cells[n]? with
    | none => rw [hc] at hq; cases hq
    | some c =>
      rw [hc] at hq
      refine ⟨c, rfl, ad_mem.mp (List.mem_of_getElem? hc), ?_⟩
      rw [← Option.some.inj hq]
  refine ⟨fun a b x y ha hb hxy => ?_, fun n q hq => ?_⟩
  · obtain ⟨c1, h1, h2, h3⟩ := at' a x ha
    obtain ⟨c2, h4, h5, h6⟩ := at' b y hb
    have := hI _ _ _ _ h2 h5 (by rw [← h3, ← h6, hxy])
    have hc : c1 = c2 := Prod.ext this.1 this.2
    subst hc
    exact (List.getElem?_inj (List.getElem?_eq_some_iff.mp h1).1 ad_nodup).mp (h1.trans h4.symm)
  · obtain ⟨c, -, h2, h3⟩ := at' n q hq
    exact ⟨c.1, c.2, h2, h3⟩
end
section
/-! ===== the judgement: a method's frame comes from a place to one of the places Z, over the memory ===== -/
/-- a method: its name, its bytes, its locals, what it returns -/
abbrev ad_MI : Type := MethodName × ByteArray × Nat × Option FieldType
def ad_TB : List Cond := lw_tbl.filter goodWord
theorem ad_goodTB : GoodIn ad_TB ad_TB := fun w h => ⟨h, good_of_word (List.mem_filter.mp h).2⟩
theorem ad_in (i : Nat) {w : Cond} (h : lw_tbl[i]? = some w) (hg : goodWord w = true) : w ∈ ad_TB := List.mem_filter.mpr ⟨List.mem_of_getElem? h, hg⟩
def ad_rm (d : Nat) : Room := { frames := d, cells := 0, slots := 0, locals := 60 * d }
def ad_wsM (μ : ad_MI) : List Cond := .code μ.1 μ.2.1 μ.2.2.1 μ.2.2.2 :: ad_TB
abbrev ad_tys (g : ad_G) : List (ClassId × FieldType) := [(g.2.2.2.1.1, .int), (g.2.2.2.1.2, .object RX6)]
def ad_slen : List Nat := [4, 3, 3, 2, 1, 5, 0]
def ad_sbyt : List (List Int32) := [[112, 112, 115, 59], [100, 112, 59], [100, 100, 59], [100, 59], [59], [100, 100, 100, 108, 59], []]
def ad_sidx : List Nat := [59, 61, 63, 65, 67, 69, 71]
def ad_stx : List String := ["pps;", "dp;", "dd;", "d;", ";", "dddl;", ""]
/-- what stands outside the memory and never changes: the nest word, the literals, two statics of the JDK -/
def ad_X (g : ad_G) (U : State) (H : Heap) : Prop := va_Nw (.methodLinkNest RX5 147 yX7_isHead "ArchiveOfDeltas") U ∧ vk_S 7 ad_slen ad_sbyt g.2.2.2.2.1 g.2.2.2.2.2 (ad_A g) U H ∧ (∀ i, i < 7 → vk_R RX5 (ad_sidx.getD i 0) (ad_stx.getD i "") (g.2.2.2.2.1 i) U) ∧ va_Z "java/lang/String" "COMPACT_STRINGS" "Z" (.int 1) (ad_A g) U H ∧ va_Zq "jdk/internal/util/Preconditions" "SIOOBE_FORMATTER" "Ljava/util/function/BiFunction;" (ad_A g) U H
theorem ad_X.warm {g : ad_G} {s U : State} {H : Heap} (hW : s.WarmedH U.vm) (h : ad_X g s H) : ad_X g U H :=
  ⟨va_Nw.warmM hW h.1, h.2.1.moved hW.alike, fun i hi => (h.2.2.1 i hi).warm hW, h.2.2.2.1.moved hW.alike, h.2.2.2.2.moved hW.alike⟩
theorem ad_X.same {g : ad_G} {s U : State} {H : Heap} (hv : U.vm = s.vm) (h : ad_X g s H) : ad_X g U H :=
  ⟨va_Nw.same rfl hv.symm h.1, h.2.1.moved (by rw [hv]; exact Vm.Alike.refl _), fun i hi => (h.2.2.1 i hi).same hv, h.2.2.2.1.moved (by rw [hv]; exact Vm.Alike.refl _), h.2.2.2.2.moved (by rw [hv]; exact Vm.Alike.refl _)⟩
theorem ad_X.kept {g : ad_G} {U : State} {H H1 : Heap} (h : ad_X g U H) (hq : ∀ a : Nat, a < H.size → ¬ ad_A g a → H1[a]? = H[a]?) : ad_X g U H1 :=
  ⟨h.1, h.2.1.kept hq, h.2.2.1, h.2.2.2.1.kept hq, h.2.2.2.2.kept hq⟩
/-- the locals: none, where nothing is known -/
def ad_at : List (Option Value) → Nat → Option Value
  | [], _ => none
  | v :: _, 0 => v
  | _ :: l, n + 1 => ad_at l n
def ad_set : List (Option Value) → Nat → Option Value → List (Option Value)
  | [], _, _ => []
  | _ :: l, 0, v => v :: l
  | w :: l, n + 1, v => w :: ad_set l n v
def ad_n2 (v : Option Value) : Bool := match v with
  | some (.long _) => false
  | some (.double _) => false
  | _ => true
/-- a store at i breaks no long that is known -/
def ad_ok1 (L : List (Option Value)) : Nat → Bool
  | 0 => true
  | i + 1 => ad_n2 (ad_at L i)
def ad_ls (ls : Array Slot) (n : Nat) (L : List (Option Value)) : Prop := ls.size = n ∧ lv_wf ls ∧ ∀ i v, ad_at L i = some v → ls[i]? = some (.val v)
theorem ad_at_nil (i : Nat) : ad_at [] i = none := rfl
theorem ad_at_set (L : List (Option Value)) (i : Nat) (v : Option Value) (j : Nat) : ad_at (ad_set L i v) j = if j = i ∧ i < L.length then v else ad_at L j := by
  induction L generalizing i j with
  | nil => simp [ad_set, ad_at]
  | cons w l ih =>
    cases i with
    | zero => cases j with
      | zero => simp [ad_set, ad_at]
      | succ j => simp [ad_set, ad_at]
    | succ i => cases j with
      | zero => simp [ad_set, ad_at]
      | succ j =>
        simp only [ad_set, ad_at, ih, List.length_cons]
        by_cases h : j = i ∧ i < l.length
        · rw [if_pos h, if_pos ⟨by omega, by omega⟩]
        · rw [if_neg h, if_neg (fun q => h ⟨by omega, by omega⟩)]
theorem ad_len_set (L : List (Option Value)) (i : Nat) (v : Option Value) : (ad_set L i v).length = L.length := by
  induction L generalizing i with
  | nil => rfl
  | cons w l ih => cases i with
    | zero => rfl
    | succ i => simp [ad_set, ih]
/-- the known locals as the kit's list, one read -/
theorem ad_ls.one {ls : Array Slot} {n : Nat} {L : List (Option Value)} (h : ad_ls ls n L) : ∃ l : List (Nat × Value), lv_has ls n l ∧ ∀ i v, (i, v) ∈ l ↔ (ad_at L i = some v ∧ i < L.length) := by
  refine ⟨(List.range L.length).filterMap (fun i => (ad_at L i).map (fun v => (i, v))), ⟨h.1, h.2.1, ?_⟩, ?_⟩
  · intro q hq
    obtain ⟨i, -, hi⟩ := List.mem_filterMap.mp hq
    cases hv : ad_at L i with
    | none => rw [hv] at hi; cases hi
    | some v =>
      rw [hv] at hi
      rw [← Option.some.inj hi]
      exact h.2.2 i v hv
  · intro i v
    rw [List.mem_filterMap]
    constructor
    · rintro ⟨j, hj, hm⟩
      cases hv : ad_at L j with
      | none => rw [hv] at hm; cases hm
      | some w =>
        rw [hv] at hm
        have := Option.some.inj hm
        simp only [Prod.mk.injEq] at this
        obtain ⟨rfl, rfl⟩ := this
        exact ⟨hv, List.mem_range.mp hj⟩
    · rintro ⟨h1, h2⟩
      exact ⟨i, List.mem_range.mpr h2, by rw [h1]; rfl⟩
theorem ad_at_lt {L : List (Option Value)} {i : Nat} {v : Value} (h : ad_at L i = some v) : i < L.length := by
  induction L generalizing i with
  | nil => cases h
  | cons w l ih => cases i with
    | zero => simp
    | succ i => have := ih (i := i) h; simp; omega
theorem ad_ls.st1 {ls' : Array Slot} {n i : Nat} {L : List (Option Value)} {v : Value} {l : List (Nat × Value)} (hm : ∀ i v, (i, v) ∈ l ↔ (ad_at L i = some v ∧ i < L.length)) (hok : ad_ok1 L i = true)
    (h' : lv_has ls' n ((i, v) :: l.filter (fun q => !(q.1 == i) && !(q.1 + 1 == i && q.2.category == 2)))) : ad_ls ls' n (ad_set L i (some v)) := by
  refine ⟨h'.1, h'.2.1, fun j w hw => ?_⟩
  rw [ad_at_set] at hw
  by_cases hji : j = i ∧ i < L.length
  · rw [if_pos hji] at hw
    rw [hji.1, ← Option.some.inj hw]
    exact h'.2.2 (i, v) List.mem_cons_self
  · rw [if_neg hji] at hw
    have hlt := ad_at_lt hw
    have hne : j ≠ i := fun q => hji ⟨q, by omega⟩
    refine h'.2.2 (j, w) (List.mem_cons_of_mem _ (List.mem_filter.mpr ⟨(hm j w).mpr ⟨hw, hlt⟩, ?_⟩))
    have h1 : (j == i) = false := by simpa using hne
    have h2 : (j + 1 == i && w.category == 2) = false := by
      by_cases hj : j + 1 = i
      · subst hj
        have hok : ad_n2 (ad_at L j) = true := hok
        rw [hw] at hok
        cases w <;> simp_all [ad_n2, Value.category]
      · simp [hj]
    simp only [h1, h2]
    rfl
theorem ad_ls.st2 {ls' : Array Slot} {n i : Nat} {L : List (Option Value)} {v : Value} {l : List (Nat × Value)} (hm : ∀ i v, (i, v) ∈ l ↔ (ad_at L i = some v ∧ i < L.length)) (hok : ad_ok1 L i = true) (hi1 : i + 1 < L.length)
    (h' : lv_has ls' n ((i, v) :: l.filter (fun q => !(q.1 == i) && (!(q.1 == i + 1) && !(q.1 + 1 == i && q.2.category == 2))))) : ad_ls ls' n (ad_set (ad_set L (i + 1) none) i (some v)) := by
  refine ⟨h'.1, h'.2.1, fun j w hw => ?_⟩
  rw [ad_at_set, ad_len_set] at hw
  by_cases hji : j = i ∧ i < L.length
  · rw [if_pos hji] at hw
    rw [hji.1, ← Option.some.inj hw]
    exact h'.2.2 (i, v) List.mem_cons_self
  · rw [if_neg hji, ad_at_set] at hw
    by_cases hj1 : j = i + 1 ∧ i + 1 < L.length
    · rw [if_pos hj1] at hw; cases hw
    rw [if_neg hj1] at hw
    have hlt := ad_at_lt hw
    have hne : j ≠ i := fun q => hji ⟨q, by omega⟩
    have hne1 : j ≠ i + 1 := fun q => hj1 ⟨q, by omega⟩
    refine h'.2.2 (j, w) (List.mem_cons_of_mem _ (List.mem_filter.mpr ⟨(hm j w).mpr ⟨hw, hlt⟩, ?_⟩))
    have h1 : (j == i) = false := by simpa using hne
    have h3 : (j == i + 1) = false := by simpa using hne1
    have h2 : (j + 1 == i && w.category == 2) = false := by
      by_cases hj : j + 1 = i
      · subst hj
        have hok : ad_n2 (ad_at L j) = true := hok
        rw [hw] at hok
        cases w <;> simp_all [ad_n2, Value.category]
      · simp [hj]
    simp only [h1, h2, h3]
    rfl
/-- a frame of the method μ, with calls d deep left -/
def ad_Ctx (g : ad_G) (μ : ad_MI) (d : Nat) (p : Program) (R : Room) (s : State) (m : MethodId) (args : Array Value) (meth : Method) (c : Code) (cells slots : Nat) : Prop :=
  p.tables.exec = Jvm.exec ∧ c.code = μ.2.1 ∧ c.maxLocals = μ.2.2.1 ∧ s.vm.findClass μ.1.cls = some m.cls ∧ (∀ w ∈ ad_TB, w.before args s = true) ∧ va_K g.2.2.1 vwCl (ad_tys g) s ∧ ad_X g s s.heap ∧ ad_Inj g ∧ meth.locks = false ∧ meth.sig.returnType = μ.2.2.2 ∧ (d ≤ R.frames ∧ 60 * d ≤ R.locals) ∧ (cells ≤ R.cells ∧ slots ≤ R.slots)
def ad_R (g : ad_G) (μ : ad_MI) (d : Nat) (Z : Nat → List Value → ad_Mem → Prop) (pc : Nat) (L : List (Option Value)) (S : List Value) (σ : ad_Mem) : Prop :=
  ∀ (p : Program) (e : Env) (R : Room) (s : State) (m : MethodId) (args : Array Value) (below : List Frame) (meth : Method) (c : Code) (cells slots : Nat) (Q : State → Prop), ad_Ctx g μ d p R s m args meth c cells slots →
    (∀ (pc' : Nat) (S' : List Value) (σ' : ad_Mem) (H' : Heap) (locs' : List Loc) (ls' : Array Slot), Z pc' S' σ' → va_P g.2.2.1 vwCl (ad_ws g σ') H' → va_S (ad_A g) s.heap H' locs' → W p g.1 e R s m args below meth c H' locs' cells slots Q (F0 m pc' ls' S')) →
    ∀ (H : Heap) (locs : List Loc) (ls : Array Slot), va_P g.2.2.1 vwCl (ad_ws g σ) H → va_S (ad_A g) s.heap H locs → ad_ls ls μ.2.2.1 L → W p g.1 e R s m args below meth c H locs cells slots Q (F0 m pc ls S)
/-- a method's contract: called with these over this memory it returns something of Q -/
def ad_M (g : ad_G) (μ : ad_MI) (d : Nat) (av : List Value) (σ : ad_Mem) (Q : Option Value → ad_Mem → Prop) : Prop :=
  Met g.1 μ.1 (ad_wsM μ) (ad_rm d) (va_Pc av (fun U => va_P g.2.2.1 vwCl (ad_ws g σ) U.heap ∧ va_K g.2.2.1 vwCl (ad_tys g) U ∧ ad_X g U U.heap ∧ ad_Inj g)) (fun _ st oc t => (∃ (v : Option Value) (σ' : ad_Mem), oc = .returned v ∧ Q v σ' ∧ va_P g.2.2.1 vwCl (ad_ws g σ') t.heap) ∧ va_F (ad_A g) st t) 0 0 (ad_A g)
/-- the places where a method returns -/
def ad_Zr (μ : ad_MI) (Q : Option Value → ad_Mem → Prop) (pc : Nat) (S : List Value) (σ : ad_Mem) : Prop :=
  (decode μ.2.1 pc = .ok (.return_, 1) ∧ μ.2.2.2 = none ∧ S = [] ∧ Q none σ) ∨
  (decode μ.2.1 pc = .ok (.ireturn, 1) ∧ ∃ x : Int32, S = [.int x] ∧ Q (some (.int x)) σ ∧ ∃ ty, μ.2.2.2 = some ty ∧ narrow ty (.int x) = .int x) ∨
  (decode μ.2.1 pc = .ok (.lreturn, 1) ∧ ∃ x : Int64, S = [.long x] ∧ Q (some (.long x)) σ ∧ μ.2.2.2 = some .long) ∨
  (decode μ.2.1 pc = .ok (.areturn, 1) ∧ ∃ a : Nat, S = [.ref a] ∧ Q (some (.ref a)) σ ∧ ∃ n, μ.2.2.2 = some (.object n))
theorem ad_M_of {g : ad_G} {μ : ad_MI} {d : Nat} {av : List Value} {σ : ad_Mem} {Q : Option Value → ad_Mem → Prop} {L : List (Option Value)} (hy : plainName μ.1.cls = true)
    (hn : (lg_sl av).length ≤ μ.2.2.1) (hL : ∀ i v, ad_at L i = some v → (i, v) ∈ lv_args 0 av) (k : ad_R g μ d (ad_Zr μ Q) 0 L [] σ) : ad_M g μ d av σ Q := by
  refine Met.ofW (cc := μ.2.1) (maxL := μ.2.2.1) (ret := μ.2.2.2) (ws' := ad_TB) hy rfl ?_
  intro p e s m args below meth c s₁ B hml hv
  obtain ⟨rfl, hP, hK, hX, hI⟩ := hv
  have hts := atoms_spec (ws := ad_wsM μ) B.pre
  have hl := lv_entry av hn
  rw [lg_entry_eq]
  generalize (lg_sl av ++ List.replicate (μ.2.2.1 - (lg_sl av).length) Slot.unset).toArray = ls at hl ⊢
  refine k p e _ s m _ below meth c 0 0 _ ⟨B.exec, B.bytes, hml, findClass_of_methodNamed B.named, fun w hw => hts w (List.mem_cons_of_mem _ hw), hK, hX, hI, B.notSynchronized, B.returns, ⟨Nat.le_refl _, Nat.le_refl _⟩, ⟨Nat.le_refl _, Nat.le_refl _⟩⟩ ?_ s.heap [] ls hP va_S.rf ⟨hl.1, hl.2.1, fun i v h => hl.2.2 (i, v) (hL i v h)⟩
  intro pc' S' σ' H' locs' ls' hZ hP' hS'
  have hlocks := B.notSynchronized
  rcases hZ with ⟨hd, hr, rfl, hQ⟩ | ⟨hd, x, rfl, hQ, ty, hr, hnar⟩ | ⟨hd, x, rfl, hQ, hr⟩ | ⟨hd, a, rfl, hQ, n, hr⟩
  · exact W.vret B.exec B.bytes (B.returns.trans hr) (fun t ht _ => ⟨⟨none, σ', rfl, hQ, by rw [ht]; exact hP'⟩, hS'.F ht⟩) hS'.2.2 hd
  · exact W.zret B.exec B.bytes (B.returns.trans hr) hnar (fun t ht _ => ⟨⟨some (.int x), σ', rfl, hQ, by rw [ht]; exact hP'⟩, hS'.F ht⟩) hS'.2.2 hd
  · exact W.lret B.exec B.bytes (B.returns.trans hr) (fun t ht _ => ⟨⟨some (.long x), σ', rfl, hQ, by rw [ht]; exact hP'⟩, hS'.F ht⟩) hS'.2.2 hd
  · exact W.aret B.exec B.bytes (B.returns.trans hr) (Or.inl ⟨n, rfl⟩) (Or.inr ⟨a, rfl⟩) (fun t ht _ => ⟨⟨some (.ref a), σ', rfl, hQ, by rw [ht]; exact hP'⟩, hS'.F ht⟩) hS'.2.2 hd
theorem ad_M.mono {g : ad_G} {μ : ad_MI} {d : Nat} {av : List Value} {σ : ad_Mem} {Q Q' : Option Value → ad_Mem → Prop} (h : ad_M g μ d av σ Q) (hQ : ∀ v σ', Q v σ' → Q' v σ') : ad_M g μ d av σ Q' := by
  unfold ad_M Met at h ⊢
  refine MetFree.mono h (fun _ _ q => q) (fun _ _ _ _ _ q => q) ?_
  intro a s o s' _ hh
  obtain ⟨⟨⟨v, σ', h1, h2, h3⟩, h4⟩, h5⟩ := hh
  exact ⟨⟨⟨v, σ', h1, hQ v σ' h2, h3⟩, h4⟩, h5⟩
end
section
/-! ===== one row an instruction, over ad_R ===== -/
section adrows
variable {g : ad_G} {μ : ad_MI} {d : Nat} {Z : Nat → List Value → ad_Mem → Prop} {pc : Nat} {L : List (Option Value)} {S : List Value} {σ : ad_Mem}
theorem ad_iadd_h (a b : Int) : Int32.ofInt a + Int32.ofInt b = Int32.ofInt (a + b) := (Int32.ofInt_add a b).symm
theorem ad_isub_h (a b : Int) : Int32.ofInt a - Int32.ofInt b = Int32.ofInt (a - b) := (Int32.ofInt_sub a b).symm
theorem ad_imul_h (a b : Int) : Int32.ofInt a * Int32.ofInt b = Int32.ofInt (a * b) := (Int32.ofInt_mul a b).symm
theorem ad_ineg_h (a : Int) : - Int32.ofInt a = Int32.ofInt (-a) := (Int32.ofInt_neg a).symm
theorem ad_toInt {a : Int} (h : ad_rng a) : (Int32.ofInt a).toInt = a := Int32.toInt_ofInt_of_le h.1 (by have := h.2; omega)
theorem ad_lt_h {a b : Int} (ha : ad_rng a) (hb : ad_rng b) : (Int32.ofInt a < Int32.ofInt b) ↔ a < b := by rw [Int32.lt_iff_toInt_lt, ad_toInt ha, ad_toInt hb]
theorem ad_le_h {a b : Int} (ha : ad_rng a) (hb : ad_rng b) : (Int32.ofInt a ≤ Int32.ofInt b) ↔ a ≤ b := by rw [Int32.le_iff_toInt_le, ad_toInt ha, ad_toInt hb]
theorem ad_eq_h {a b : Int} (ha : ad_rng a) (hb : ad_rng b) : (Int32.ofInt a = Int32.ofInt b) ↔ a = b := by rw [← Int32.toInt_inj, ad_toInt ha, ad_toInt hb]
theorem ad_zero_h : (0 : Int32) = Int32.ofInt 0 := rfl
theorem ad_rng0 : ad_rng 0 := ⟨by decide, by decide⟩
theorem ad_stop (h : Z pc S σ) : ad_R g μ d Z pc L S σ := by
  intro p e R s m args below meth c cells slots Q C hZ H locs ls hP hS hl
  exact hZ _ _ _ _ _ _ h hP hS
theorem ad_iconst {n : Int} (hd : decode μ.2.1 pc = .ok (.iconst n, 1)) (k : ad_R g μ d Z (pc + 1) L (ad_iv n :: S) σ) : ad_R g μ d Z pc L S σ := by
  intro p e R s m args below meth c cells slots Q C hZ H locs ls hP hS hl
  exact lv_iconst C.1 C.2.1 hd rfl (k p e R s m args below meth c cells slots Q C hZ H locs ls hP hS hl)
theorem ad_bipush {n : Int} (hd : decode μ.2.1 pc = .ok (.bipush n, 2)) (hn : (Int8.ofInt n).toInt32 = Int32.ofInt n) (k : ad_R g μ d Z (pc + 2) L (ad_iv n :: S) σ) : ad_R g μ d Z pc L S σ := by
  intro p e R s m args below meth c cells slots Q C hZ H locs ls hP hS hl
  exact lv_bipush C.1 C.2.1 hd hn (k p e R s m args below meth c cells slots Q C hZ H locs ls hP hS hl)
theorem ad_sipush {n : Int} (hd : decode μ.2.1 pc = .ok (.sipush n, 3)) (hn : (Int16.ofInt n).toInt32 = Int32.ofInt n) (k : ad_R g μ d Z (pc + 3) L (ad_iv n :: S) σ) : ad_R g μ d Z pc L S σ := by
  intro p e R s m args below meth c cells slots Q C hZ H locs ls hP hS hl
  exact lv_sipush C.1 C.2.1 hd hn (k p e R s m args below meth c cells slots Q C hZ H locs ls hP hS hl)
theorem ad_lconst {n : Fin 2} (hd : decode μ.2.1 pc = .ok (.lconst n, 1)) (k : ad_R g μ d Z (pc + 1) L (ad_lv (n.val : Int) :: S) σ) : ad_R g μ d Z pc L S σ := by
  intro p e R s m args below meth c cells slots Q C hZ H locs ls hP hS hl
  exact lv_lconst C.1 C.2.1 hd rfl (k p e R s m args below meth c cells slots Q C hZ H locs ls hP hS hl)
theorem ad_null (hd : decode μ.2.1 pc = .ok (.aconst_null, 1)) (k : ad_R g μ d Z (pc + 1) L (.null :: S) σ) : ad_R g μ d Z pc L S σ := by
  intro p e R s m args below meth c cells slots Q C hZ H locs ls hP hS hl
  exact lv_null C.1 C.2.1 hd (k p e R s m args below meth c cells slots Q C hZ H locs ls hP hS hl)
theorem ad_ldc {index : Nat} {n : Int} (hd : decode μ.2.1 pc = .ok (.ldc index, 2)) (hc : Cond.constant μ.1.cls index (Int32.ofInt n) ∈ ad_TB) (k : ad_R g μ d Z (pc + 2) L (ad_iv n :: S) σ) : ad_R g μ d Z pc L S σ := by
  intro p e R s m args below meth c cells slots Q C hZ H locs ls hP hS hl
  exact lv_ldc C.1 C.2.1 C.2.2.2.1 (C.2.2.2.2.1 _ hc) hd (k p e R s m args below meth c cells slots Q C hZ H locs ls hP hS hl)
theorem ad_ldc2 {index : Nat} {n : Int} (hd : decode μ.2.1 pc = .ok (.ldc2_w index, 3)) (hc : Cond.constantLong μ.1.cls index (Int64.ofInt n) ∈ ad_TB) (k : ad_R g μ d Z (pc + 3) L (ad_lv n :: S) σ) : ad_R g μ d Z pc L S σ := by
  intro p e R s m args below meth c cells slots Q C hZ H locs ls hP hS hl
  exact lv_ldc2 C.1 C.2.1 C.2.2.2.1 (C.2.2.2.2.1 _ hc) hd (k p e R s m args below meth c cells slots Q C hZ H locs ls hP hS hl)
theorem ad_iload_n {n : Fin 4} {x : Int} (hd : decode μ.2.1 pc = .ok (.iload_n n, 1)) (hv : ad_at L n.val = some (ad_iv x)) (k : ad_R g μ d Z (pc + 1) L (ad_iv x :: S) σ) : ad_R g μ d Z pc L S σ := by
  intro p e R s m args below meth c cells slots Q C hZ H locs ls hP hS hl
  exact lv_iload_n C.1 C.2.1 hd rfl (hl.2.2 _ _ hv) (k p e R s m args below meth c cells slots Q C hZ H locs ls hP hS hl)
theorem ad_iload {n : Nat} {x : Int} (hd : decode μ.2.1 pc = .ok (.iload n, 2)) (hv : ad_at L n = some (ad_iv x)) (k : ad_R g μ d Z (pc + 2) L (ad_iv x :: S) σ) : ad_R g μ d Z pc L S σ := by
  intro p e R s m args below meth c cells slots Q C hZ H locs ls hP hS hl
  exact lv_iload C.1 C.2.1 hd (hl.2.2 _ _ hv) (k p e R s m args below meth c cells slots Q C hZ H locs ls hP hS hl)
theorem ad_lload_n {n : Fin 4} {x : Int} (hd : decode μ.2.1 pc = .ok (.lload_n n, 1)) (hv : ad_at L n.val = some (ad_lv x)) (k : ad_R g μ d Z (pc + 1) L (ad_lv x :: S) σ) : ad_R g μ d Z pc L S σ := by
  intro p e R s m args below meth c cells slots Q C hZ H locs ls hP hS hl
  exact lv_lload_n C.1 C.2.1 hd rfl (hl.2.2 _ _ hv) (k p e R s m args below meth c cells slots Q C hZ H locs ls hP hS hl)
theorem ad_lload {n : Nat} {x : Int} (hd : decode μ.2.1 pc = .ok (.lload n, 2)) (hv : ad_at L n = some (ad_lv x)) (k : ad_R g μ d Z (pc + 2) L (ad_lv x :: S) σ) : ad_R g μ d Z pc L S σ := by
  intro p e R s m args below meth c cells slots Q C hZ H locs ls hP hS hl
  exact lv_lload C.1 C.2.1 hd (hl.2.2 _ _ hv) (k p e R s m args below meth c cells slots Q C hZ H locs ls hP hS hl)
theorem ad_aload_n {n : Fin 4} {x : Nat} (hd : decode μ.2.1 pc = .ok (.aload_n n, 1)) (hv : ad_at L n.val = some (.ref x)) (k : ad_R g μ d Z (pc + 1) L (.ref x :: S) σ) : ad_R g μ d Z pc L S σ := by
  intro p e R s m args below meth c cells slots Q C hZ H locs ls hP hS hl
  exact lv_aload_n C.1 C.2.1 hd rfl (hl.2.2 _ _ hv) (k p e R s m args below meth c cells slots Q C hZ H locs ls hP hS hl)
theorem ad_aload {n : Nat} {x : Nat} (hd : decode μ.2.1 pc = .ok (.aload n, 2)) (hv : ad_at L n = some (.ref x)) (k : ad_R g μ d Z (pc + 2) L (.ref x :: S) σ) : ad_R g μ d Z pc L S σ := by
  intro p e R s m args below meth c cells slots Q C hZ H locs ls hP hS hl
  exact lv_aload C.1 C.2.1 hd (hl.2.2 _ _ hv) (k p e R s m args below meth c cells slots Q C hZ H locs ls hP hS hl)
theorem ad_istore_n {n : Fin 4} {x : Int} (hd : decode μ.2.1 pc = .ok (.istore_n n, 1)) (hn : n.val < μ.2.2.1) (hok : ad_ok1 L n.val = true) {L1 : List (Option Value)} (hL : ad_set L n.val (some (ad_iv x)) = L1) (k : ad_R g μ d Z (pc + 1) L1 S σ) : ad_R g μ d Z pc L (ad_iv x :: S) σ := by
  intro p e R s m args below meth c cells slots Q C hZ H locs ls hP hS hl
  subst hL
  obtain ⟨l, h1, h2⟩ := hl.one
  exact lv_istore_n C.1 C.2.1 hd rfl h1 hn rfl (fun ls1 h3 => k p e R s m args below meth c cells slots Q C hZ H locs ls1 hP hS (ad_ls.st1 h2 hok h3))
theorem ad_istore {n : Nat} {x : Int} (hd : decode μ.2.1 pc = .ok (.istore n, 2)) (hn : n < μ.2.2.1) (hok : ad_ok1 L n = true) {L1 : List (Option Value)} (hL : ad_set L n (some (ad_iv x)) = L1) (k : ad_R g μ d Z (pc + 2) L1 S σ) : ad_R g μ d Z pc L (ad_iv x :: S) σ := by
  intro p e R s m args below meth c cells slots Q C hZ H locs ls hP hS hl
  subst hL
  obtain ⟨l, h1, h2⟩ := hl.one
  exact lv_istore C.1 C.2.1 hd h1 hn rfl (fun ls1 h3 => k p e R s m args below meth c cells slots Q C hZ H locs ls1 hP hS (ad_ls.st1 h2 hok h3))
theorem ad_astore_n {n : Fin 4} {x : Nat} (hd : decode μ.2.1 pc = .ok (.astore_n n, 1)) (hn : n.val < μ.2.2.1) (hok : ad_ok1 L n.val = true) {L1 : List (Option Value)} (hL : ad_set L n.val (some (.ref x)) = L1) (k : ad_R g μ d Z (pc + 1) L1 S σ) : ad_R g μ d Z pc L (.ref x :: S) σ := by
  intro p e R s m args below meth c cells slots Q C hZ H locs ls hP hS hl
  subst hL
  obtain ⟨l, h1, h2⟩ := hl.one
  exact lv_astore_n C.1 C.2.1 hd rfl h1 hn rfl (fun ls1 h3 => k p e R s m args below meth c cells slots Q C hZ H locs ls1 hP hS (ad_ls.st1 h2 hok h3))
theorem ad_astore {n : Nat} {x : Nat} (hd : decode μ.2.1 pc = .ok (.astore n, 2)) (hn : n < μ.2.2.1) (hok : ad_ok1 L n = true) {L1 : List (Option Value)} (hL : ad_set L n (some (.ref x)) = L1) (k : ad_R g μ d Z (pc + 2) L1 S σ) : ad_R g μ d Z pc L (.ref x :: S) σ := by
  intro p e R s m args below meth c cells slots Q C hZ H locs ls hP hS hl
  subst hL
  obtain ⟨l, h1, h2⟩ := hl.one
  exact lv_astore C.1 C.2.1 hd h1 hn rfl (fun ls1 h3 => k p e R s m args below meth c cells slots Q C hZ H locs ls1 hP hS (ad_ls.st1 h2 hok h3))
theorem ad_lstore_n {n : Fin 4} {x : Int} (hd : decode μ.2.1 pc = .ok (.lstore_n n, 1)) (hn : n.val + 1 < μ.2.2.1) (hn2 : n.val + 1 < L.length) (hok : ad_ok1 L n.val = true) {L1 : List (Option Value)} (hL : ad_set (ad_set L (n.val + 1) none) n.val (some (ad_lv x)) = L1) (k : ad_R g μ d Z (pc + 1) L1 S σ) : ad_R g μ d Z pc L (ad_lv x :: S) σ := by
  intro p e R s m args below meth c cells slots Q C hZ H locs ls hP hS hl
  subst hL
  obtain ⟨l, h1, h2⟩ := hl.one
  exact lv_lstore_n C.1 C.2.1 hd rfl h1 hn rfl (fun ls1 h3 => k p e R s m args below meth c cells slots Q C hZ H locs ls1 hP hS (ad_ls.st2 h2 hok hn2 h3))
theorem ad_lstore {n : Nat} {x : Int} (hd : decode μ.2.1 pc = .ok (.lstore n, 2)) (hn : n + 1 < μ.2.2.1) (hn2 : n + 1 < L.length) (hok : ad_ok1 L n = true) {L1 : List (Option Value)} (hL : ad_set (ad_set L (n + 1) none) n (some (ad_lv x)) = L1) (k : ad_R g μ d Z (pc + 2) L1 S σ) : ad_R g μ d Z pc L (ad_lv x :: S) σ := by
  intro p e R s m args below meth c cells slots Q C hZ H locs ls hP hS hl
  subst hL
  obtain ⟨l, h1, h2⟩ := hl.one
  exact lv_lstore C.1 C.2.1 hd h1 hn rfl (fun ls1 h3 => k p e R s m args below meth c cells slots Q C hZ H locs ls1 hP hS (ad_ls.st2 h2 hok hn2 h3))
theorem ad_iinc {n : Nat} {x t : Int} (hd : decode μ.2.1 pc = .ok (.iinc n t, 3)) (hv : ad_at L n = some (ad_iv x)) (hn : n < μ.2.2.1) (hok : ad_ok1 L n = true) {L1 : List (Option Value)} (hL : ad_set L n (some (ad_iv (x + t))) = L1) (k : ad_R g μ d Z (pc + 3) L1 S σ) : ad_R g μ d Z pc L S σ := by
  intro p e R s m args below meth c cells slots Q C hZ H locs ls hP hS hl
  subst hL
  obtain ⟨l, h1, h2⟩ := hl.one
  obtain ⟨j, hj⟩ := List.getElem?_of_mem ((h2 n _).mpr ⟨hv, ad_at_lt hv⟩)
  exact lv_iinc C.1 C.2.1 hd h1 hj (ad_iadd_h x t) hn rfl (fun ls1 h3 => k p e R s m args below meth c cells slots Q C hZ H locs ls1 hP hS (ad_ls.st1 h2 hok h3))
theorem ad_iadd {a b : Int} (hd : decode μ.2.1 pc = .ok (.iadd, 1)) (k : ad_R g μ d Z (pc + 1) L (ad_iv (a + b) :: S) σ) : ad_R g μ d Z pc L (ad_iv b :: ad_iv a :: S) σ := by
  intro p e R s m args below meth c cells slots Q C hZ H locs ls hP hS hl
  refine lv_iadd C.1 C.2.1 hd ?_
  rw [ad_iadd_h]
  exact k p e R s m args below meth c cells slots Q C hZ H locs ls hP hS hl
theorem ad_isub {a b : Int} (hd : decode μ.2.1 pc = .ok (.isub, 1)) (k : ad_R g μ d Z (pc + 1) L (ad_iv (a - b) :: S) σ) : ad_R g μ d Z pc L (ad_iv b :: ad_iv a :: S) σ := by
  intro p e R s m args below meth c cells slots Q C hZ H locs ls hP hS hl
  refine lv_isub C.1 C.2.1 hd ?_
  rw [ad_isub_h]
  exact k p e R s m args below meth c cells slots Q C hZ H locs ls hP hS hl
theorem ad_imul {a b : Int} (hd : decode μ.2.1 pc = .ok (.imul, 1)) (k : ad_R g μ d Z (pc + 1) L (ad_iv (a * b) :: S) σ) : ad_R g μ d Z pc L (ad_iv b :: ad_iv a :: S) σ := by
  intro p e R s m args below meth c cells slots Q C hZ H locs ls hP hS hl
  refine lv_imul C.1 C.2.1 hd ?_
  rw [ad_imul_h]
  exact k p e R s m args below meth c cells slots Q C hZ H locs ls hP hS hl
theorem ad_ineg {a : Int} (hd : decode μ.2.1 pc = .ok (.ineg, 1)) (k : ad_R g μ d Z (pc + 1) L (ad_iv (-a) :: S) σ) : ad_R g μ d Z pc L (ad_iv a :: S) σ := by
  intro p e R s m args below meth c cells slots Q C hZ H locs ls hP hS hl
  refine lv_ineg C.1 C.2.1 hd ?_
  rw [ad_ineg_h]
  exact k p e R s m args below meth c cells slots Q C hZ H locs ls hP hS hl
/-- the machine's own operations on bits and quotients, as numbers -/
def ad_and (a b : Int) : Int := (Int32.ofInt a &&& Int32.ofInt b).toInt
def ad_or (a b : Int) : Int := (Int32.ofInt a ||| Int32.ofInt b).toInt
def ad_xor (a b : Int) : Int := (Int32.ofInt a ^^^ Int32.ofInt b).toInt
def ad_shl (a b : Int) : Int := (Int32.ofInt a <<< (Int32.ofInt b &&& 31)).toInt
def ad_shr (a b : Int) : Int := (Int32.ofInt a >>> (Int32.ofInt b &&& 31)).toInt
def ad_div (a b : Int) : Int := (Int32.ofInt a / Int32.ofInt b).toInt
def ad_rem (a b : Int) : Int := (Int32.ofInt a - Int32.ofInt a / Int32.ofInt b * Int32.ofInt b).toInt
theorem ad_ofto (x : Int32) : Int32.ofInt x.toInt = x := Int32.ofInt_toInt x
theorem ad_ofto64 (x : Int64) : Int64.ofInt x.toInt = x := Int64.ofInt_toInt x
theorem ad_iv_to (x : Int32) : ad_iv x.toInt = .int x := by rw [ad_iv, ad_ofto]
theorem ad_lv_to (x : Int64) : ad_lv x.toInt = .long x := by rw [ad_lv, ad_ofto64]
theorem ad_iand {a b : Int} (hd : decode μ.2.1 pc = .ok (.iand, 1)) (k : ad_R g μ d Z (pc + 1) L (ad_iv (ad_and a b) :: S) σ) : ad_R g μ d Z pc L (ad_iv b :: ad_iv a :: S) σ := by
  intro p e R s m args below meth c cells slots Q C hZ H locs ls hP hS hl
  have k2 := k p e R s m args below meth c cells slots Q C hZ H locs ls hP hS hl
  unfold ad_and at k2
  rw [ad_iv_to] at k2
  exact lv_iand C.1 C.2.1 hd k2
theorem ad_ior {a b : Int} (hd : decode μ.2.1 pc = .ok (.ior, 1)) (k : ad_R g μ d Z (pc + 1) L (ad_iv (ad_or a b) :: S) σ) : ad_R g μ d Z pc L (ad_iv b :: ad_iv a :: S) σ := by
  intro p e R s m args below meth c cells slots Q C hZ H locs ls hP hS hl
  have k2 := k p e R s m args below meth c cells slots Q C hZ H locs ls hP hS hl
  unfold ad_or at k2
  rw [ad_iv_to] at k2
  exact lv_ior C.1 C.2.1 hd k2
theorem ad_ixor {a b : Int} (hd : decode μ.2.1 pc = .ok (.ixor, 1)) (k : ad_R g μ d Z (pc + 1) L (ad_iv (ad_xor a b) :: S) σ) : ad_R g μ d Z pc L (ad_iv b :: ad_iv a :: S) σ := by
  intro p e R s m args below meth c cells slots Q C hZ H locs ls hP hS hl
  have k2 := k p e R s m args below meth c cells slots Q C hZ H locs ls hP hS hl
  unfold ad_xor at k2
  rw [ad_iv_to] at k2
  exact lv_ixor C.1 C.2.1 hd k2
theorem ad_ishl {a b : Int} (hd : decode μ.2.1 pc = .ok (.ishl, 1)) (k : ad_R g μ d Z (pc + 1) L (ad_iv (ad_shl a b) :: S) σ) : ad_R g μ d Z pc L (ad_iv b :: ad_iv a :: S) σ := by
  intro p e R s m args below meth c cells slots Q C hZ H locs ls hP hS hl
  have k2 := k p e R s m args below meth c cells slots Q C hZ H locs ls hP hS hl
  unfold ad_shl at k2
  rw [ad_iv_to] at k2
  exact lv_ishl C.1 C.2.1 hd k2
theorem ad_ishr {a b : Int} (hd : decode μ.2.1 pc = .ok (.ishr, 1)) (k : ad_R g μ d Z (pc + 1) L (ad_iv (ad_shr a b) :: S) σ) : ad_R g μ d Z pc L (ad_iv b :: ad_iv a :: S) σ := by
  intro p e R s m args below meth c cells slots Q C hZ H locs ls hP hS hl
  have k2 := k p e R s m args below meth c cells slots Q C hZ H locs ls hP hS hl
  unfold ad_shr at k2
  rw [ad_iv_to] at k2
  exact lv_ishr C.1 C.2.1 hd k2
theorem ad_idiv {a b : Int} (hd : decode μ.2.1 pc = .ok (.idiv, 1)) (hb : ad_rng b) (h0 : b ≠ 0) (k : ad_R g μ d Z (pc + 1) L (ad_iv (ad_div a b) :: S) σ) : ad_R g μ d Z pc L (ad_iv b :: ad_iv a :: S) σ := by
  intro p e R s m args below meth c cells slots Q C hZ H locs ls hP hS hl
  have k2 := k p e R s m args below meth c cells slots Q C hZ H locs ls hP hS hl
  unfold ad_div at k2
  rw [ad_iv_to] at k2
  exact lv_idiv C.1 C.2.1 hd (fun h => h0 ((ad_eq_h hb ad_rng0).mp h)) k2
theorem ad_irem {a b : Int} (hd : decode μ.2.1 pc = .ok (.irem, 1)) (hb : ad_rng b) (h0 : b ≠ 0) (k : ad_R g μ d Z (pc + 1) L (ad_iv (ad_rem a b) :: S) σ) : ad_R g μ d Z pc L (ad_iv b :: ad_iv a :: S) σ := by
  intro p e R s m args below meth c cells slots Q C hZ H locs ls hP hS hl
  have k2 := k p e R s m args below meth c cells slots Q C hZ H locs ls hP hS hl
  unfold ad_rem at k2
  rw [ad_iv_to] at k2
  exact lv_irem C.1 C.2.1 hd (fun h => h0 ((ad_eq_h hb ad_rng0).mp h)) k2
theorem ad_lsub_h (a b : Int) : Int64.ofInt a - Int64.ofInt b = Int64.ofInt (a - b) := (Int64.ofInt_sub a b).symm
theorem ad_lmul_h (a b : Int) : Int64.ofInt a * Int64.ofInt b = Int64.ofInt (a * b) := (Int64.ofInt_mul a b).symm
def ad_lrem_f (a b : Int) : Int := (Int64.ofInt a - Int64.ofInt a / Int64.ofInt b * Int64.ofInt b).toInt
def ad_ldiv_f (a b : Int) : Int := (Int64.ofInt a / Int64.ofInt b).toInt
theorem ad_i2l_h {a : Int} (h : ad_rng a) : (Int32.ofInt a).toInt64 = Int64.ofInt a := by
  rw [← Int64.toInt_inj, Int32.toInt_toInt64, ad_toInt h, Int64.toInt_ofInt_of_le (by have := h.1; omega) (by have := h.2; omega)]
theorem ad_lsub {a b : Int} (hd : decode μ.2.1 pc = .ok (.lsub, 1)) (k : ad_R g μ d Z (pc + 1) L (ad_lv (a - b) :: S) σ) : ad_R g μ d Z pc L (ad_lv b :: ad_lv a :: S) σ := by
  intro p e R s m args below meth c cells slots Q C hZ H locs ls hP hS hl
  refine lv_lsub C.1 C.2.1 hd ?_
  rw [ad_lsub_h]
  exact k p e R s m args below meth c cells slots Q C hZ H locs ls hP hS hl
theorem ad_lmul {a b : Int} (hd : decode μ.2.1 pc = .ok (.lmul, 1)) (k : ad_R g μ d Z (pc + 1) L (ad_lv (a * b) :: S) σ) : ad_R g μ d Z pc L (ad_lv b :: ad_lv a :: S) σ := by
  intro p e R s m args below meth c cells slots Q C hZ H locs ls hP hS hl
  refine lv_lmul C.1 C.2.1 hd ?_
  rw [ad_lmul_h]
  exact k p e R s m args below meth c cells slots Q C hZ H locs ls hP hS hl
theorem ad_ldiv {a b : Int} (hd : decode μ.2.1 pc = .ok (.ldiv, 1)) (h0 : Int64.ofInt b ≠ 0) (k : ad_R g μ d Z (pc + 1) L (ad_lv (ad_ldiv_f a b) :: S) σ) : ad_R g μ d Z pc L (ad_lv b :: ad_lv a :: S) σ := by
  intro p e R s m args below meth c cells slots Q C hZ H locs ls hP hS hl
  have k2 := k p e R s m args below meth c cells slots Q C hZ H locs ls hP hS hl
  unfold ad_ldiv_f at k2
  rw [ad_lv_to] at k2
  exact lv_ldiv C.1 C.2.1 hd h0 k2
theorem ad_lrem {a b : Int} (hd : decode μ.2.1 pc = .ok (.lrem, 1)) (h0 : Int64.ofInt b ≠ 0) (k : ad_R g μ d Z (pc + 1) L (ad_lv (ad_lrem_f a b) :: S) σ) : ad_R g μ d Z pc L (ad_lv b :: ad_lv a :: S) σ := by
  intro p e R s m args below meth c cells slots Q C hZ H locs ls hP hS hl
  have k2 := k p e R s m args below meth c cells slots Q C hZ H locs ls hP hS hl
  unfold ad_lrem_f at k2
  rw [ad_lv_to] at k2
  exact lv_lrem C.1 C.2.1 hd h0 k2
theorem ad_i2l {a : Int} (hd : decode μ.2.1 pc = .ok (.i2l, 1)) (ha : ad_rng a) (k : ad_R g μ d Z (pc + 1) L (ad_lv a :: S) σ) : ad_R g μ d Z pc L (ad_iv a :: S) σ := by
  intro p e R s m args below meth c cells slots Q C hZ H locs ls hP hS hl
  exact lv_i2l C.1 C.2.1 hd (ad_i2l_h ha) (k p e R s m args below meth c cells slots Q C hZ H locs ls hP hS hl)
def ad_cmp (a b : Int) : Int := if b < a then 1 else if a = b then 0 else -1
def ad_rng64 (x : Int) : Prop := -9223372036854775808 ≤ x ∧ x ≤ 9223372036854775807
theorem ad_toInt64 {a : Int} (h : ad_rng64 a) : (Int64.ofInt a).toInt = a := Int64.toInt_ofInt_of_le h.1 (by have := h.2; omega)
theorem ad_cmp_h {a b : Int} (ha : ad_rng64 a) (hb : ad_rng64 b) : lg_cmp (Int64.ofInt a) (Int64.ofInt b) = Int32.ofInt (ad_cmp a b) := by
  unfold lg_cmp ad_cmp
  have h1 : (Int64.ofInt a > Int64.ofInt b) ↔ b < a := by rw [gt_iff_lt, Int64.lt_iff_toInt_lt, ad_toInt64 ha, ad_toInt64 hb]
  have h2 : (Int64.ofInt a = Int64.ofInt b) ↔ a = b := by rw [← Int64.toInt_inj, ad_toInt64 ha, ad_toInt64 hb]
  by_cases q1 : b < a
  · rw [if_pos (h1.mpr q1), if_pos q1]; rfl
  · rw [if_neg (fun h => q1 (h1.mp h)), if_neg q1]
    by_cases q2 : a = b
    · rw [if_pos (h2.mpr q2), if_pos q2]; rfl
    · rw [if_neg (fun h => q2 (h2.mp h)), if_neg q2]; rfl
theorem ad_cmp_same (x : Int64) : lg_cmp x x = Int32.ofInt 0 := by
  unfold lg_cmp
  rw [if_neg (by rw [gt_iff_lt, Int64.lt_iff_toInt_lt]; omega), if_pos rfl]; rfl
theorem ad_lcmp {a b : Int} (hd : decode μ.2.1 pc = .ok (.lcmp, 1)) (ha : ad_rng64 a) (hb : ad_rng64 b) (k : ad_R g μ d Z (pc + 1) L (ad_iv (ad_cmp a b) :: S) σ) : ad_R g μ d Z pc L (ad_lv b :: ad_lv a :: S) σ := by
  intro p e R s m args below meth c cells slots Q C hZ H locs ls hP hS hl
  refine W.lcmp C.1 C.2.1 hd ?_
  rw [ad_cmp_h ha hb]
  exact k p e R s m args below meth c cells slots Q C hZ H locs ls hP hS hl
theorem ad_lcmp_same {a : Int} (hd : decode μ.2.1 pc = .ok (.lcmp, 1)) (k : ad_R g μ d Z (pc + 1) L (ad_iv 0 :: S) σ) : ad_R g μ d Z pc L (ad_lv a :: ad_lv a :: S) σ := by
  intro p e R s m args below meth c cells slots Q C hZ H locs ls hP hS hl
  refine W.lcmp C.1 C.2.1 hd ?_
  rw [ad_cmp_same]
  exact k p e R s m args below meth c cells slots Q C hZ H locs ls hP hS hl
theorem ad_dup {v : Value} (hd : decode μ.2.1 pc = .ok (.dup, 1)) (hv : v.category = 1) (k : ad_R g μ d Z (pc + 1) L (v :: v :: S) σ) : ad_R g μ d Z pc L (v :: S) σ := by
  intro p e R s m args below meth c cells slots Q C hZ H locs ls hP hS hl
  exact lv_dup C.1 C.2.1 hd hv (k p e R s m args below meth c cells slots Q C hZ H locs ls hP hS hl)
theorem ad_pop {v : Value} (hd : decode μ.2.1 pc = .ok (.pop, 1)) (hv : v.category = 1) (k : ad_R g μ d Z (pc + 1) L S σ) : ad_R g μ d Z pc L (v :: S) σ := by
  intro p e R s m args below meth c cells slots Q C hZ H locs ls hP hS hl
  exact lv_pop C.1 C.2.1 hd hv (k p e R s m args below meth c cells slots Q C hZ H locs ls hP hS hl)
theorem ad_dup2 {v w : Value} (hd : decode μ.2.1 pc = .ok (.dup2, 1)) (hv : v.category = 1) (hw : w.category = 1) (k : ad_R g μ d Z (pc + 1) L (v :: w :: v :: w :: S) σ) : ad_R g μ d Z pc L (v :: w :: S) σ := by
  intro p e R s m args below meth c cells slots Q C hZ H locs ls hP hS hl
  exact lv_dup2_11 C.1 C.2.1 hd hv hw (k p e R s m args below meth c cells slots Q C hZ H locs ls hP hS hl)
theorem ad_goto {off : Int} (tgt : Nat) (hd : decode μ.2.1 pc = .ok (.goto off, 3)) (ht : (pc : Int) + off = (tgt : Int)) (k : ad_R g μ d Z tgt L S σ) : ad_R g μ d Z pc L S σ := by
  intro p e R s m args below meth c cells slots Q C hZ H locs ls hP hS hl
  exact lv_goto C.1 C.2.1 hd ht (k p e R s m args below meth c cells slots Q C hZ H locs ls hP hS hl)
theorem ad_if_eq {a off : Int} (tgt : Nat) (hd : decode μ.2.1 pc = .ok (.ifCond .eq off, 3)) (ht : (pc : Int) + off = (tgt : Int)) (ha : ad_rng a) (kt : a = 0 → ad_R g μ d Z tgt L S σ) (kf : ¬ (a = 0) → ad_R g μ d Z (pc + 3) L S σ) : ad_R g μ d Z pc L (ad_iv a :: S) σ := by
  intro p e R s m args below meth c cells slots Q C hZ H locs ls hP hS hl
  have hh := ad_eq_h ha ad_rng0
  exact lv_if_eq C.1 C.2.1 hd ht (fun h => kt (hh.mp h) p e R s m args below meth c cells slots Q C hZ H locs ls hP hS hl) (fun h => kf (fun q => h (hh.mpr q)) p e R s m args below meth c cells slots Q C hZ H locs ls hP hS hl)
theorem ad_if_ne {a off : Int} (tgt : Nat) (hd : decode μ.2.1 pc = .ok (.ifCond .ne off, 3)) (ht : (pc : Int) + off = (tgt : Int)) (ha : ad_rng a) (kt : a ≠ 0 → ad_R g μ d Z tgt L S σ) (kf : ¬ (a ≠ 0) → ad_R g μ d Z (pc + 3) L S σ) : ad_R g μ d Z pc L (ad_iv a :: S) σ := by
  intro p e R s m args below meth c cells slots Q C hZ H locs ls hP hS hl
  have hh := not_congr (ad_eq_h ha ad_rng0)
  exact lv_if_ne C.1 C.2.1 hd ht (fun h => kt (hh.mp h) p e R s m args below meth c cells slots Q C hZ H locs ls hP hS hl) (fun h => kf (fun q => hh.mpr q h) p e R s m args below meth c cells slots Q C hZ H locs ls hP hS hl)
theorem ad_if_lt {a off : Int} (tgt : Nat) (hd : decode μ.2.1 pc = .ok (.ifCond .lt off, 3)) (ht : (pc : Int) + off = (tgt : Int)) (ha : ad_rng a) (kt : a < 0 → ad_R g μ d Z tgt L S σ) (kf : ¬ (a < 0) → ad_R g μ d Z (pc + 3) L S σ) : ad_R g μ d Z pc L (ad_iv a :: S) σ := by
  intro p e R s m args below meth c cells slots Q C hZ H locs ls hP hS hl
  have hh := ad_lt_h ha ad_rng0
  exact lv_if_lt C.1 C.2.1 hd ht (fun h => kt (hh.mp h) p e R s m args below meth c cells slots Q C hZ H locs ls hP hS hl) (fun h => kf (fun q => h (hh.mpr q)) p e R s m args below meth c cells slots Q C hZ H locs ls hP hS hl)
theorem ad_if_ge {a off : Int} (tgt : Nat) (hd : decode μ.2.1 pc = .ok (.ifCond .ge off, 3)) (ht : (pc : Int) + off = (tgt : Int)) (ha : ad_rng a) (kt : 0 ≤ a → ad_R g μ d Z tgt L S σ) (kf : ¬ (0 ≤ a) → ad_R g μ d Z (pc + 3) L S σ) : ad_R g μ d Z pc L (ad_iv a :: S) σ := by
  intro p e R s m args below meth c cells slots Q C hZ H locs ls hP hS hl
  have hh := ad_le_h ad_rng0 ha
  exact lv_if_ge C.1 C.2.1 hd ht (fun h => kt (hh.mp h) p e R s m args below meth c cells slots Q C hZ H locs ls hP hS hl) (fun h => kf (fun q => h (hh.mpr q)) p e R s m args below meth c cells slots Q C hZ H locs ls hP hS hl)
theorem ad_if_gt {a off : Int} (tgt : Nat) (hd : decode μ.2.1 pc = .ok (.ifCond .gt off, 3)) (ht : (pc : Int) + off = (tgt : Int)) (ha : ad_rng a) (kt : 0 < a → ad_R g μ d Z tgt L S σ) (kf : ¬ (0 < a) → ad_R g μ d Z (pc + 3) L S σ) : ad_R g μ d Z pc L (ad_iv a :: S) σ := by
  intro p e R s m args below meth c cells slots Q C hZ H locs ls hP hS hl
  have hh := ad_lt_h ad_rng0 ha
  exact lv_if_gt C.1 C.2.1 hd ht (fun h => kt (hh.mp h) p e R s m args below meth c cells slots Q C hZ H locs ls hP hS hl) (fun h => kf (fun q => h (hh.mpr q)) p e R s m args below meth c cells slots Q C hZ H locs ls hP hS hl)
theorem ad_if_le {a off : Int} (tgt : Nat) (hd : decode μ.2.1 pc = .ok (.ifCond .le off, 3)) (ht : (pc : Int) + off = (tgt : Int)) (ha : ad_rng a) (kt : a ≤ 0 → ad_R g μ d Z tgt L S σ) (kf : ¬ (a ≤ 0) → ad_R g μ d Z (pc + 3) L S σ) : ad_R g μ d Z pc L (ad_iv a :: S) σ := by
  intro p e R s m args below meth c cells slots Q C hZ H locs ls hP hS hl
  have hh := ad_le_h ha ad_rng0
  exact lv_if_le C.1 C.2.1 hd ht (fun h => kt (hh.mp h) p e R s m args below meth c cells slots Q C hZ H locs ls hP hS hl) (fun h => kf (fun q => h (hh.mpr q)) p e R s m args below meth c cells slots Q C hZ H locs ls hP hS hl)
theorem ad_icmp_eq {a b off : Int} (tgt : Nat) (hd : decode μ.2.1 pc = .ok (.if_icmp .eq off, 3)) (ht : (pc : Int) + off = (tgt : Int)) (ha : ad_rng a) (hb : ad_rng b) (kt : a = b → ad_R g μ d Z tgt L S σ) (kf : ¬ (a = b) → ad_R g μ d Z (pc + 3) L S σ) : ad_R g μ d Z pc L (ad_iv b :: ad_iv a :: S) σ := by
  intro p e R s m args below meth c cells slots Q C hZ H locs ls hP hS hl
  have hh := ad_eq_h ha hb
  exact lv_icmp_eq C.1 C.2.1 hd ht (fun h => kt (hh.mp h) p e R s m args below meth c cells slots Q C hZ H locs ls hP hS hl) (fun h => kf (fun q => h (hh.mpr q)) p e R s m args below meth c cells slots Q C hZ H locs ls hP hS hl)
theorem ad_icmp_ne {a b off : Int} (tgt : Nat) (hd : decode μ.2.1 pc = .ok (.if_icmp .ne off, 3)) (ht : (pc : Int) + off = (tgt : Int)) (ha : ad_rng a) (hb : ad_rng b) (kt : a ≠ b → ad_R g μ d Z tgt L S σ) (kf : ¬ (a ≠ b) → ad_R g μ d Z (pc + 3) L S σ) : ad_R g μ d Z pc L (ad_iv b :: ad_iv a :: S) σ := by
  intro p e R s m args below meth c cells slots Q C hZ H locs ls hP hS hl
  have hh := not_congr (ad_eq_h ha hb)
  exact lv_icmp_ne C.1 C.2.1 hd ht (fun h => kt (hh.mp h) p e R s m args below meth c cells slots Q C hZ H locs ls hP hS hl) (fun h => kf (fun q => hh.mpr q h) p e R s m args below meth c cells slots Q C hZ H locs ls hP hS hl)
theorem ad_icmp_lt {a b off : Int} (tgt : Nat) (hd : decode μ.2.1 pc = .ok (.if_icmp .lt off, 3)) (ht : (pc : Int) + off = (tgt : Int)) (ha : ad_rng a) (hb : ad_rng b) (kt : a < b → ad_R g μ d Z tgt L S σ) (kf : ¬ (a < b) → ad_R g μ d Z (pc + 3) L S σ) : ad_R g μ d Z pc L (ad_iv b :: ad_iv a :: S) σ := by
  intro p e R s m args below meth c cells slots Q C hZ H locs ls hP hS hl
  have hh := ad_lt_h ha hb
  exact lv_icmp_lt C.1 C.2.1 hd ht (fun h => kt (hh.mp h) p e R s m args below meth c cells slots Q C hZ H locs ls hP hS hl) (fun h => kf (fun q => h (hh.mpr q)) p e R s m args below meth c cells slots Q C hZ H locs ls hP hS hl)
theorem ad_icmp_ge {a b off : Int} (tgt : Nat) (hd : decode μ.2.1 pc = .ok (.if_icmp .ge off, 3)) (ht : (pc : Int) + off = (tgt : Int)) (ha : ad_rng a) (hb : ad_rng b) (kt : b ≤ a → ad_R g μ d Z tgt L S σ) (kf : ¬ (b ≤ a) → ad_R g μ d Z (pc + 3) L S σ) : ad_R g μ d Z pc L (ad_iv b :: ad_iv a :: S) σ := by
  intro p e R s m args below meth c cells slots Q C hZ H locs ls hP hS hl
  have hh := ad_le_h hb ha
  exact lv_icmp_ge C.1 C.2.1 hd ht (fun h => kt (hh.mp h) p e R s m args below meth c cells slots Q C hZ H locs ls hP hS hl) (fun h => kf (fun q => h (hh.mpr q)) p e R s m args below meth c cells slots Q C hZ H locs ls hP hS hl)
theorem ad_icmp_gt {a b off : Int} (tgt : Nat) (hd : decode μ.2.1 pc = .ok (.if_icmp .gt off, 3)) (ht : (pc : Int) + off = (tgt : Int)) (ha : ad_rng a) (hb : ad_rng b) (kt : b < a → ad_R g μ d Z tgt L S σ) (kf : ¬ (b < a) → ad_R g μ d Z (pc + 3) L S σ) : ad_R g μ d Z pc L (ad_iv b :: ad_iv a :: S) σ := by
  intro p e R s m args below meth c cells slots Q C hZ H locs ls hP hS hl
  have hh := ad_lt_h hb ha
  exact lv_icmp_gt C.1 C.2.1 hd ht (fun h => kt (hh.mp h) p e R s m args below meth c cells slots Q C hZ H locs ls hP hS hl) (fun h => kf (fun q => h (hh.mpr q)) p e R s m args below meth c cells slots Q C hZ H locs ls hP hS hl)
theorem ad_icmp_le {a b off : Int} (tgt : Nat) (hd : decode μ.2.1 pc = .ok (.if_icmp .le off, 3)) (ht : (pc : Int) + off = (tgt : Int)) (ha : ad_rng a) (hb : ad_rng b) (kt : a ≤ b → ad_R g μ d Z tgt L S σ) (kf : ¬ (a ≤ b) → ad_R g μ d Z (pc + 3) L S σ) : ad_R g μ d Z pc L (ad_iv b :: ad_iv a :: S) σ := by
  intro p e R s m args below meth c cells slots Q C hZ H locs ls hP hS hl
  have hh := ad_le_h ha hb
  exact lv_icmp_le C.1 C.2.1 hd ht (fun h => kt (hh.mp h) p e R s m args below meth c cells slots Q C hZ H locs ls hP hS hl) (fun h => kf (fun q => h (hh.mpr q)) p e R s m args below meth c cells slots Q C hZ H locs ls hP hS hl)
theorem ad_pv_eq (q : Prop) [Decidable q] : (Int32.ofInt (if q then 1 else 0) = 0) ↔ ¬ q := by
  by_cases h : q
  · rw [if_pos h]; exact ⟨fun e => absurd e (by decide), fun e => absurd h e⟩
  · rw [if_neg h]; exact ⟨fun _ => h, fun _ => rfl⟩
theorem ad_ifp_eq {q : Prop} [Decidable q] {off : Int} (tgt : Nat) (hd : decode μ.2.1 pc = .ok (.ifCond .eq off, 3)) (ht : (pc : Int) + off = (tgt : Int)) (kt : ¬ q → ad_R g μ d Z tgt L S σ) (kf : q → ad_R g μ d Z (pc + 3) L S σ) : ad_R g μ d Z pc L (ad_pv q :: S) σ := by
  intro p e R s m args below meth c cells slots Q C hZ H locs ls hP hS hl
  exact lv_if_eq C.1 C.2.1 hd ht (fun h => kt ((ad_pv_eq q).mp h) p e R s m args below meth c cells slots Q C hZ H locs ls hP hS hl) (fun h => kf (Decidable.not_not.mp (fun z => h ((ad_pv_eq q).mpr z))) p e R s m args below meth c cells slots Q C hZ H locs ls hP hS hl)
theorem ad_ifp_ne {q : Prop} [Decidable q] {off : Int} (tgt : Nat) (hd : decode μ.2.1 pc = .ok (.ifCond .ne off, 3)) (ht : (pc : Int) + off = (tgt : Int)) (kt : q → ad_R g μ d Z tgt L S σ) (kf : ¬ q → ad_R g μ d Z (pc + 3) L S σ) : ad_R g μ d Z pc L (ad_pv q :: S) σ := by
  intro p e R s m args below meth c cells slots Q C hZ H locs ls hP hS hl
  exact lv_if_ne C.1 C.2.1 hd ht (fun h => kt (Decidable.not_not.mp (fun z => h ((ad_pv_eq q).mpr z))) p e R s m args below meth c cells slots Q C hZ H locs ls hP hS hl) (fun h => kf ((ad_pv_eq q).mp h) p e R s m args below meth c cells slots Q C hZ H locs ls hP hS hl)
theorem ad_icmp_eq_same {a off : Int} (tgt : Nat) (hd : decode μ.2.1 pc = .ok (.if_icmp .eq off, 3)) (ht : (pc : Int) + off = (tgt : Int)) (kt : ad_R g μ d Z tgt L S σ) : ad_R g μ d Z pc L (ad_iv a :: ad_iv a :: S) σ := by
  intro p e R s m args below meth c cells slots Q C hZ H locs ls hP hS hl
  exact lv_icmp_eq C.1 C.2.1 hd ht (fun _ => kt p e R s m args below meth c cells slots Q C hZ H locs ls hP hS hl) (fun h => absurd rfl h)
theorem ad_ifnull {off : Int} {x : Nat} (hd : decode μ.2.1 pc = .ok (.ifnull off, 3)) (k : ad_R g μ d Z (pc + 3) L S σ) : ad_R g μ d Z pc L (.ref x :: S) σ := by
  intro p e R s m args below meth c cells slots Q C hZ H locs ls hP hS hl
  exact lv_ifnull C.1 C.2.1 hd (k p e R s m args below meth c cells slots Q C hZ H locs ls hP hS hl)
theorem ad_table {dflt lo hi : Int} {offs : Array Int} {len : Nat} {a : Int} (hd : decode μ.2.1 pc = .ok (.tableswitch dflt lo hi offs, len)) (ha : ad_rng a) (tgt : Nat) (ht : (if a < lo ∨ hi < a then some ((pc : Int) + dflt) else (offs[(a - lo).toNat]?).map (fun o => (pc : Int) + o)) = some (tgt : Int)) (k : ad_R g μ d Z tgt L S σ) : ad_R g μ d Z pc L (ad_iv a :: S) σ := by
  intro p e R s m args below meth c cells slots Q C hZ H locs ls hP hS hl
  by_cases hq : a < lo ∨ hi < a
  · rw [if_pos hq] at ht
    exact lv_tableOut C.1 C.2.1 hd (by rw [ad_toInt ha]; exact hq) (Option.some.inj ht) (k p e R s m args below meth c cells slots Q C hZ H locs ls hP hS hl)
  · rw [if_neg hq] at ht
    cases ho : offs[(a - lo).toNat]? with
    | none => rw [ho] at ht; cases ht
    | some o =>
      rw [ho] at ht
      exact lv_tableIn C.1 C.2.1 hd (by rw [ad_toInt ha]; exact fun z => hq (Or.inl z)) (by rw [ad_toInt ha]; exact fun z => hq (Or.inr z)) (by rw [ad_toInt ha]; exact ho) (Option.some.inj ht) (k p e R s m args below meth c cells slots Q C hZ H locs ls hP hS hl)
theorem ad_lookup {dflt : Int} {ps : Array (Int × Int)} {len : Nat} {a off : Int} (hd : decode μ.2.1 pc = .ok (.lookupswitch dflt ps, len)) (ha : ad_rng a) (hp : (ps.toList.zip (ps.toList.drop 1)).all (fun (a, next) => a.1 < next.1) = true) (tgt : Nat) (ho : Op.lookupswitch.offset ps.toList dflt a = off) (ht : (pc : Int) + off = (tgt : Int)) (k : ad_R g μ d Z tgt L S σ) : ad_R g μ d Z pc L (ad_iv a :: S) σ := by
  intro p e R s m args below meth c cells slots Q C hZ H locs ls hP hS hl
  exact lv_lookup C.1 C.2.1 hd hp (by rw [ad_toInt ha]; exact ho) ht (k p e R s m args below meth c cells slots Q C hZ H locs ls hP hS hl)
end adrows
end
section
/-! ===== fields, arrays, calls over the memory ===== -/
theorem ad_fs_at (g : ad_G) {k slot : Nat} (i : Nat) (m : Nat → Int) (h : slot < ad_nf k) : (ad_fs g k i m)[slot]? = some (ad_fv g k i slot (m slot)) := by
  unfold ad_fs
  rw [List.getElem?_map, List.getElem?_range h]
  rfl
theorem ad_fs_len (g : ad_G) (k i : Nat) (m : Nat → Int) : (ad_fs g k i m).length = ad_nf k := by unfold ad_fs; simp
theorem ad_fs_set (g : ad_G) {k slot : Nat} (i : Nat) (m : Nat → Int) (x : Int) : (ad_fs g k i m).set slot (ad_fv g k i slot x) = ad_fs g k i (fun c => if c = slot then x else m c) := by
  apply List.ext_getElem?
  intro n
  unfold ad_fs
  by_cases hn : n = slot
  · subst hn
    by_cases hl : n < ad_nf k
    · rw [List.getElem?_set_self (by simpa using hl), List.getElem?_map, List.getElem?_range hl]
      simp
    · rw [List.getElem?_eq_none (by simpa using hl), List.getElem?_eq_none (by simpa using hl)]
  · rw [List.getElem?_set_ne (fun e => hn e.symm), List.getElem?_map, List.getElem?_map]
    by_cases hl : n < ad_nf k
    · rw [List.getElem?_range hl]
      simp [hn]
    · rw [List.getElem?_eq_none (l := List.range _) (by simpa using hl)]; rfl
theorem ad_ent_o (g : ad_G) {k : Nat} (i : Nat) (m : Nat → Int) (h : k < 9) : ad_ent g k i m = .inr (k, ad_fs g k i m) := by unfold ad_ent; rw [if_pos h]
theorem ad_ent_i (g : ad_G) {k : Nat} (i : Nat) (m : Nat → Int) (h : ¬ k < 9) (h2 : k ≠ 18) : ad_ent g k i m = .inl (g.2.2.2.1.1, ad_len k i, .inl (fun j => Int32.ofInt (m j))) := by unfold ad_ent; rw [if_neg h, if_neg h2]
theorem ad_ent_v (g : ad_G) (i : Nat) (m : Nat → Int) : ad_ent g 18 i m = .inl (g.2.2.2.1.2, 10, .inr (.inr (.inr (.inr (fun v => some (g.2.1 6 (10 * i + v))))))) := by unfold ad_ent; rw [if_neg (by decide), if_pos rfl]
theorem ad_ix {a : Int} {n : Nat} (h0 : 0 ≤ a) (h1 : a < n) (hn : n < 1000) : vp_in (Int32.ofInt a) n ∧ (Int32.ofInt a).toNatClampNeg = a.toNat := by
  have hr : ad_rng a := ⟨by omega, by omega⟩
  have ht := ad_toInt hr
  refine ⟨vp_in_iff.mpr (by rw [ht]; omega), ?_⟩
  unfold Int32.toNatClampNeg
  rw [ht]
theorem ad_len_lt (k i : Nat) : ad_len k i < 1000 := by
  unfold ad_len
  repeat' split
  all_goals omega
theorem ad_upd (m : Nat → Int) (k : Nat) (x : Int) : upd (fun j => Int32.ofInt (m j)) k (Int32.ofInt x) = fun j => Int32.ofInt ((fun c => if c = k then x else m c) j) := by
  funext j
  unfold upd
  by_cases h : j = k
  · simp [h]
  · simp [h]
/-- own class, place in its pool: the field of the class C (kind k, slot) -/
def ad_FL (own : String) (idx k slot : Nat) (C : String) (T : u_T) (N : Nat) : Prop := vwCl[k]? = some (C, T, N) ∧ k < 9 ∧ N = ad_nf k ∧ slot < N ∧ (∀ w ∈ u_ws C T N, w ∈ ad_TB) ∧ (T slot).1 = C ∧ Cond.fieldLink own idx C (T slot).2.1 (T slot).2.2.1 ∈ ad_TB
section adworld
variable {g : ad_G} {μ : ad_MI} {d : Nat} {Z : Nat → List Value → ad_Mem → Prop} {pc : Nat} {L : List (Option Value)} {S : List Value} {σ : ad_Mem}
theorem ad_get {idx k slot : Nat} {C0 : String} {T : u_T} {N : Nat} (hF : ad_FL μ.1.cls idx k slot C0 T N) {i : Nat} (hd : decode μ.2.1 pc = .ok (.getfield idx, 3)) (hi : i < ad_cnt k) {v : Value} (hv : ad_fv g k i slot (σ k i slot) = v) (kk : ad_R g μ d Z (pc + 3) L (v :: S) σ) : ad_R g μ d Z pc L (ad_rf g k i :: S) σ := by
  intro p e R s m args below meth c cells slots Q C hZ H locs ls hP hS hl
  obtain ⟨f1, f2, f3, f4, f5, f6, f7⟩ := hF
  obtain ⟨q, h1, -⟩ := ad_ws_at g σ hi
  rw [ad_ent_o g i _ f2] at h1
  exact va_get C.1 C.2.1 (Ts := ad_TB) C.2.2.2.2.1 f5 C.2.2.2.1 C.2.2.2.2.2.1 hP q h1 f1 slot f4 (C.2.2.2.2.1 _ f7) (fun x h => by rw [f6] at h; exact h) ((ad_fs_at g i _ (by rw [← f3]; exact f4)).trans (congrArg some hv)) hd (kk p e R s m args below meth c cells slots Q C hZ H locs ls hP hS hl)
theorem ad_put {idx k slot : Nat} {C0 : String} {T : u_T} {N : Nat} (hF : ad_FL μ.1.cls idx k slot C0 T N) (ty0 : Nat → FieldType) (hty : ∀ k, k < N → parseFieldDescriptor (T k).2.2.1 = some (ty0 k)) (hnm : ∀ a, a < N → ∀ b, b < N → a ≠ b → (T a).2.1 ≠ (T b).2.1) (hfin : (T slot).2.2.2 = false) {i : Nat} {x : Int} {v : Value} (hx : ad_fv g k i slot x = v) (hn : narrow (ty0 slot) v = v) (hfit : fits (ty0 slot) v = true) (hd : decode μ.2.1 pc = .ok (.putfield idx, 3)) (hi : i < ad_cnt k) (kk : ad_R g μ d Z (pc + 3) L S (ad_st σ k i slot x)) : ad_R g μ d Z pc L (v :: ad_rf g k i :: S) σ := by
  intro p e R s m args below meth c cells slots Q C hZ H locs ls hP hS hl
  obtain ⟨f1, f2, f3, f4, f5, f6, f7⟩ := hF
  obtain ⟨q, h1, h2⟩ := ad_ws_at g σ hi
  rw [ad_ent_o g i _ f2] at h1
  have hD := ad_ws_D C.2.2.2.2.2.2.2.1 σ
  refine va_put C.1 C.2.1 (Ts := ad_TB) C.2.2.2.2.1 f5 ty0 hty hnm C.2.2.2.1 C.2.2.2.2.2.1 hP hD hS q h1 f1 slot f4 (C.2.2.2.2.1 _ f7) (fun x h => by rw [f6] at h; exact h) hfin (hty slot f4) hn hfit (by rw [ad_fs_len, ← f3]; exact f4) hd (fun H1 locs1 hP1 _ hS1 => ?_)
  rw [← hx, ad_fs_set, ← ad_ent_o g i _ f2, h2, ← ad_st_row] at hP1
  exact kk p e R s m args below meth c cells slots Q C hZ H1 locs1 ls hP1 hS1 hl
/-- an int array: the classes' places in tys are 0 (ints) and 1 (versions) -/
theorem ad_iald {k i : Nat} {a : Int} (hd : decode μ.2.1 pc = .ok (.iaload, 1)) (hi : i < ad_cnt k) (hk : ¬ k < 9 ∧ k ≠ 18) (h0 : 0 ≤ a) (h1 : a < (ad_len k i : Nat)) (kk : ad_R g μ d Z (pc + 1) L (ad_iv (σ k i a.toNat) :: S) σ) : ad_R g μ d Z pc L (ad_iv a :: ad_rf g k i :: S) σ := by
  intro p e R s m args below meth c cells slots Q C hZ H locs ls hP hS hl
  obtain ⟨q, e1, -⟩ := ad_ws_at g σ hi
  rw [ad_ent_i g i _ hk.1 hk.2] at e1
  obtain ⟨g1, g2⟩ := ad_ix h0 h1 (ad_len_lt k i)
  refine va_iald C.1 C.2.1 C.2.2.2.2.2.1 hP q 0 e1 rfl g1 hd ?_
  rw [g2]
  exact kk p e R s m args below meth c cells slots Q C hZ H locs ls hP hS hl
theorem ad_iast {k i : Nat} {a x : Int} (hd : decode μ.2.1 pc = .ok (.iastore, 1)) (hi : i < ad_cnt k) (hk : ¬ k < 9 ∧ k ≠ 18) (h0 : 0 ≤ a) (h1 : a < (ad_len k i : Nat)) (kk : ad_R g μ d Z (pc + 1) L S (ad_st σ k i a.toNat x)) : ad_R g μ d Z pc L (ad_iv x :: ad_iv a :: ad_rf g k i :: S) σ := by
  intro p e R s m args below meth c cells slots Q C hZ H locs ls hP hS hl
  obtain ⟨q, e1, e2⟩ := ad_ws_at g σ hi
  rw [ad_ent_i g i _ hk.1 hk.2] at e1
  have hD := ad_ws_D C.2.2.2.2.2.2.2.1 σ
  obtain ⟨g1, g2⟩ := ad_ix h0 h1 (ad_len_lt k i)
  refine va_iast C.1 C.2.1 C.2.2.2.2.2.1 hP hD hS q 0 e1 rfl g1 hd (fun H1 locs1 hP1 _ hS1 => ?_)
  rw [g2, ad_upd, ← ad_ent_i g i _ hk.1 hk.2, e2, ← ad_st_row] at hP1
  exact kk p e R s m args below meth c cells slots Q C hZ H1 locs1 ls hP1 hS1 hl
theorem ad_alen {k i : Nat} (hd : decode μ.2.1 pc = .ok (.arraylength, 1)) (hi : i < ad_cnt k) (hk : ¬ k < 9 ∧ k ≠ 18) {n : Int} (hn : (ad_len k i : Int) = n) (kk : ad_R g μ d Z (pc + 1) L (ad_iv n :: S) σ) : ad_R g μ d Z pc L (ad_rf g k i :: S) σ := by
  intro p e R s m args below meth c cells slots Q C hZ H locs ls hP hS hl
  obtain ⟨q, e1, -⟩ := ad_ws_at g σ hi
  rw [ad_ent_i g i _ hk.1 hk.2] at e1
  refine va_alen (v := Int32.ofInt n) C.1 C.2.1 C.2.2.2.2.2.1 hP q 0 e1 rfl (by rw [← hn]; exact (Int32.ofInt_eq_ofNat).symm) hd ?_
  exact kk p e R s m args below meth c cells slots Q C hZ H locs ls hP hS hl
/-- a version out of a store's row -/
theorem ad_aald {i : Nat} {a : Int} (hd : decode μ.2.1 pc = .ok (.aaload, 1)) (hi : i < 3) (h0 : 0 ≤ a) (h1 : a < 10) (kk : ad_R g μ d Z (pc + 1) L (ad_rf g 6 (10 * i + a.toNat) :: S) σ) : ad_R g μ d Z pc L (ad_iv a :: ad_rf g 18 i :: S) σ := by
  intro p e R s m args below meth c cells slots Q C hZ H locs ls hP hS hl
  obtain ⟨q, e1, -⟩ := ad_ws_at g σ (k := 18) (i := i) hi
  rw [ad_ent_v g i] at e1
  obtain ⟨g1, g2⟩ := ad_ix (n := 10) h0 h1 (by omega)
  refine va_aldq C.1 C.2.1 C.2.2.2.2.2.1 hP q 1 e1 rfl g1 hd ?_
  rw [g2]
  exact kk p e R s m args below meth c cells slots Q C hZ H locs ls hP hS hl
/-- what the machine says of a call that met its contract -/
theorem ad_ofRun {μ' : ad_MI} {Qm : Option Value → ad_Mem → Prop} {p : Program} {e : Env} {R : Room} {s : State} {m : MethodId} {args : Array Value} {below : List Frame} {meth : Method} {c : Code} {cells slots : Nat} {Q : State → Prop} {H : Heap} {locs : List Loc} {ls : Array Slot} {st0 rest : List Value} {a : Array Value}
    (hr : va_Run p g.1 e R s m args below meth c H locs cells slots 0 0 (F0 m pc ls st0) rest ((fun (_ : Array Value) (st : State) (oc : Outcome) (t : State) => (∃ (v : Option Value) (σ' : ad_Mem), oc = .returned v ∧ Qm v σ' ∧ va_P g.2.2.1 vwCl (ad_ws g σ') t.heap) ∧ va_F (ad_A g) st t) a) (ad_A g))
    (hS : va_S (ad_A g) s.heap H locs) (kk : ∀ (v : Option Value) (σ' : ad_Mem) (H1 : Heap) (locs1 : List Loc), Qm v σ' → va_P g.2.2.1 vwCl (ad_ws g σ') H1 → va_S (ad_A g) s.heap H1 locs1 → W p g.1 e R s m args below meth c H1 locs1 cells slots Q (F0 m (pc + 3) ls (v.toList ++ rest))) : W p g.1 e R s m args below meth c H locs cells slots Q (F0 m pc ls st0) := by
  intro T hT X
  obtain ⟨v, st₀, t, T', L, h0, X', hL, e1, e2, ⟨⟨v', σ', hv, hq, hp⟩, hz, hk⟩, st⟩ := hr T hT X
  cases hv
  rw [h0] at hz hk
  obtain ⟨t2, a1, b1⟩ := kk v σ' T'.heap (locs ++ L) hq (by rw [e1]; exact hp)
    ⟨Nat.le_trans hS.1 (by rw [e1]; exact hz), fun q h1 h2 => by rw [e1, hk q (Nat.lt_of_lt_of_le h1 hS.1) h2]; exact hS.2.1 q h1 h2, fun q hq => by
      rcases List.mem_append.mp hq with h | h
      · exact hS.2.2 q h
      · exact hL q h⟩ T' rfl X'
  exact ⟨t2, st t2 a1, b1⟩
def ad_Cw (μ' : ad_MI) (n : Nat) : Prop := Cond.code μ'.1 μ'.2.1 μ'.2.2.1 μ'.2.2.2 ∈ ad_TB ∧ Cond.initialized μ'.1.cls ∈ ad_TB ∧ (μ'.1.cls ≠ "java/lang/invoke/MethodHandle" ∧ μ'.1.cls ≠ "java/lang/invoke/VarHandle" ∧ (parseMethodDescriptor μ'.1.desc).map (fun d => d.parameters.length) = some n) ∧ μ'.2.2.1 ≤ 30
/-- a method that can be called on a kind: its words -/
def ad_CV (own : String) (idx : Nat) (μ' : ad_MI) (n k : Nat) : Prop := Cond.methodLink own idx μ'.1 ∈ ad_TB ∧ (Cond.instanceMethod μ'.1 ∈ ad_TB ∧ Cond.selects μ'.1.cls μ'.1 μ'.1 ∈ ad_TB ∧ (∃ T N, vwCl[k]? = some (μ'.1.cls, T, N)) ∧ k < 9) ∧ ad_Cw μ' n
def ad_CS (own : String) (idx : Nat) (μ' : ad_MI) (n : Nat) : Prop := Cond.methodLink own idx μ'.1 ∈ ad_TB ∧ Cond.static μ'.1 ∈ ad_TB ∧ ad_Cw μ' n
theorem ad_goodM {μ' : ad_MI} {n : Nat} (h : ad_Cw μ' n) : GoodIn ad_TB (ad_wsM μ') := fun w hw => (List.mem_cons.mp hw).elim (fun e => by rw [e]; exact ad_goodTB _ h.1) (fun hw => ad_goodTB w hw)
theorem ad_blind (av : List Value) (σ : ad_Mem) : FrameBlind (va_Pc av (fun U => va_P g.2.2.1 vwCl (ad_ws g σ) U.heap ∧ va_K g.2.2.1 vwCl (ad_tys g) U ∧ ad_X g U U.heap ∧ ad_Inj g)) :=
  fun a U g2 mk q => ⟨q.1, q.2.1, va_K.moved (u := U) (U := U.calling g2 mk a) (Vm.Alike.refl U.vm) q.2.2.1, (ad_X.same (s := U) (U := U.calling g2 mk a) rfl q.2.2.2.1 : ad_X g (U.calling g2 mk a) U.heap), q.2.2.2.2⟩
theorem ad_room {d' : Nat} {μ' : ad_MI} {R : Room} (h : d' + 1 ≤ d) (h30 : μ'.2.2.1 ≤ 30) (h1 : d ≤ R.frames ∧ 60 * d ≤ R.locals) : (ad_rm d').frames + 1 ≤ R.frames ∧ 8 + (μ'.2.2.1 + 11) + (ad_rm d').locals ≤ R.locals := by
  show d' + 1 ≤ R.frames ∧ 8 + (μ'.2.2.1 + 11) + 60 * d' ≤ R.locals
  omega
theorem ad_callV {μ' : ad_MI} {n idx k i d' : Nat} {As St : List Value} {Qm : Option Value → ad_Mem → Prop} (hcw : ad_CV μ.1.cls idx μ' n k) (hd : decode μ.2.1 pc = .ok (.invokevirtual idx, 3)) (hi : i < ad_cnt k) (hM : ad_M g μ' d' (ad_rf g k i :: As) σ Qm) (hdd : d' + 1 ≤ d) (hAs : As.length = n) (hW : (S.map fun v => v.category).sum ≤ 8) (hSt : St = As.reverse ++ ad_rf g k i :: S)
    (kk : ∀ v σ', Qm v σ' → ad_R g μ d Z (pc + 3) L (v.toList ++ S) σ') : ad_R g μ d Z pc L St σ := by
  intro p e R s m args below meth c cells slots Q C hZ H locs ls hP hS hl
  obtain ⟨w1, ⟨w2, w3, ⟨T, N, w4⟩, w5⟩, w6⟩ := hcw
  obtain ⟨q, e1, -⟩ := ad_ws_at g σ hi
  rw [ad_ent_o g i _ w5] at e1
  subst hSt
  have ok := C.2.2.2.2.1
  refine ad_ofRun (μ' := μ') (a := (ad_rf g k i :: As).toArray) (va_runV ⟨C.1, C.2.1, C.2.2.1, C.2.2.2.1, ok⟩ hM ⟨callB_of n ok (ad_goodM w6) rfl rfl rfl (ok _ w6.2.1) (ok _ w1) w6.2.2.1 (ad_room hdd w6.2.2.2 C.2.2.2.2.2.2.2.2.2.2.1), ok _ w2, ok _ w3⟩
    ⟨ad_blind _ σ, va_recv C.2.2.2.2.2.1 hP w4 e1, fun U hU hW => ⟨rfl, by rw [hU]; exact hP, va_K.moved hW.alike C.2.2.2.2.2.1, ?_, C.2.2.2.2.2.2.2.1⟩⟩ rfl hAs hl.1 rfl (lv_room hW) hd ⟨C.2.2.2.2.2.2.2.2.2.2.2.1, C.2.2.2.2.2.2.2.2.2.2.2.2⟩) hS (fun v σ' H1 locs1 hq hP1 hS1 => kk v σ' hq p e R s m args below meth c cells slots Q C hZ H1 locs1 ls hP1 hS1 hl)
  rw [hU]
  exact (C.2.2.2.2.2.2.1.kept hS.2.1).warm hW
theorem ad_callS {μ' : ad_MI} {n idx d' : Nat} {As St : List Value} {Qm : Option Value → ad_Mem → Prop} (hcw : ad_CS μ.1.cls idx μ' n) (hd : decode μ.2.1 pc = .ok (.invokestatic idx, 3)) (hM : ad_M g μ' d' As σ Qm) (hdd : d' + 1 ≤ d) (hAs : As.length = n) (hW : (S.map fun v => v.category).sum ≤ 8) (hSt : St = As.reverse ++ S)
    (kk : ∀ v σ', Qm v σ' → ad_R g μ d Z (pc + 3) L (v.toList ++ S) σ') : ad_R g μ d Z pc L St σ := by
  intro p e R s m args below meth c cells slots Q C hZ H locs ls hP hS hl
  obtain ⟨w1, w2, w6⟩ := hcw
  subst hSt
  have ok := C.2.2.2.2.1
  refine ad_ofRun (μ' := μ') (a := As.toArray) (va_runS ⟨C.1, C.2.1, C.2.2.1, C.2.2.2.1, ok⟩ hM ⟨callB_of n ok (ad_goodM w6) rfl rfl rfl (ok _ w6.2.1) (ok _ w1) w6.2.2.1 (ad_room hdd w6.2.2.2 C.2.2.2.2.2.2.2.2.2.2.1), ok _ w2⟩
    ⟨ad_blind _ σ, fun U hU hW => ⟨rfl, by rw [hU]; exact hP, va_K.moved hW.alike C.2.2.2.2.2.1, ?_, C.2.2.2.2.2.2.2.1⟩⟩ rfl hAs hl.1 rfl (lv_room hW) hd ⟨C.2.2.2.2.2.2.2.2.2.2.2.1, C.2.2.2.2.2.2.2.2.2.2.2.2⟩) hS (fun v σ' H1 locs1 hq hP1 hS1 => kk v σ' hq p e R s m args below meth c cells slots Q C hZ H1 locs1 ls hP1 hS1 hl)
  rw [hU]
  exact (C.2.2.2.2.2.2.1.kept hS.2.1).warm hW
/-- the one call of a nest mate's private method: isHead out of Told -/
theorem ad_callNest {d' : Nat} {μ' : ad_MI} {a : Value} {Qm : Option Value → ad_Mem → Prop} (hμ : μ'.1 = yX7_isHead) (h5 : μ.1.cls = RX5) (hst : Cond.static μ'.1 ∈ ad_TB) (w6 : ad_Cw μ' 1) (hd : decode μ.2.1 pc = .ok (.invokestatic 147, 3)) (hM : ad_M g μ' d' [a] σ Qm) (hdd : d' + 1 ≤ d) (hW : (S.map fun v => v.category).sum ≤ 8)
    (kk : ∀ v σ', Qm v σ' → ad_R g μ d Z (pc + 3) L (v.toList ++ S) σ') : ad_R g μ d Z pc L (a :: S) σ := by
  intro p e R s m args below meth c cells slots Q C hZ H locs ls hP hS hl
  have ok := C.2.2.2.2.1
  have hn : va_Nw (.methodLinkNest μ.1.cls 147 μ'.1 "ArchiveOfDeltas") s := by rw [h5, hμ]; exact C.2.2.2.2.2.2.1.1
  refine ad_ofRun (μ' := μ') (a := [a].toArray) (va_runSN (n := 1) ⟨C.1, C.2.1, C.2.2.1, C.2.2.2.1, ok⟩ hM ⟨va_cnB 1 ok (ad_goodM w6) rfl rfl rfl hn (ok _ w6.2.1) w6.2.2.1 (ad_room hdd w6.2.2.2 C.2.2.2.2.2.2.2.2.2.2.1), ok _ hst, trivial⟩
    ⟨ad_blind _ σ, fun U hU hW => ⟨rfl, by rw [hU]; exact hP, va_K.moved hW.alike C.2.2.2.2.2.1, ?_, C.2.2.2.2.2.2.2.1⟩⟩ rfl rfl hl.1 rfl (lv_room hW) hd ⟨C.2.2.2.2.2.2.2.2.2.2.2.1, C.2.2.2.2.2.2.2.2.2.2.2.2⟩) hS (fun v σ' H1 locs1 hq hP1 hS1 => kk v σ' hq p e R s m args below meth c cells slots Q C hZ H1 locs1 ls hP1 hS1 hl)
  rw [hU]
  exact (C.2.2.2.2.2.2.1.kept hS.2.1).warm hW
end adworld
end
