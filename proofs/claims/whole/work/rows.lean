section
-- ===== PART A: goes FIRST, ahead of the names: the tables' words, and 'selects' of the private methods out of them =====
/-- a private method of a class that the tables say can be made, by its rows of tables_1 -/
def lw_okq (q : MethodName × Nat) : Prop := (q.1.cls ≠ "java/lang/invoke/MethodHandle" ∧ q.1.cls ≠ "java/lang/invoke/VarHandle") ∧ Cond.instantiable q.1.cls q.2 ∈ tables_1 ∧ Cond.privateMethod q.1 ∈ tables_1 ∧ Cond.instanceMethod q.1 ∈ tables_1
theorem lw_p0 : lw_okq (⟨"AlikeStore", "refuse", "(I)I"⟩, 8) := ⟨⟨by decide +kernel, by decide +kernel⟩, List.mem_of_getElem? (i := 22) (by decide +kernel), List.mem_of_getElem? (i := 279) (by decide +kernel), List.mem_of_getElem? (i := 280) (by decide +kernel)⟩
theorem lw_p1 : lw_okq (⟨"AlikeStore$Reader", "next", "()V"⟩, 8) := ⟨⟨by decide +kernel, by decide +kernel⟩, List.mem_of_getElem? (i := 81) (by decide +kernel), List.mem_of_getElem? (i := 294) (by decide +kernel), List.mem_of_getElem? (i := 295) (by decide +kernel)⟩
theorem lw_p2 : lw_okq (⟨"AlikeStore$Reader", "isWord", "(Ljava/lang/String;)Z"⟩, 8) := ⟨⟨by decide +kernel, by decide +kernel⟩, List.mem_of_getElem? (i := 81) (by decide +kernel), List.mem_of_getElem? (i := 384) (by decide +kernel), List.mem_of_getElem? (i := 385) (by decide +kernel)⟩
theorem lw_p3 : lw_okq (⟨"AlikeStore$Reader", "readBits", "()I"⟩, 8) := ⟨⟨by decide +kernel, by decide +kernel⟩, List.mem_of_getElem? (i := 81) (by decide +kernel), List.mem_of_getElem? (i := 409) (by decide +kernel), List.mem_of_getElem? (i := 410) (by decide +kernel)⟩
theorem lw_p4 : lw_okq (⟨"AlikeStore$Reader", "number", "(II)I"⟩, 8) := ⟨⟨by decide +kernel, by decide +kernel⟩, List.mem_of_getElem? (i := 81) (by decide +kernel), List.mem_of_getElem? (i := 413) (by decide +kernel), List.mem_of_getElem? (i := 414) (by decide +kernel)⟩
theorem lw_p5 : lw_okq (⟨"AlikeStore$Reader", "sign", "(I)I"⟩, 8) := ⟨⟨by decide +kernel, by decide +kernel⟩, List.mem_of_getElem? (i := 81) (by decide +kernel), List.mem_of_getElem? (i := 417) (by decide +kernel), List.mem_of_getElem? (i := 418) (by decide +kernel)⟩
theorem lw_p6 : lw_okq (⟨"AlikeStore$Reader", "readParts", "()I"⟩, 8) := ⟨⟨by decide +kernel, by decide +kernel⟩, List.mem_of_getElem? (i := 81) (by decide +kernel), List.mem_of_getElem? (i := 423) (by decide +kernel), List.mem_of_getElem? (i := 424) (by decide +kernel)⟩
theorem lw_p7 : lw_okq (⟨"AlikeStore$Reader", "readCode", "()I"⟩, 8) := ⟨⟨by decide +kernel, by decide +kernel⟩, List.mem_of_getElem? (i := 81) (by decide +kernel), List.mem_of_getElem? (i := 428) (by decide +kernel), List.mem_of_getElem? (i := 429) (by decide +kernel)⟩
theorem lw_p8 : lw_okq (⟨"AlikeStore$Reader", "binary", "()J"⟩, 8) := ⟨⟨by decide +kernel, by decide +kernel⟩, List.mem_of_getElem? (i := 81) (by decide +kernel), List.mem_of_getElem? (i := 432) (by decide +kernel), List.mem_of_getElem? (i := 433) (by decide +kernel)⟩
theorem lw_p9 : lw_okq (⟨"AlikeStore$Reader", "readFilter", "()I"⟩, 8) := ⟨⟨by decide +kernel, by decide +kernel⟩, List.mem_of_getElem? (i := 81) (by decide +kernel), List.mem_of_getElem? (i := 448) (by decide +kernel), List.mem_of_getElem? (i := 449) (by decide +kernel)⟩
theorem lw_p10 : lw_okq (⟨"AlikeStore$Reader", "readTest", "(I)I"⟩, 8) := ⟨⟨by decide +kernel, by decide +kernel⟩, List.mem_of_getElem? (i := 81) (by decide +kernel), List.mem_of_getElem? (i := 452) (by decide +kernel), List.mem_of_getElem? (i := 453) (by decide +kernel)⟩
theorem lw_p11 : lw_okq (⟨"AlikeStore$Reader", "readSide", "(I)I"⟩, 8) := ⟨⟨by decide +kernel, by decide +kernel⟩, List.mem_of_getElem? (i := 81) (by decide +kernel), List.mem_of_getElem? (i := 456) (by decide +kernel), List.mem_of_getElem? (i := 457) (by decide +kernel)⟩
theorem lw_p12 : lw_okq (⟨"AlikeStore$Reader", "readFact", "(I)I"⟩, 8) := ⟨⟨by decide +kernel, by decide +kernel⟩, List.mem_of_getElem? (i := 81) (by decide +kernel), List.mem_of_getElem? (i := 460) (by decide +kernel), List.mem_of_getElem? (i := 461) (by decide +kernel)⟩
theorem lw_p13 : lw_okq (⟨"AlikeStore$Reader", "valueKind", "()I"⟩, 8) := ⟨⟨by decide +kernel, by decide +kernel⟩, List.mem_of_getElem? (i := 81) (by decide +kernel), List.mem_of_getElem? (i := 465) (by decide +kernel), List.mem_of_getElem? (i := 466) (by decide +kernel)⟩
theorem lw_p14 : lw_okq (⟨"AlikeStore$Reader", "readComparison", "(I)I"⟩, 8) := ⟨⟨by decide +kernel, by decide +kernel⟩, List.mem_of_getElem? (i := 81) (by decide +kernel), List.mem_of_getElem? (i := 474) (by decide +kernel), List.mem_of_getElem? (i := 475) (by decide +kernel)⟩
theorem lw_p15 : lw_okq (⟨"AlikeStore", "answer", "(I)I"⟩, 8) := ⟨⟨by decide +kernel, by decide +kernel⟩, List.mem_of_getElem? (i := 22) (by decide +kernel), List.mem_of_getElem? (i := 548) (by decide +kernel), List.mem_of_getElem? (i := 549) (by decide +kernel)⟩
def lw_privs_1 : List (MethodName × Nat) := [(⟨"AlikeStore", "refuse", "(I)I"⟩, 8), (⟨"AlikeStore$Reader", "next", "()V"⟩, 8), (⟨"AlikeStore$Reader", "isWord", "(Ljava/lang/String;)Z"⟩, 8), (⟨"AlikeStore$Reader", "readBits", "()I"⟩, 8), (⟨"AlikeStore$Reader", "number", "(II)I"⟩, 8), (⟨"AlikeStore$Reader", "sign", "(I)I"⟩, 8), (⟨"AlikeStore$Reader", "readParts", "()I"⟩, 8), (⟨"AlikeStore$Reader", "readCode", "()I"⟩, 8), (⟨"AlikeStore$Reader", "binary", "()J"⟩, 8), (⟨"AlikeStore$Reader", "readFilter", "()I"⟩, 8), (⟨"AlikeStore$Reader", "readTest", "(I)I"⟩, 8), (⟨"AlikeStore$Reader", "readSide", "(I)I"⟩, 8), (⟨"AlikeStore$Reader", "readFact", "(I)I"⟩, 8), (⟨"AlikeStore$Reader", "valueKind", "()I"⟩, 8), (⟨"AlikeStore$Reader", "readComparison", "(I)I"⟩, 8), (⟨"AlikeStore", "answer", "(I)I"⟩, 8)]
theorem lw_r1 : ∀ q ∈ lw_privs_1, lw_okq q := List.forall_mem_cons.mpr ⟨lw_p0, List.forall_mem_cons.mpr ⟨lw_p1, List.forall_mem_cons.mpr ⟨lw_p2, List.forall_mem_cons.mpr ⟨lw_p3, List.forall_mem_cons.mpr ⟨lw_p4, List.forall_mem_cons.mpr ⟨lw_p5, List.forall_mem_cons.mpr ⟨lw_p6, List.forall_mem_cons.mpr ⟨lw_p7, List.forall_mem_cons.mpr ⟨lw_p8, List.forall_mem_cons.mpr ⟨lw_p9, List.forall_mem_cons.mpr ⟨lw_p10, List.forall_mem_cons.mpr ⟨lw_p11, List.forall_mem_cons.mpr ⟨lw_p12, List.forall_mem_cons.mpr ⟨lw_p13, List.forall_mem_cons.mpr ⟨lw_p14, List.forall_mem_cons.mpr ⟨lw_p15, fun _ h => absurd h List.not_mem_nil⟩⟩⟩⟩⟩⟩⟩⟩⟩⟩⟩⟩⟩⟩⟩⟩
theorem lw_p16 : lw_okq (⟨"AlikeStore$Filter", "holdsFact", "(LAlikeStore$Store;II)Z"⟩, 5) := ⟨⟨by decide +kernel, by decide +kernel⟩, List.mem_of_getElem? (i := 490) (by decide +kernel), List.mem_of_getElem? (i := 572) (by decide +kernel), List.mem_of_getElem? (i := 573) (by decide +kernel)⟩
theorem lw_p17 : lw_okq (⟨"AlikeStore$Filter", "valueOf", "(LAlikeStore$Store;II)I"⟩, 5) := ⟨⟨by decide +kernel, by decide +kernel⟩, List.mem_of_getElem? (i := 490) (by decide +kernel), List.mem_of_getElem? (i := 576) (by decide +kernel), List.mem_of_getElem? (i := 577) (by decide +kernel)⟩
theorem lw_p18 : lw_okq (⟨"AlikeStore", "isCode", "(I)Z"⟩, 8) := ⟨⟨by decide +kernel, by decide +kernel⟩, List.mem_of_getElem? (i := 22) (by decide +kernel), List.mem_of_getElem? (i := 607) (by decide +kernel), List.mem_of_getElem? (i := 608) (by decide +kernel)⟩
theorem lw_p19 : lw_okq (⟨"AlikeStore", "answerLong", "(J)J"⟩, 8) := ⟨⟨by decide +kernel, by decide +kernel⟩, List.mem_of_getElem? (i := 22) (by decide +kernel), List.mem_of_getElem? (i := 611) (by decide +kernel), List.mem_of_getElem? (i := 612) (by decide +kernel)⟩
theorem lw_p20 : lw_okq (⟨"AlikeStore", "isPart", "(I)Z"⟩, 8) := ⟨⟨by decide +kernel, by decide +kernel⟩, List.mem_of_getElem? (i := 22) (by decide +kernel), List.mem_of_getElem? (i := 623) (by decide +kernel), List.mem_of_getElem? (i := 624) (by decide +kernel)⟩
theorem lw_p21 : lw_okq (⟨"AlikeStore", "isNumber", "(J)Z"⟩, 8) := ⟨⟨by decide +kernel, by decide +kernel⟩, List.mem_of_getElem? (i := 22) (by decide +kernel), List.mem_of_getElem? (i := 636) (by decide +kernel), List.mem_of_getElem? (i := 637) (by decide +kernel)⟩
theorem lw_p22 : lw_okq (⟨"AlikeStore", "isBit", "(I)Z"⟩, 8) := ⟨⟨by decide +kernel, by decide +kernel⟩, List.mem_of_getElem? (i := 22) (by decide +kernel), List.mem_of_getElem? (i := 683) (by decide +kernel), List.mem_of_getElem? (i := 684) (by decide +kernel)⟩
theorem lw_p23 : lw_okq (⟨"AlikeStore", "isRadius", "(I)Z"⟩, 8) := ⟨⟨by decide +kernel, by decide +kernel⟩, List.mem_of_getElem? (i := 22) (by decide +kernel), List.mem_of_getElem? (i := 749) (by decide +kernel), List.mem_of_getElem? (i := 750) (by decide +kernel)⟩
theorem lw_p24 : lw_okq (⟨"AlikeStore$Budgets", "cheapestShare", "(II)I"⟩, 5) := ⟨⟨by decide +kernel, by decide +kernel⟩, List.mem_of_getElem? (i := 191) (by decide +kernel), List.mem_of_getElem? (i := 778) (by decide +kernel), List.mem_of_getElem? (i := 779) (by decide +kernel)⟩
theorem lw_p25 : lw_okq (⟨"AlikeStore$Budgets", "costWith", "(III)I"⟩, 5) := ⟨⟨by decide +kernel, by decide +kernel⟩, List.mem_of_getElem? (i := 191) (by decide +kernel), List.mem_of_getElem? (i := 782) (by decide +kernel), List.mem_of_getElem? (i := 783) (by decide +kernel)⟩
theorem lw_p26 : lw_okq (⟨"AlikeStore$Ranking", "insert", "(II)V"⟩, 4) := ⟨⟨by decide +kernel, by decide +kernel⟩, List.mem_of_getElem? (i := 217) (by decide +kernel), List.mem_of_getElem? (i := 820) (by decide +kernel), List.mem_of_getElem? (i := 821) (by decide +kernel)⟩
theorem lw_p27 : lw_okq (⟨"AlikeStore", "pairAt", "(III)I"⟩, 8) := ⟨⟨by decide +kernel, by decide +kernel⟩, List.mem_of_getElem? (i := 22) (by decide +kernel), List.mem_of_getElem? (i := 852) (by decide +kernel), List.mem_of_getElem? (i := 853) (by decide +kernel)⟩
theorem lw_p28 : lw_okq (⟨"AlikeStore", "packPair", "(II)I"⟩, 8) := ⟨⟨by decide +kernel, by decide +kernel⟩, List.mem_of_getElem? (i := 22) (by decide +kernel), List.mem_of_getElem? (i := 856) (by decide +kernel), List.mem_of_getElem? (i := 857) (by decide +kernel)⟩
theorem lw_p29 : lw_okq (⟨"AlikeStore", "closestPair", "(I)I"⟩, 8) := ⟨⟨by decide +kernel, by decide +kernel⟩, List.mem_of_getElem? (i := 22) (by decide +kernel), List.mem_of_getElem? (i := 871) (by decide +kernel), List.mem_of_getElem? (i := 872) (by decide +kernel)⟩
theorem lw_p30 : lw_okq (⟨"AlikeStore", "clusterWith", "(III)I"⟩, 8) := ⟨⟨by decide +kernel, by decide +kernel⟩, List.mem_of_getElem? (i := 22) (by decide +kernel), List.mem_of_getElem? (i := 879) (by decide +kernel), List.mem_of_getElem? (i := 880) (by decide +kernel)⟩
theorem lw_p31 : lw_okq (⟨"AlikeStore", "middleOf", "(I)I"⟩, 8) := ⟨⟨by decide +kernel, by decide +kernel⟩, List.mem_of_getElem? (i := 22) (by decide +kernel), List.mem_of_getElem? (i := 890) (by decide +kernel), List.mem_of_getElem? (i := 891) (by decide +kernel)⟩
def lw_privs_2 : List (MethodName × Nat) := [(⟨"AlikeStore$Filter", "holdsFact", "(LAlikeStore$Store;II)Z"⟩, 5), (⟨"AlikeStore$Filter", "valueOf", "(LAlikeStore$Store;II)I"⟩, 5), (⟨"AlikeStore", "isCode", "(I)Z"⟩, 8), (⟨"AlikeStore", "answerLong", "(J)J"⟩, 8), (⟨"AlikeStore", "isPart", "(I)Z"⟩, 8), (⟨"AlikeStore", "isNumber", "(J)Z"⟩, 8), (⟨"AlikeStore", "isBit", "(I)Z"⟩, 8), (⟨"AlikeStore", "isRadius", "(I)Z"⟩, 8), (⟨"AlikeStore$Budgets", "cheapestShare", "(II)I"⟩, 5), (⟨"AlikeStore$Budgets", "costWith", "(III)I"⟩, 5), (⟨"AlikeStore$Ranking", "insert", "(II)V"⟩, 4), (⟨"AlikeStore", "pairAt", "(III)I"⟩, 8), (⟨"AlikeStore", "packPair", "(II)I"⟩, 8), (⟨"AlikeStore", "closestPair", "(I)I"⟩, 8), (⟨"AlikeStore", "clusterWith", "(III)I"⟩, 8), (⟨"AlikeStore", "middleOf", "(I)I"⟩, 8)]
theorem lw_r2 : ∀ q ∈ lw_privs_2, lw_okq q := List.forall_mem_cons.mpr ⟨lw_p16, List.forall_mem_cons.mpr ⟨lw_p17, List.forall_mem_cons.mpr ⟨lw_p18, List.forall_mem_cons.mpr ⟨lw_p19, List.forall_mem_cons.mpr ⟨lw_p20, List.forall_mem_cons.mpr ⟨lw_p21, List.forall_mem_cons.mpr ⟨lw_p22, List.forall_mem_cons.mpr ⟨lw_p23, List.forall_mem_cons.mpr ⟨lw_p24, List.forall_mem_cons.mpr ⟨lw_p25, List.forall_mem_cons.mpr ⟨lw_p26, List.forall_mem_cons.mpr ⟨lw_p27, List.forall_mem_cons.mpr ⟨lw_p28, List.forall_mem_cons.mpr ⟨lw_p29, List.forall_mem_cons.mpr ⟨lw_p30, List.forall_mem_cons.mpr ⟨lw_p31, fun _ h => absurd h List.not_mem_nil⟩⟩⟩⟩⟩⟩⟩⟩⟩⟩⟩⟩⟩⟩⟩⟩
theorem lw_p32 : lw_okq (⟨"AlikeStore", "costParted", "(III)I"⟩, 8) := ⟨⟨by decide +kernel, by decide +kernel⟩, List.mem_of_getElem? (i := 22) (by decide +kernel), List.mem_of_getElem? (i := 942) (by decide +kernel), List.mem_of_getElem? (i := 943) (by decide +kernel)⟩
theorem lw_p33 : lw_okq (⟨"AlikeStoreModel", "begins", "(I)V"⟩, 24) := ⟨⟨by decide +kernel, by decide +kernel⟩, List.mem_of_getElem? (i := 954) (by decide +kernel), List.mem_of_getElem? (i := 961) (by decide +kernel), List.mem_of_getElem? (i := 962) (by decide +kernel)⟩
theorem lw_p34 : lw_okq (⟨"AlikeStoreModel", "puts", "(IJ)V"⟩, 24) := ⟨⟨by decide +kernel, by decide +kernel⟩, List.mem_of_getElem? (i := 954) (by decide +kernel), List.mem_of_getElem? (i := 965) (by decide +kernel), List.mem_of_getElem? (i := 966) (by decide +kernel)⟩
theorem lw_p35 : lw_okq (⟨"AlikeStoreModel", "halves", "()V"⟩, 24) := ⟨⟨by decide +kernel, by decide +kernel⟩, List.mem_of_getElem? (i := 954) (by decide +kernel), List.mem_of_getElem? (i := 969) (by decide +kernel), List.mem_of_getElem? (i := 970) (by decide +kernel)⟩
theorem lw_p36 : lw_okq (⟨"AlikeStoreModel", "of", "(I)J"⟩, 24) := ⟨⟨by decide +kernel, by decide +kernel⟩, List.mem_of_getElem? (i := 954) (by decide +kernel), List.mem_of_getElem? (i := 974) (by decide +kernel), List.mem_of_getElem? (i := 975) (by decide +kernel)⟩
theorem lw_p37 : lw_okq (⟨"AlikeStoreModel", "four", "(I)V"⟩, 24) := ⟨⟨by decide +kernel, by decide +kernel⟩, List.mem_of_getElem? (i := 954) (by decide +kernel), List.mem_of_getElem? (i := 1059) (by decide +kernel), List.mem_of_getElem? (i := 1060) (by decide +kernel)⟩
theorem lw_p38 : lw_okq (⟨"AlikeStoreModel", "refuse", "(I)I"⟩, 24) := ⟨⟨by decide +kernel, by decide +kernel⟩, List.mem_of_getElem? (i := 954) (by decide +kernel), List.mem_of_getElem? (i := 1070) (by decide +kernel), List.mem_of_getElem? (i := 1071) (by decide +kernel)⟩
theorem lw_p39 : lw_okq (⟨"AlikeStoreModel", "copies", "(II)V"⟩, 24) := ⟨⟨by decide +kernel, by decide +kernel⟩, List.mem_of_getElem? (i := 954) (by decide +kernel), List.mem_of_getElem? (i := 1074) (by decide +kernel), List.mem_of_getElem? (i := 1075) (by decide +kernel)⟩
theorem lw_p40 : lw_okq (⟨"AlikeStoreModel", "ahead", "()V"⟩, 24) := ⟨⟨by decide +kernel, by decide +kernel⟩, List.mem_of_getElem? (i := 954) (by decide +kernel), List.mem_of_getElem? (i := 1078) (by decide +kernel), List.mem_of_getElem? (i := 1079) (by decide +kernel)⟩
theorem lw_p41 : lw_okq (⟨"AlikeStoreModel", "byteAt", "(I)I"⟩, 24) := ⟨⟨by decide +kernel, by decide +kernel⟩, List.mem_of_getElem? (i := 954) (by decide +kernel), List.mem_of_getElem? (i := 1082) (by decide +kernel), List.mem_of_getElem? (i := 1083) (by decide +kernel)⟩
theorem lw_p42 : lw_okq (⟨"AlikeStoreModel", "key", "()I"⟩, 24) := ⟨⟨by decide +kernel, by decide +kernel⟩, List.mem_of_getElem? (i := 954) (by decide +kernel), List.mem_of_getElem? (i := 1092) (by decide +kernel), List.mem_of_getElem? (i := 1093) (by decide +kernel)⟩
theorem lw_p43 : lw_okq (⟨"AlikeStoreModel", "theBits", "()Z"⟩, 24) := ⟨⟨by decide +kernel, by decide +kernel⟩, List.mem_of_getElem? (i := 954) (by decide +kernel), List.mem_of_getElem? (i := 1099) (by decide +kernel), List.mem_of_getElem? (i := 1100) (by decide +kernel)⟩
theorem lw_p44 : lw_okq (⟨"AlikeStoreModel", "isNumberHere", "(II)Z"⟩, 24) := ⟨⟨by decide +kernel, by decide +kernel⟩, List.mem_of_getElem? (i := 954) (by decide +kernel), List.mem_of_getElem? (i := 1103) (by decide +kernel), List.mem_of_getElem? (i := 1104) (by decide +kernel)⟩
theorem lw_p45 : lw_okq (⟨"AlikeStoreModel", "fails", "(I)Z"⟩, 24) := ⟨⟨by decide +kernel, by decide +kernel⟩, List.mem_of_getElem? (i := 954) (by decide +kernel), List.mem_of_getElem? (i := 1107) (by decide +kernel), List.mem_of_getElem? (i := 1108) (by decide +kernel)⟩
theorem lw_p46 : lw_okq (⟨"AlikeStoreModel", "takesSign", "(I)Z"⟩, 24) := ⟨⟨by decide +kernel, by decide +kernel⟩, List.mem_of_getElem? (i := 954) (by decide +kernel), List.mem_of_getElem? (i := 1113) (by decide +kernel), List.mem_of_getElem? (i := 1114) (by decide +kernel)⟩
theorem lw_p47 : lw_okq (⟨"AlikeStoreModel", "isSign", "(I)Z"⟩, 24) := ⟨⟨by decide +kernel, by decide +kernel⟩, List.mem_of_getElem? (i := 954) (by decide +kernel), List.mem_of_getElem? (i := 1117) (by decide +kernel), List.mem_of_getElem? (i := 1118) (by decide +kernel)⟩
def lw_privs_3 : List (MethodName × Nat) := [(⟨"AlikeStore", "costParted", "(III)I"⟩, 8), (⟨"AlikeStoreModel", "begins", "(I)V"⟩, 24), (⟨"AlikeStoreModel", "puts", "(IJ)V"⟩, 24), (⟨"AlikeStoreModel", "halves", "()V"⟩, 24), (⟨"AlikeStoreModel", "of", "(I)J"⟩, 24), (⟨"AlikeStoreModel", "four", "(I)V"⟩, 24), (⟨"AlikeStoreModel", "refuse", "(I)I"⟩, 24), (⟨"AlikeStoreModel", "copies", "(II)V"⟩, 24), (⟨"AlikeStoreModel", "ahead", "()V"⟩, 24), (⟨"AlikeStoreModel", "byteAt", "(I)I"⟩, 24), (⟨"AlikeStoreModel", "key", "()I"⟩, 24), (⟨"AlikeStoreModel", "theBits", "()Z"⟩, 24), (⟨"AlikeStoreModel", "isNumberHere", "(II)Z"⟩, 24), (⟨"AlikeStoreModel", "fails", "(I)Z"⟩, 24), (⟨"AlikeStoreModel", "takesSign", "(I)Z"⟩, 24), (⟨"AlikeStoreModel", "isSign", "(I)Z"⟩, 24)]
theorem lw_r3 : ∀ q ∈ lw_privs_3, lw_okq q := List.forall_mem_cons.mpr ⟨lw_p32, List.forall_mem_cons.mpr ⟨lw_p33, List.forall_mem_cons.mpr ⟨lw_p34, List.forall_mem_cons.mpr ⟨lw_p35, List.forall_mem_cons.mpr ⟨lw_p36, List.forall_mem_cons.mpr ⟨lw_p37, List.forall_mem_cons.mpr ⟨lw_p38, List.forall_mem_cons.mpr ⟨lw_p39, List.forall_mem_cons.mpr ⟨lw_p40, List.forall_mem_cons.mpr ⟨lw_p41, List.forall_mem_cons.mpr ⟨lw_p42, List.forall_mem_cons.mpr ⟨lw_p43, List.forall_mem_cons.mpr ⟨lw_p44, List.forall_mem_cons.mpr ⟨lw_p45, List.forall_mem_cons.mpr ⟨lw_p46, List.forall_mem_cons.mpr ⟨lw_p47, fun _ h => absurd h List.not_mem_nil⟩⟩⟩⟩⟩⟩⟩⟩⟩⟩⟩⟩⟩⟩⟩⟩
theorem lw_p48 : lw_okq (⟨"AlikeStoreModel", "takes", "()Z"⟩, 24) := ⟨⟨by decide +kernel, by decide +kernel⟩, List.mem_of_getElem? (i := 954) (by decide +kernel), List.mem_of_getElem? (i := 1121) (by decide +kernel), List.mem_of_getElem? (i := 1122) (by decide +kernel)⟩
theorem lw_p49 : lw_okq (⟨"AlikeStoreModel", "theParts", "()Z"⟩, 24) := ⟨⟨by decide +kernel, by decide +kernel⟩, List.mem_of_getElem? (i := 954) (by decide +kernel), List.mem_of_getElem? (i := 1125) (by decide +kernel), List.mem_of_getElem? (i := 1126) (by decide +kernel)⟩
theorem lw_p50 : lw_okq (⟨"AlikeStoreModel", "parts", "()I"⟩, 24) := ⟨⟨by decide +kernel, by decide +kernel⟩, List.mem_of_getElem? (i := 954) (by decide +kernel), List.mem_of_getElem? (i := 1129) (by decide +kernel), List.mem_of_getElem? (i := 1130) (by decide +kernel)⟩
theorem lw_p51 : lw_okq (⟨"AlikeStoreModel", "bits", "()I"⟩, 24) := ⟨⟨by decide +kernel, by decide +kernel⟩, List.mem_of_getElem? (i := 954) (by decide +kernel), List.mem_of_getElem? (i := 1133) (by decide +kernel), List.mem_of_getElem? (i := 1134) (by decide +kernel)⟩
theorem lw_p52 : lw_okq (⟨"AlikeStoreModel", "aLine", "()Z"⟩, 24) := ⟨⟨by decide +kernel, by decide +kernel⟩, List.mem_of_getElem? (i := 954) (by decide +kernel), List.mem_of_getElem? (i := 1137) (by decide +kernel), List.mem_of_getElem? (i := 1138) (by decide +kernel)⟩
theorem lw_p53 : lw_okq (⟨"AlikeStoreModel", "aCode", "()Z"⟩, 24) := ⟨⟨by decide +kernel, by decide +kernel⟩, List.mem_of_getElem? (i := 954) (by decide +kernel), List.mem_of_getElem? (i := 1141) (by decide +kernel), List.mem_of_getElem? (i := 1142) (by decide +kernel)⟩
theorem lw_p54 : lw_okq (⟨"AlikeStoreModel", "many", "()I"⟩, 24) := ⟨⟨by decide +kernel, by decide +kernel⟩, List.mem_of_getElem? (i := 954) (by decide +kernel), List.mem_of_getElem? (i := 1145) (by decide +kernel), List.mem_of_getElem? (i := 1146) (by decide +kernel)⟩
theorem lw_p55 : lw_okq (⟨"AlikeStoreModel", "isBinaryHere", "()Z"⟩, 24) := ⟨⟨by decide +kernel, by decide +kernel⟩, List.mem_of_getElem? (i := 954) (by decide +kernel), List.mem_of_getElem? (i := 1149) (by decide +kernel), List.mem_of_getElem? (i := 1150) (by decide +kernel)⟩
theorem lw_p56 : lw_okq (⟨"AlikeStoreModel", "found", "(J)I"⟩, 24) := ⟨⟨by decide +kernel, by decide +kernel⟩, List.mem_of_getElem? (i := 954) (by decide +kernel), List.mem_of_getElem? (i := 1153) (by decide +kernel), List.mem_of_getElem? (i := 1154) (by decide +kernel)⟩
theorem lw_p57 : lw_okq (⟨"AlikeStoreModel", "codeOf", "(I)J"⟩, 24) := ⟨⟨by decide +kernel, by decide +kernel⟩, List.mem_of_getElem? (i := 954) (by decide +kernel), List.mem_of_getElem? (i := 1157) (by decide +kernel), List.mem_of_getElem? (i := 1158) (by decide +kernel)⟩
theorem lw_p58 : lw_okq (⟨"AlikeStoreModel", "aFilter", "()Z"⟩, 24) := ⟨⟨by decide +kernel, by decide +kernel⟩, List.mem_of_getElem? (i := 954) (by decide +kernel), List.mem_of_getElem? (i := 1161) (by decide +kernel), List.mem_of_getElem? (i := 1162) (by decide +kernel)⟩
theorem lw_p59 : lw_okq (⟨"AlikeStoreModel", "test", "()Z"⟩, 24) := ⟨⟨by decide +kernel, by decide +kernel⟩, List.mem_of_getElem? (i := 954) (by decide +kernel), List.mem_of_getElem? (i := 1165) (by decide +kernel), List.mem_of_getElem? (i := 1166) (by decide +kernel)⟩
theorem lw_p60 : lw_okq (⟨"AlikeStoreModel", "side", "()Z"⟩, 24) := ⟨⟨by decide +kernel, by decide +kernel⟩, List.mem_of_getElem? (i := 954) (by decide +kernel), List.mem_of_getElem? (i := 1169) (by decide +kernel), List.mem_of_getElem? (i := 1170) (by decide +kernel)⟩
theorem lw_p61 : lw_okq (⟨"AlikeStoreModel", "fact", "()Z"⟩, 24) := ⟨⟨by decide +kernel, by decide +kernel⟩, List.mem_of_getElem? (i := 954) (by decide +kernel), List.mem_of_getElem? (i := 1173) (by decide +kernel), List.mem_of_getElem? (i := 1174) (by decide +kernel)⟩
theorem lw_p62 : lw_okq (⟨"AlikeStoreModel", "sinks", "()Z"⟩, 24) := ⟨⟨by decide +kernel, by decide +kernel⟩, List.mem_of_getElem? (i := 954) (by decide +kernel), List.mem_of_getElem? (i := 1177) (by decide +kernel), List.mem_of_getElem? (i := 1178) (by decide +kernel)⟩
theorem lw_p63 : lw_okq (⟨"AlikeStoreModel", "emitsNot", "()Z"⟩, 24) := ⟨⟨by decide +kernel, by decide +kernel⟩, List.mem_of_getElem? (i := 954) (by decide +kernel), List.mem_of_getElem? (i := 1181) (by decide +kernel), List.mem_of_getElem? (i := 1182) (by decide +kernel)⟩
def lw_privs_4 : List (MethodName × Nat) := [(⟨"AlikeStoreModel", "takes", "()Z"⟩, 24), (⟨"AlikeStoreModel", "theParts", "()Z"⟩, 24), (⟨"AlikeStoreModel", "parts", "()I"⟩, 24), (⟨"AlikeStoreModel", "bits", "()I"⟩, 24), (⟨"AlikeStoreModel", "aLine", "()Z"⟩, 24), (⟨"AlikeStoreModel", "aCode", "()Z"⟩, 24), (⟨"AlikeStoreModel", "many", "()I"⟩, 24), (⟨"AlikeStoreModel", "isBinaryHere", "()Z"⟩, 24), (⟨"AlikeStoreModel", "found", "(J)I"⟩, 24), (⟨"AlikeStoreModel", "codeOf", "(I)J"⟩, 24), (⟨"AlikeStoreModel", "aFilter", "()Z"⟩, 24), (⟨"AlikeStoreModel", "test", "()Z"⟩, 24), (⟨"AlikeStoreModel", "side", "()Z"⟩, 24), (⟨"AlikeStoreModel", "fact", "()Z"⟩, 24), (⟨"AlikeStoreModel", "sinks", "()Z"⟩, 24), (⟨"AlikeStoreModel", "emitsNot", "()Z"⟩, 24)]
theorem lw_r4 : ∀ q ∈ lw_privs_4, lw_okq q := List.forall_mem_cons.mpr ⟨lw_p48, List.forall_mem_cons.mpr ⟨lw_p49, List.forall_mem_cons.mpr ⟨lw_p50, List.forall_mem_cons.mpr ⟨lw_p51, List.forall_mem_cons.mpr ⟨lw_p52, List.forall_mem_cons.mpr ⟨lw_p53, List.forall_mem_cons.mpr ⟨lw_p54, List.forall_mem_cons.mpr ⟨lw_p55, List.forall_mem_cons.mpr ⟨lw_p56, List.forall_mem_cons.mpr ⟨lw_p57, List.forall_mem_cons.mpr ⟨lw_p58, List.forall_mem_cons.mpr ⟨lw_p59, List.forall_mem_cons.mpr ⟨lw_p60, List.forall_mem_cons.mpr ⟨lw_p61, List.forall_mem_cons.mpr ⟨lw_p62, List.forall_mem_cons.mpr ⟨lw_p63, fun _ h => absurd h List.not_mem_nil⟩⟩⟩⟩⟩⟩⟩⟩⟩⟩⟩⟩⟩⟩⟩⟩
theorem lw_p64 : lw_okq (⟨"AlikeStoreModel", "emits", "(IJ)V"⟩, 24) := ⟨⟨by decide +kernel, by decide +kernel⟩, List.mem_of_getElem? (i := 954) (by decide +kernel), List.mem_of_getElem? (i := 1185) (by decide +kernel), List.mem_of_getElem? (i := 1186) (by decide +kernel)⟩
theorem lw_p65 : lw_okq (⟨"AlikeStoreModel", "rises", "()Z"⟩, 24) := ⟨⟨by decide +kernel, by decide +kernel⟩, List.mem_of_getElem? (i := 954) (by decide +kernel), List.mem_of_getElem? (i := 1189) (by decide +kernel), List.mem_of_getElem? (i := 1190) (by decide +kernel)⟩
theorem lw_p66 : lw_okq (⟨"AlikeStoreModel", "valueHere", "()Z"⟩, 24) := ⟨⟨by decide +kernel, by decide +kernel⟩, List.mem_of_getElem? (i := 954) (by decide +kernel), List.mem_of_getElem? (i := 1193) (by decide +kernel), List.mem_of_getElem? (i := 1194) (by decide +kernel)⟩
theorem lw_p67 : lw_okq (⟨"AlikeStoreModel", "acted", "(I)V"⟩, 24) := ⟨⟨by decide +kernel, by decide +kernel⟩, List.mem_of_getElem? (i := 954) (by decide +kernel), List.mem_of_getElem? (i := 1198) (by decide +kernel), List.mem_of_getElem? (i := 1199) (by decide +kernel)⟩
theorem lw_p68 : lw_okq (⟨"AlikeStoreModel", "gives", "(I)I"⟩, 24) := ⟨⟨by decide +kernel, by decide +kernel⟩, List.mem_of_getElem? (i := 954) (by decide +kernel), List.mem_of_getElem? (i := 1202) (by decide +kernel), List.mem_of_getElem? (i := 1203) (by decide +kernel)⟩
theorem lw_p69 : lw_okq (⟨"AlikeStoreModel", "counting", "()J"⟩, 24) := ⟨⟨by decide +kernel, by decide +kernel⟩, List.mem_of_getElem? (i := 954) (by decide +kernel), List.mem_of_getElem? (i := 1214) (by decide +kernel), List.mem_of_getElem? (i := 1215) (by decide +kernel)⟩
theorem lw_p70 : lw_okq (⟨"AlikeStoreModel", "isCounting", "(I)Z"⟩, 24) := ⟨⟨by decide +kernel, by decide +kernel⟩, List.mem_of_getElem? (i := 954) (by decide +kernel), List.mem_of_getElem? (i := 1218) (by decide +kernel), List.mem_of_getElem? (i := 1219) (by decide +kernel)⟩
theorem lw_p71 : lw_okq (⟨"AlikeStoreModel", "valueOf", "(IIJ)J"⟩, 24) := ⟨⟨by decide +kernel, by decide +kernel⟩, List.mem_of_getElem? (i := 954) (by decide +kernel), List.mem_of_getElem? (i := 1223) (by decide +kernel), List.mem_of_getElem? (i := 1224) (by decide +kernel)⟩
theorem lw_p72 : lw_okq (⟨"AlikeStoreModel", "keyOf", "(JI)J"⟩, 24) := ⟨⟨by decide +kernel, by decide +kernel⟩, List.mem_of_getElem? (i := 954) (by decide +kernel), List.mem_of_getElem? (i := 1230) (by decide +kernel), List.mem_of_getElem? (i := 1231) (by decide +kernel)⟩
theorem lw_p73 : lw_okq (⟨"AlikeStoreModel", "breadthOf", "(I)I"⟩, 24) := ⟨⟨by decide +kernel, by decide +kernel⟩, List.mem_of_getElem? (i := 954) (by decide +kernel), List.mem_of_getElem? (i := 1234) (by decide +kernel), List.mem_of_getElem? (i := 1235) (by decide +kernel)⟩
theorem lw_p74 : lw_okq (⟨"AlikeStoreModel", "isCode", "(I)Z"⟩, 24) := ⟨⟨by decide +kernel, by decide +kernel⟩, List.mem_of_getElem? (i := 954) (by decide +kernel), List.mem_of_getElem? (i := 1245) (by decide +kernel), List.mem_of_getElem? (i := 1246) (by decide +kernel)⟩
theorem lw_p75 : lw_okq (⟨"AlikeStoreModel", "gives", "(J)J"⟩, 24) := ⟨⟨by decide +kernel, by decide +kernel⟩, List.mem_of_getElem? (i := 954) (by decide +kernel), List.mem_of_getElem? (i := 1249) (by decide +kernel), List.mem_of_getElem? (i := 1250) (by decide +kernel)⟩
theorem lw_p76 : lw_okq (⟨"AlikeStoreModel", "isPart", "(I)Z"⟩, 24) := ⟨⟨by decide +kernel, by decide +kernel⟩, List.mem_of_getElem? (i := 954) (by decide +kernel), List.mem_of_getElem? (i := 1261) (by decide +kernel), List.mem_of_getElem? (i := 1262) (by decide +kernel)⟩
theorem lw_p77 : lw_okq (⟨"AlikeStoreModel", "isNumber", "(J)Z"⟩, 24) := ⟨⟨by decide +kernel, by decide +kernel⟩, List.mem_of_getElem? (i := 954) (by decide +kernel), List.mem_of_getElem? (i := 1273) (by decide +kernel), List.mem_of_getElem? (i := 1274) (by decide +kernel)⟩
theorem lw_p78 : lw_okq (⟨"AlikeStoreModel", "isBit", "(I)Z"⟩, 24) := ⟨⟨by decide +kernel, by decide +kernel⟩, List.mem_of_getElem? (i := 954) (by decide +kernel), List.mem_of_getElem? (i := 1308) (by decide +kernel), List.mem_of_getElem? (i := 1309) (by decide +kernel)⟩
theorem lw_p79 : lw_okq (⟨"AlikeStoreModel", "isRadius", "(I)Z"⟩, 24) := ⟨⟨by decide +kernel, by decide +kernel⟩, List.mem_of_getElem? (i := 954) (by decide +kernel), List.mem_of_getElem? (i := 1349) (by decide +kernel), List.mem_of_getElem? (i := 1350) (by decide +kernel)⟩
def lw_privs_5 : List (MethodName × Nat) := [(⟨"AlikeStoreModel", "emits", "(IJ)V"⟩, 24), (⟨"AlikeStoreModel", "rises", "()Z"⟩, 24), (⟨"AlikeStoreModel", "valueHere", "()Z"⟩, 24), (⟨"AlikeStoreModel", "acted", "(I)V"⟩, 24), (⟨"AlikeStoreModel", "gives", "(I)I"⟩, 24), (⟨"AlikeStoreModel", "counting", "()J"⟩, 24), (⟨"AlikeStoreModel", "isCounting", "(I)Z"⟩, 24), (⟨"AlikeStoreModel", "valueOf", "(IIJ)J"⟩, 24), (⟨"AlikeStoreModel", "keyOf", "(JI)J"⟩, 24), (⟨"AlikeStoreModel", "breadthOf", "(I)I"⟩, 24), (⟨"AlikeStoreModel", "isCode", "(I)Z"⟩, 24), (⟨"AlikeStoreModel", "gives", "(J)J"⟩, 24), (⟨"AlikeStoreModel", "isPart", "(I)Z"⟩, 24), (⟨"AlikeStoreModel", "isNumber", "(J)Z"⟩, 24), (⟨"AlikeStoreModel", "isBit", "(I)Z"⟩, 24), (⟨"AlikeStoreModel", "isRadius", "(I)Z"⟩, 24)]
theorem lw_r5 : ∀ q ∈ lw_privs_5, lw_okq q := List.forall_mem_cons.mpr ⟨lw_p64, List.forall_mem_cons.mpr ⟨lw_p65, List.forall_mem_cons.mpr ⟨lw_p66, List.forall_mem_cons.mpr ⟨lw_p67, List.forall_mem_cons.mpr ⟨lw_p68, List.forall_mem_cons.mpr ⟨lw_p69, List.forall_mem_cons.mpr ⟨lw_p70, List.forall_mem_cons.mpr ⟨lw_p71, List.forall_mem_cons.mpr ⟨lw_p72, List.forall_mem_cons.mpr ⟨lw_p73, List.forall_mem_cons.mpr ⟨lw_p74, List.forall_mem_cons.mpr ⟨lw_p75, List.forall_mem_cons.mpr ⟨lw_p76, List.forall_mem_cons.mpr ⟨lw_p77, List.forall_mem_cons.mpr ⟨lw_p78, List.forall_mem_cons.mpr ⟨lw_p79, fun _ h => absurd h List.not_mem_nil⟩⟩⟩⟩⟩⟩⟩⟩⟩⟩⟩⟩⟩⟩⟩⟩
theorem lw_p80 : lw_okq (⟨"AlikeStoreModel", "ownParts", "()V"⟩, 24) := ⟨⟨by decide +kernel, by decide +kernel⟩, List.mem_of_getElem? (i := 954) (by decide +kernel), List.mem_of_getElem? (i := 1353) (by decide +kernel), List.mem_of_getElem? (i := 1354) (by decide +kernel)⟩
theorem lw_p81 : lw_okq (⟨"AlikeStoreModel", "budgetsOf", "(JIJ)I"⟩, 24) := ⟨⟨by decide +kernel, by decide +kernel⟩, List.mem_of_getElem? (i := 954) (by decide +kernel), List.mem_of_getElem? (i := 1357) (by decide +kernel), List.mem_of_getElem? (i := 1358) (by decide +kernel)⟩
theorem lw_p82 : lw_okq (⟨"AlikeStoreModel", "costOf", "(JIIJ)I"⟩, 24) := ⟨⟨by decide +kernel, by decide +kernel⟩, List.mem_of_getElem? (i := 954) (by decide +kernel), List.mem_of_getElem? (i := 1361) (by decide +kernel), List.mem_of_getElem? (i := 1362) (by decide +kernel)⟩
theorem lw_p83 : lw_okq (⟨"AlikeStoreModel", "keyAt", "(JI)J"⟩, 24) := ⟨⟨by decide +kernel, by decide +kernel⟩, List.mem_of_getElem? (i := 954) (by decide +kernel), List.mem_of_getElem? (i := 1365) (by decide +kernel), List.mem_of_getElem? (i := 1366) (by decide +kernel)⟩
theorem lw_p84 : lw_okq (⟨"AlikeStoreModel", "isCandidate", "(IJ)Z"⟩, 24) := ⟨⟨by decide +kernel, by decide +kernel⟩, List.mem_of_getElem? (i := 954) (by decide +kernel), List.mem_of_getElem? (i := 1380) (by decide +kernel), List.mem_of_getElem? (i := 1381) (by decide +kernel)⟩
theorem lw_p85 : lw_okq (⟨"AlikeStoreModel", "nearSet", "(JI)J"⟩, 24) := ⟨⟨by decide +kernel, by decide +kernel⟩, List.mem_of_getElem? (i := 954) (by decide +kernel), List.mem_of_getElem? (i := 1384) (by decide +kernel), List.mem_of_getElem? (i := 1385) (by decide +kernel)⟩
theorem lw_p86 : lw_okq (⟨"AlikeStoreModel", "ranks", "(JJ)I"⟩, 24) := ⟨⟨by decide +kernel, by decide +kernel⟩, List.mem_of_getElem? (i := 954) (by decide +kernel), List.mem_of_getElem? (i := 1392) (by decide +kernel), List.mem_of_getElem? (i := 1393) (by decide +kernel)⟩
theorem lw_p87 : lw_okq (⟨"AlikeStoreModel", "isPair", "(IIIJ)Z"⟩, 24) := ⟨⟨by decide +kernel, by decide +kernel⟩, List.mem_of_getElem? (i := 954) (by decide +kernel), List.mem_of_getElem? (i := 1409) (by decide +kernel), List.mem_of_getElem? (i := 1410) (by decide +kernel)⟩
theorem lw_p88 : lw_okq (⟨"AlikeStoreModel", "clusterOf", "(IIJ)J"⟩, 24) := ⟨⟨by decide +kernel, by decide +kernel⟩, List.mem_of_getElem? (i := 954) (by decide +kernel), List.mem_of_getElem? (i := 1429) (by decide +kernel), List.mem_of_getElem? (i := 1430) (by decide +kernel)⟩
theorem lw_p89 : lw_okq (⟨"AlikeStoreModel", "middle", "(J)I"⟩, 24) := ⟨⟨by decide +kernel, by decide +kernel⟩, List.mem_of_getElem? (i := 954) (by decide +kernel), List.mem_of_getElem? (i := 1440) (by decide +kernel), List.mem_of_getElem? (i := 1441) (by decide +kernel)⟩
theorem lw_p90 : lw_okq (⟨"AlikeStoreModel", "onesAt", "(IJ)I"⟩, 24) := ⟨⟨by decide +kernel, by decide +kernel⟩, List.mem_of_getElem? (i := 954) (by decide +kernel), List.mem_of_getElem? (i := 1457) (by decide +kernel), List.mem_of_getElem? (i := 1458) (by decide +kernel)⟩
theorem lw_p91 : lw_okq (⟨"AlikeStoreModel", "isParted", "(I)Z"⟩, 24) := ⟨⟨by decide +kernel, by decide +kernel⟩, List.mem_of_getElem? (i := 954) (by decide +kernel), List.mem_of_getElem? (i := 1478) (by decide +kernel), List.mem_of_getElem? (i := 1479) (by decide +kernel)⟩
theorem lw_p92 : lw_okq (⟨"AlikeStoreModel", "partedBy", "(II)I"⟩, 24) := ⟨⟨by decide +kernel, by decide +kernel⟩, List.mem_of_getElem? (i := 954) (by decide +kernel), List.mem_of_getElem? (i := 1482) (by decide +kernel), List.mem_of_getElem? (i := 1483) (by decide +kernel)⟩
def lw_privs_6 : List (MethodName × Nat) := [(⟨"AlikeStoreModel", "ownParts", "()V"⟩, 24), (⟨"AlikeStoreModel", "budgetsOf", "(JIJ)I"⟩, 24), (⟨"AlikeStoreModel", "costOf", "(JIIJ)I"⟩, 24), (⟨"AlikeStoreModel", "keyAt", "(JI)J"⟩, 24), (⟨"AlikeStoreModel", "isCandidate", "(IJ)Z"⟩, 24), (⟨"AlikeStoreModel", "nearSet", "(JI)J"⟩, 24), (⟨"AlikeStoreModel", "ranks", "(JJ)I"⟩, 24), (⟨"AlikeStoreModel", "isPair", "(IIIJ)Z"⟩, 24), (⟨"AlikeStoreModel", "clusterOf", "(IIJ)J"⟩, 24), (⟨"AlikeStoreModel", "middle", "(J)I"⟩, 24), (⟨"AlikeStoreModel", "onesAt", "(IJ)I"⟩, 24), (⟨"AlikeStoreModel", "isParted", "(I)Z"⟩, 24), (⟨"AlikeStoreModel", "partedBy", "(II)I"⟩, 24)]
theorem lw_r6 : ∀ q ∈ lw_privs_6, lw_okq q := List.forall_mem_cons.mpr ⟨lw_p80, List.forall_mem_cons.mpr ⟨lw_p81, List.forall_mem_cons.mpr ⟨lw_p82, List.forall_mem_cons.mpr ⟨lw_p83, List.forall_mem_cons.mpr ⟨lw_p84, List.forall_mem_cons.mpr ⟨lw_p85, List.forall_mem_cons.mpr ⟨lw_p86, List.forall_mem_cons.mpr ⟨lw_p87, List.forall_mem_cons.mpr ⟨lw_p88, List.forall_mem_cons.mpr ⟨lw_p89, List.forall_mem_cons.mpr ⟨lw_p90, List.forall_mem_cons.mpr ⟨lw_p91, List.forall_mem_cons.mpr ⟨lw_p92, fun _ h => absurd h List.not_mem_nil⟩⟩⟩⟩⟩⟩⟩⟩⟩⟩⟩⟩⟩
def lw_privs : List (MethodName × Nat) := lw_privs_1 ++ (lw_privs_2 ++ (lw_privs_3 ++ (lw_privs_4 ++ (lw_privs_5 ++ (lw_privs_6)))))
def lw_tbl : List Cond := k2_sels lw_privs ++ tables_1
theorem lw_privs_ok : ∀ q ∈ lw_privs, lw_okq q := by
  show ∀ q ∈ lw_privs_1 ++ (lw_privs_2 ++ (lw_privs_3 ++ (lw_privs_4 ++ (lw_privs_5 ++ (lw_privs_6))))), lw_okq q
  exact List.forall_mem_append.mpr ⟨lw_r1, List.forall_mem_append.mpr ⟨lw_r2, List.forall_mem_append.mpr ⟨lw_r3, List.forall_mem_append.mpr ⟨lw_r4, List.forall_mem_append.mpr ⟨lw_r5, lw_r6⟩⟩⟩⟩⟩
-- ===== end of PART A; then your names; then what follows =====
end
section
def RX0 : String := "AlikeStore$Budgets"
def TX0 : u_T := fun k => match k with
  | 0 => ("AlikeStore$Budgets", "breadths", "[I", true)
  | 1 => ("AlikeStore$Budgets", "parts", "I", false)
  | 2 => ("AlikeStore$Budgets", "costs", "[[I", true)
  | 3 => ("AlikeStore$Budgets", "least", "[[I", true)
  | _ => ("AlikeStore$Budgets", "chosen", "[I", true)
def tyX0 : Nat → FieldType := fun k => match k with
  | 0 => .array .int
  | 1 => .int
  | 2 => .array (.array .int)
  | 3 => .array (.array .int)
  | _ => .array .int
abbrev wsX00 : List Cond := u_ws RX0 TX0 5
theorem nmX0 : ∀ a, a < 5 → ∀ b, b < 5 → a ≠ b → (TX0 a).2.1 ≠ (TX0 b).2.1 := by decide +kernel
theorem tyX0_ok : ∀ k, k < 5 → parseFieldDescriptor (TX0 k).2.2.1 = some (tyX0 k) := by decide +kernel
def RX1 : String := "AlikeStore$Filter"
def TX1 : u_T := fun k => match k with
  | 0 => ("AlikeStore$Filter", "kinds", "[I", true)
  | 1 => ("AlikeStore$Filter", "signs", "[I", true)
  | 2 => ("AlikeStore$Filter", "places", "[I", true)
  | 3 => ("AlikeStore$Filter", "bounds", "[I", true)
  | _ => ("AlikeStore$Filter", "froms", "[J", true)
def tyX1 : Nat → FieldType := fun k => match k with
  | 0 => .array .int
  | 1 => .array .int
  | 2 => .array .int
  | 3 => .array .int
  | _ => .array .long
abbrev wsX10 : List Cond := u_ws RX1 TX1 5
theorem nmX1 : ∀ a, a < 5 → ∀ b, b < 5 → a ≠ b → (TX1 a).2.1 ≠ (TX1 b).2.1 := by decide +kernel
theorem tyX1_ok : ∀ k, k < 5 → parseFieldDescriptor (TX1 k).2.2.1 = some (tyX1 k) := by decide +kernel
def RX2 : String := "AlikeStore$History"
def TX2 : u_T := fun k => match k with
  | 0 => ("AlikeStore$History", "acts", "[LAlikeStore$Store;", true)
  | 1 => ("AlikeStore$History", "marks", "[LAlikeStore$Store;", true)
  | 2 => ("AlikeStore$History", "first", "I", false)
  | 3 => ("AlikeStore$History", "kept", "I", false)
  | _ => ("AlikeStore$History", "marked", "I", false)
def tyX2 : Nat → FieldType := fun k => match k with
  | 0 => .array (.object "AlikeStore$Store")
  | 1 => .array (.object "AlikeStore$Store")
  | 2 => .int
  | 3 => .int
  | _ => .int
abbrev wsX20 : List Cond := u_ws RX2 TX2 5
theorem nmX2 : ∀ a, a < 5 → ∀ b, b < 5 → a ≠ b → (TX2 a).2.1 ≠ (TX2 b).2.1 := by decide +kernel
theorem tyX2_ok : ∀ k, k < 5 → parseFieldDescriptor (TX2 k).2.2.1 = some (tyX2 k) := by decide +kernel
def RX3 : String := "AlikeStore$Ranking"
def TX3 : u_T := fun k => match k with
  | 0 => ("AlikeStore$Ranking", "order", "[I", true)
  | 1 => ("AlikeStore$Ranking", "fars", "[I", true)
  | 2 => ("AlikeStore$Ranking", "gaps", "[I", true)
  | _ => ("AlikeStore$Ranking", "size", "I", false)
def tyX3 : Nat → FieldType := fun k => match k with
  | 0 => .array .int
  | 1 => .array .int
  | 2 => .array .int
  | _ => .int
abbrev wsX30 : List Cond := u_ws RX3 TX3 4
theorem nmX3 : ∀ a, a < 4 → ∀ b, b < 4 → a ≠ b → (TX3 a).2.1 ≠ (TX3 b).2.1 := by decide +kernel
theorem tyX3_ok : ∀ k, k < 4 → parseFieldDescriptor (TX3 k).2.2.1 = some (tyX3 k) := by decide +kernel
def RX4 : String := "AlikeStore$Reader"
def TX4 : u_T := fun k => match k with
  | 0 => ("AlikeStore$Reader", "steps", "LAlikeStore$Steps;", true)
  | 1 => ("AlikeStore$Reader", "tape", "LAlikeStore$Tape;", true)
  | 2 => ("AlikeStore$Reader", "store", "LAlikeStore$Store;", true)
  | 3 => ("AlikeStore$Reader", "text", "[B", true)
  | 4 => ("AlikeStore$Reader", "length", "I", false)
  | 5 => ("AlikeStore$Reader", "kind", "I", false)
  | 6 => ("AlikeStore$Reader", "start", "I", false)
  | _ => ("AlikeStore$Reader", "end", "I", false)
def tyX4 : Nat → FieldType := fun k => match k with
  | 0 => .object "AlikeStore$Steps"
  | 1 => .object "AlikeStore$Tape"
  | 2 => .object "AlikeStore$Store"
  | 3 => .array .byte
  | 4 => .int
  | 5 => .int
  | 6 => .int
  | _ => .int
abbrev wsX40 : List Cond := u_ws RX4 TX4 8
theorem nmX4 : ∀ a, a < 8 → ∀ b, b < 8 → a ≠ b → (TX4 a).2.1 ≠ (TX4 b).2.1 := by decide +kernel
theorem tyX4_ok : ∀ k, k < 8 → parseFieldDescriptor (TX4 k).2.2.1 = some (tyX4 k) := by decide +kernel
def RX5 : String := "AlikeStore$Steps"
def TX5 : u_T := fun k => match k with
  | 0 => ("AlikeStore$Steps", "kinds", "[I", true)
  | 1 => ("AlikeStore$Steps", "signs", "[I", true)
  | 2 => ("AlikeStore$Steps", "places", "[I", true)
  | 3 => ("AlikeStore$Steps", "bounds", "[I", true)
  | 4 => ("AlikeStore$Steps", "froms", "[J", true)
  | _ => ("AlikeStore$Steps", "size", "I", false)
def tyX5 : Nat → FieldType := fun k => match k with
  | 0 => .array .int
  | 1 => .array .int
  | 2 => .array .int
  | 3 => .array .int
  | 4 => .array .long
  | _ => .int
abbrev wsX50 : List Cond := u_ws RX5 TX5 6
theorem nmX5 : ∀ a, a < 6 → ∀ b, b < 6 → a ≠ b → (TX5 a).2.1 ≠ (TX5 b).2.1 := by decide +kernel
theorem tyX5_ok : ∀ k, k < 6 → parseFieldDescriptor (TX5 k).2.2.1 = some (tyX5 k) := by decide +kernel
def RX6 : String := "AlikeStore$Store"
def TX6 : u_T := fun k => match k with
  | 0 => ("AlikeStore$Store", "bits", "I", false)
  | 1 => ("AlikeStore$Store", "parts", "I", false)
  | 2 => ("AlikeStore$Store", "breadths", "[I", true)
  | 3 => ("AlikeStore$Store", "size", "I", false)
  | 4 => ("AlikeStore$Store", "codes", "[J", true)
  | 5 => ("AlikeStore$Store", "tags", "[I", true)
  | _ => ("AlikeStore$Store", "filter", "LAlikeStore$Filter;", false)
def tyX6 : Nat → FieldType := fun k => match k with
  | 0 => .int
  | 1 => .int
  | 2 => .array .int
  | 3 => .int
  | 4 => .array .long
  | 5 => .array .int
  | _ => .object "AlikeStore$Filter"
abbrev wsX60 : List Cond := u_ws RX6 TX6 7
theorem nmX6 : ∀ a, a < 7 → ∀ b, b < 7 → a ≠ b → (TX6 a).2.1 ≠ (TX6 b).2.1 := by decide +kernel
theorem tyX6_ok : ∀ k, k < 7 → parseFieldDescriptor (TX6 k).2.2.1 = some (tyX6 k) := by decide +kernel
def RX7 : String := "AlikeStore$Tape"
def TX7 : u_T := fun k => match k with
  | 0 => ("AlikeStore$Tape", "bytes", "[B", true)
  | _ => ("AlikeStore$Tape", "size", "I", false)
def tyX7 : Nat → FieldType := fun k => match k with
  | 0 => .array .byte
  | _ => .int
abbrev wsX70 : List Cond := u_ws RX7 TX7 2
theorem nmX7 : ∀ a, a < 2 → ∀ b, b < 2 → a ≠ b → (TX7 a).2.1 ≠ (TX7 b).2.1 := by decide +kernel
theorem tyX7_ok : ∀ k, k < 2 → parseFieldDescriptor (TX7 k).2.2.1 = some (tyX7 k) := by decide +kernel
def RX8 : String := "AlikeStore"
def TX8 : u_T := fun k => match k with
  | 0 => ("AlikeStore", "store", "LAlikeStore$Store;", true)
  | 1 => ("AlikeStore", "reader", "LAlikeStore$Reader;", true)
  | 2 => ("AlikeStore", "history", "LAlikeStore$History;", true)
  | 3 => ("AlikeStore", "budgets", "LAlikeStore$Budgets;", true)
  | 4 => ("AlikeStore", "ranking", "LAlikeStore$Ranking;", true)
  | 5 => ("AlikeStore", "latest", "I", false)
  | 6 => ("AlikeStore", "faultKind", "I", false)
  | _ => ("AlikeStore", "faultPlace", "I", false)
def tyX8 : Nat → FieldType := fun k => match k with
  | 0 => .object "AlikeStore$Store"
  | 1 => .object "AlikeStore$Reader"
  | 2 => .object "AlikeStore$History"
  | 3 => .object "AlikeStore$Budgets"
  | 4 => .object "AlikeStore$Ranking"
  | 5 => .int
  | 6 => .int
  | _ => .int
abbrev wsX80 : List Cond := u_ws RX8 TX8 8
theorem nmX8 : ∀ a, a < 8 → ∀ b, b < 8 → a ≠ b → (TX8 a).2.1 ≠ (TX8 b).2.1 := by decide +kernel
theorem tyX8_ok : ∀ k, k < 8 → parseFieldDescriptor (TX8 k).2.2.1 = some (tyX8 k) := by decide +kernel
def RX9 : String := "AlikeStoreModel"
def TX9 : u_T := fun k => match k with
  | 0 => ("AlikeStoreModel", "all", "[J", true)
  | 1 => ("AlikeStoreModel", "status", "I", false)
  | 2 => ("AlikeStoreModel", "acts", "I", false)
  | 3 => ("AlikeStoreModel", "marks", "I", false)
  | 4 => ("AlikeStoreModel", "pile", "[J", true)
  | 5 => ("AlikeStoreModel", "tape", "[B", true)
  | 6 => ("AlikeStoreModel", "text", "[B", true)
  | 7 => ("AlikeStoreModel", "taped", "I", false)
  | 8 => ("AlikeStoreModel", "size", "I", false)
  | 9 => ("AlikeStoreModel", "token", "I", false)
  | 10 => ("AlikeStoreModel", "begin", "I", false)
  | 11 => ("AlikeStoreModel", "end", "I", false)
  | 12 => ("AlikeStoreModel", "faults", "I", false)
  | 13 => ("AlikeStoreModel", "faultPlace", "I", false)
  | 14 => ("AlikeStoreModel", "faultKind", "I", false)
  | 15 => ("AlikeStoreModel", "deep", "I", false)
  | 16 => ("AlikeStoreModel", "value", "J", false)
  | 17 => ("AlikeStoreModel", "broad", "[I", true)
  | 18 => ("AlikeStoreModel", "budgets", "[I", true)
  | 19 => ("AlikeStoreModel", "costs", "[[I", true)
  | 20 => ("AlikeStoreModel", "least", "[[I", true)
  | 21 => ("AlikeStoreModel", "broadMany", "I", false)
  | 22 => ("AlikeStoreModel", "rank", "[I", true)
  | _ => ("AlikeStoreModel", "taken", "[I", true)
def tyX9 : Nat → FieldType := fun k => match k with
  | 0 => .array .long
  | 1 => .int
  | 2 => .int
  | 3 => .int
  | 4 => .array .long
  | 5 => .array .byte
  | 6 => .array .byte
  | 7 => .int
  | 8 => .int
  | 9 => .int
  | 10 => .int
  | 11 => .int
  | 12 => .int
  | 13 => .int
  | 14 => .int
  | 15 => .int
  | 16 => .long
  | 17 => .array .int
  | 18 => .array .int
  | 19 => .array (.array .int)
  | 20 => .array (.array .int)
  | 21 => .int
  | 22 => .array .int
  | _ => .array .int
abbrev wsX90 : List Cond := u_ws RX9 TX9 24
theorem nmX9 : ∀ a, a < 24 → ∀ b, b < 24 → a ≠ b → (TX9 a).2.1 ≠ (TX9 b).2.1 := by decide +kernel
theorem tyX9_ok : ∀ k, k < 24 → parseFieldDescriptor (TX9 k).2.2.1 = some (tyX9 k) := by decide +kernel
abbrev vwCl : List vw_C := [(RX0, TX0, 5), (RX1, TX1, 5), (RX2, TX2, 5), (RX3, TX3, 4), (RX4, TX4, 8), (RX5, TX5, 6), (RX6, TX6, 7), (RX7, TX7, 2), (RX8, TX8, 8), (RX9, TX9, 24)]
def ev_ws : List Cond := lw_tbl.filter goodWord
theorem ev_m (i : Nat) {w : Cond} (h : tables_1[i]? = some w) (hg : goodWord w = true) : w ∈ ev_ws := List.mem_filter.mpr ⟨List.mem_append_right _ (List.mem_of_getElem? h), hg⟩
theorem ev_mp (i : Nat) {w : Cond} (h : (k2_sels lw_privs)[i]? = some w) (hg : goodWord w = true) : w ∈ ev_ws := List.mem_filter.mpr ⟨List.mem_append_left _ (List.mem_of_getElem? h), hg⟩
theorem ev_good : ∀ w ∈ ev_ws, ((w.onTables && w.keeps) = true ∨ ∃ ty, w = .arrayClass ty) := fun w h => good_of_word (List.mem_filter.mp h).2
theorem ev_sub {ws : List Cond} (is : List Nat) (h : ws = is.filterMap (fun i => tables_1[i]?)) (hg : ws.all goodWord = true) : ∀ w ∈ ws, w ∈ ev_ws := by
  intro w hw
  refine List.mem_filter.mpr ⟨?_, List.all_eq_true.mp hg w hw⟩
  rw [h] at hw
  obtain ⟨i, -, hi⟩ := List.mem_filterMap.mp hw
  exact List.mem_append_right _ (List.mem_of_getElem? hi)
set_option maxRecDepth 100000 in
theorem ev_cl0 : ∀ w ∈ wsX00, w ∈ ev_ws := ev_sub [205, 207, 209, 211, 213] (by decide +kernel) (by decide +kernel)
set_option maxRecDepth 100000 in
theorem ev_cl1 : ∀ w ∈ wsX10, w ∈ ev_ws := ev_sub [522, 524, 526, 528, 530] (by decide +kernel) (by decide +kernel)
set_option maxRecDepth 100000 in
theorem ev_cl2 : ∀ w ∈ wsX20, w ∈ ev_ws := ev_sub [179, 181, 183, 185, 187] (by decide +kernel) (by decide +kernel)
set_option maxRecDepth 100000 in
theorem ev_cl3 : ∀ w ∈ wsX30, w ∈ ev_ws := ev_sub [228, 230, 232, 234] (by decide +kernel) (by decide +kernel)
set_option maxRecDepth 100000 in
theorem ev_cl4 : ∀ w ∈ wsX40, w ∈ ev_ws := ev_sub [146, 148, 150, 152, 154, 156, 158, 160] (by decide +kernel) (by decide +kernel)
set_option maxRecDepth 100000 in
theorem ev_cl5 : ∀ w ∈ wsX50, w ∈ ev_ws := ev_sub [105, 107, 109, 111, 113, 115] (by decide +kernel) (by decide +kernel)
set_option maxRecDepth 100000 in
theorem ev_cl6 : ∀ w ∈ wsX60, w ∈ ev_ws := ev_sub [63, 65, 67, 69, 71, 73, 75] (by decide +kernel) (by decide +kernel)
set_option maxRecDepth 100000 in
theorem ev_cl7 : ∀ w ∈ wsX70, w ∈ ev_ws := ev_sub [128, 130] (by decide +kernel) (by decide +kernel)
set_option maxRecDepth 100000 in
theorem ev_cl8 : ∀ w ∈ wsX80, w ∈ ev_ws := ev_sub [245, 247, 249, 251, 253, 255, 257, 259] (by decide +kernel) (by decide +kernel)
set_option maxRecDepth 100000 in
theorem ev_cl9 : ∀ w ∈ wsX90, w ∈ ev_ws := ev_sub [1001, 1003, 1005, 1007, 1009, 1011, 1013, 1015, 1017, 1019, 1021, 1023, 1025, 1027, 1029, 1031, 1033, 1035, 1037, 1039, 1041, 1043, 1045, 1047] (by decide +kernel) (by decide +kernel)
end
section
/-! A SMALLER MACHINE over the kit's: cells at numbers from 0 on, locals as a list, 'Ev' says that from a place of a method its end comes, with R of answer and heap. -/
abbrev ev_C : Type := (Nat × vp_A) ⊕ (Nat × List Value)
/-- how many cells, what they hold -/
abbrev ev_H : Type := Nat × (Nat → ev_C)
/-- launch, the heap at the law's start, classes' numbers and slots, array classes, places outside -/
abbrev ev_G : Type := Launch × Heap × va_G × (Nat → ClassId) × (Nat → Nat)
/-- a method: name, code, locals, answer -/
abbrev ev_M : Type := MethodName × ByteArray × Nat × Option FieldType
def ev_big : Nat := 1000000
def ev_ad (G : ev_G) (k : Nat) : Nat := if k < ev_big then G.2.1.size + k else G.2.2.2.2 (k - ev_big)
def ev_tr (G : ev_G) : Value → Value
  | .ref k => .ref (ev_ad G k)
  | v => v
def ev_trE (G : ev_G) : ev_C → va_E
  | .inl (t, n, .inl f) => .inl (G.2.2.2.1 t, n, .inl f)
  | .inl (t, n, .inr (.inl f)) => .inl (G.2.2.2.1 t, n, .inr (.inl f))
  | .inl (t, n, .inr (.inr (.inl f))) => .inl (G.2.2.2.1 t, n, .inr (.inr (.inl f)))
  | .inl (t, n, .inr (.inr (.inr (.inl f)))) => .inl (G.2.2.2.1 t, n, .inr (.inr (.inr (.inl f))))
  | .inl (t, n, .inr (.inr (.inr (.inr g)))) => .inl (G.2.2.2.1 t, n, .inr (.inr (.inr (.inr (fun j => (g j).map (ev_ad G))))))
  | .inr (ci, fs) => .inr (ci, fs.map (ev_tr G))
abbrev oC (ci : Nat) (fs : List Value) : ev_C := .inr (ci, fs)
abbrev aI (n : Nat) (f : Nat → Int32) : ev_C := .inl (0, n, .inl f)
abbrev aL (n : Nat) (f : Nat → Int64) : ev_C := .inl (1, n, .inr (.inl f))
abbrev aB (n : Nat) (f : Nat → Int32) : ev_C := .inl (2, n, .inl f)
abbrev aG (n : Nat) (f : Nat → Option Nat) : ev_C := .inl (3, n, .inr (.inr (.inr (.inr f))))
abbrev aS (n : Nat) (f : Nat → Option Nat) : ev_C := .inl (4, n, .inr (.inr (.inr (.inr f))))
def ev_tys (G : ev_G) : List (ClassId × FieldType) := [(G.2.2.2.1 0, .int), (G.2.2.2.1 1, .long), (G.2.2.2.1 2, .byte), (G.2.2.2.1 3, .array .int), (G.2.2.2.1 4, .object "AlikeStore$Store")]
def hset (h : ev_H) (k : Nat) (c : ev_C) : ev_H := (h.1, fun j => if j = k then c else h.2 j)
def hpush (h : ev_H) (c : ev_C) : ev_H := (h.1 + 1, fun j => if j = h.1 then c else h.2 j)
theorem hset_n (h : ev_H) (k : Nat) (c : ev_C) : (hset h k c).1 = h.1 := rfl
theorem hset_eq (h : ev_H) (k : Nat) (c : ev_C) : (hset h k c).2 k = c := by simp [hset]
theorem hset_ne (h : ev_H) {k j : Nat} (c : ev_C) (hj : j ≠ k) : (hset h k c).2 j = h.2 j := by simp [hset, hj]
theorem hpush_n (h : ev_H) (c : ev_C) : (hpush h c).1 = h.1 + 1 := rfl
theorem hpush_eq (h : ev_H) (c : ev_C) : (hpush h c).2 h.1 = c := by simp [hpush]
theorem hpush_ne (h : ev_H) {j : Nat} (c : ev_C) (hj : j ≠ h.1) : (hpush h c).2 j = h.2 j := by simp [hpush, hj]
/-- the machine's heap is the start's and our cells behind it -/
def ev_Rel (G : ev_G) (h : ev_H) (H : Heap) : Prop := H.size = G.2.1.size + h.1 ∧ h.1 ≤ ev_big ∧ (∀ q, q < G.2.1.size → H[q]? = G.2.1[q]?) ∧ ∀ k, k < h.1 → va_at G.2.2.1 vwCl (G.2.1.size + k, ev_trE G (h.2 k)) H
theorem ev_ad_lt {G : ev_G} {k n : Nat} (h : k < n) (hn : n ≤ ev_big) : ev_ad G k = G.2.1.size + k := if_pos (Nat.lt_of_lt_of_le h hn)
theorem ev_Rel.at {G : ev_G} {h : ev_H} {H : Heap} (r : ev_Rel G h H) {k : Nat} (hk : k < h.1) : va_at G.2.2.1 vwCl (ev_ad G k, ev_trE G (h.2 k)) H := by
  rw [ev_ad_lt hk r.2.1]; exact r.2.2.2 k hk
/-- one cell changed -/
theorem ev_Rel.put {G : ev_G} {h : ev_H} {H H1 : Heap} (r : ev_Rel G h H) {k : Nat} (hk : k < h.1) {c : ev_C} (he : va_at G.2.2.1 vwCl (ev_ad G k, ev_trE G c) H1) (z : H1.size = H.size) (oq : ∀ q, q ≠ ev_ad G k → H1[q]? = H[q]?) : ev_Rel G (hset h k c) H1 := by
  have e := ev_ad_lt (G := G) hk r.2.1
  rw [e] at he oq
  refine ⟨z.trans r.1, r.2.1, fun q hq => (oq q (by omega)).trans (r.2.2.1 q hq), fun j hj => ?_⟩
  by_cases hjk : j = k
  · subst hjk; rw [hset_eq]; exact he
  · rw [hset_ne h c hjk]
    exact (r.2.2.2 j hj).kept (oq _ (by show G.2.1.size + j ≠ _; omega))
/-- one cell more -/
theorem ev_Rel.push {G : ev_G} {h : ev_H} {H H1 : Heap} (r : ev_Rel G h H) (hb : h.1 < ev_big) {c : ev_C} (he : va_at G.2.2.1 vwCl (H.size, ev_trE G c) H1) (z : H1.size = H.size + 1) (oq : ∀ q, q < H.size → H1[q]? = H[q]?) : ev_Rel G (hpush h c) H1 := by
  refine ⟨by rw [z, r.1]; rfl, hb, fun q hq => (oq q (by rw [r.1]; omega)).trans (r.2.2.1 q hq), fun j hj => ?_⟩
  by_cases hjk : j = h.1
  · subst hjk; rw [hpush_eq, ← r.1]; exact he
  · have hj1 : j < h.1 := by have : j < h.1 + 1 := hj; omega
    rw [hpush_ne h c hjk]
    exact (r.2.2.2 j hj1).kept (oq _ (by show G.2.1.size + j < _; rw [r.1]; omega))
/-- no cell of ours, nor of the start's, changed -/
theorem ev_Rel.same {G : ev_G} {h : ev_H} {H H1 : Heap} (r : ev_Rel G h H) (e : H1 = H) : ev_Rel G h H1 := e ▸ r
/-! locals -/
def ev_unk : Value := .retAddr 0
def ev_known : Value → Bool
  | .retAddr _ => false
  | _ => true
def ev_prs (G : ev_G) (ls : List Value) : List (Nat × Value) := (List.range ls.length).filterMap fun i => match ls[i]? with
  | some v => if ev_known v then some (i, ev_tr G v) else none
  | none => none
def ev_L (G : ev_G) (nL : Nat) (A : Array Slot) (ls : List Value) : Prop := lv_has A nL (ev_prs G ls)
theorem ev_prs_in {G : ev_G} {ls : List Value} {q : Nat × Value} : q ∈ ev_prs G ls ↔ ∃ v, ls[q.1]? = some v ∧ ev_known v = true ∧ q.2 = ev_tr G v := by
  unfold ev_prs
  rw [List.mem_filterMap]
  constructor
  · rintro ⟨i, hi, h⟩
    split at h
    · next v hv =>
      split at h
      · next hk => cases h; exact ⟨v, hv, hk, rfl⟩
      · cases h
    · cases h
  · rintro ⟨v, hv, hk, e⟩
    obtain ⟨a, b⟩ := q
    have e : b = ev_tr G v := e
    subst e
    have hv : ls[a]? = some v := hv
    exact ⟨a, List.mem_range.mpr (List.getElem?_eq_some_iff.mp hv).1, by rw [hv]; simp [hk]⟩
theorem ev_L.get {G : ev_G} {nL : Nat} {A : Array Slot} {ls : List Value} (h : ev_L G nL A ls) {i : Nat} {v : Value} (hv : ls[i]? = some v) (hk : ev_known v = true) : A[i]? = some (.val (ev_tr G v)) :=
  h.2.2 (i, ev_tr G v) (ev_prs_in.mpr ⟨v, hv, hk, rfl⟩)
def ev_clr (ls : List Value) : Nat → List Value
  | 0 => ls
  | j + 1 => match ls[j]? with
    | some v => if v.category = 2 then ls.set j ev_unk else ls
    | none => ls
def ev_set1 (ls : List Value) (i : Nat) (v : Value) : List Value := (ev_clr ls i).set i v
def ev_set2 (ls : List Value) (i : Nat) (v : Value) : List Value := ((ev_clr ls i).set i v).set (i + 1) ev_unk
theorem ev_clr_get {ls : List Value} {i j : Nat} {w : Value} (h : (ev_clr ls i)[j]? = some w) (hk : ev_known w = true) : ls[j]? = some w ∧ ¬ (j + 1 = i ∧ w.category = 2) := by
  cases i with
  | zero => exact ⟨h, fun q => by omega⟩
  | succ i =>
    cases hv : ls[i]? with
    | none =>
      have h' : ls[j]? = some w := by simpa [ev_clr, hv] using h
      refine ⟨h', fun q => ?_⟩
      have e : j = i := by omega
      subst e
      rw [hv] at h'; cases h'
    | some v =>
      by_cases hc : v.category = 2
      · have h : (ls.set i ev_unk)[j]? = some w := by simpa [ev_clr, hv, hc] using h
        by_cases e : j = i
        · subst e
          rw [List.getElem?_set_self (List.getElem?_eq_some_iff.mp hv).1] at h
          cases h; exact absurd hk (by decide)
        · rw [List.getElem?_set_ne (fun q => e q.symm)] at h
          exact ⟨h, fun q => e (by omega)⟩
      · have h' : ls[j]? = some w := by simpa [ev_clr, hv, hc] using h
        refine ⟨h', fun q => ?_⟩
        have e : j = i := by omega
        subst e
        rw [hv] at h'; cases h'
        exact hc q.2
theorem ev_cat (G : ev_G) (v : Value) : (ev_tr G v).category = v.category := by cases v <;> rfl
theorem ev_L.set1 {G : ev_G} {nL : Nat} {A : Array Slot} {ls : List Value} (h : ev_L G nL A ls) {i : Nat} {v : Value} (hi : i < nL) (hc : v.category = 1) : ∃ A', storeLocals A i (ev_tr G v) = some A' ∧ ev_L G nL A' (ev_set1 ls i v) := by
  obtain ⟨A', e, h1⟩ := lv_store1 (v := ev_tr G v) h hi ((ev_cat G v).trans hc)
  refine ⟨A', e, h1.1, h1.2.1, fun q hq => h1.2.2 q ?_⟩
  obtain ⟨w, hw, hk, e2⟩ := ev_prs_in.mp hq
  obtain ⟨a, b⟩ := q
  have e2 : b = ev_tr G w := e2
  subst e2
  have hw : (ev_set1 ls i v)[a]? = some w := hw
  unfold ev_set1 at hw
  by_cases ha : a = i
  · subst ha
    have hl := (List.getElem?_eq_some_iff.mp hw).1
    rw [List.length_set] at hl
    rw [List.getElem?_set_self hl] at hw
    cases hw
    exact List.mem_cons_self
  · rw [List.getElem?_set_ne (fun q => ha q.symm)] at hw
    obtain ⟨g1, g2⟩ := ev_clr_get hw hk
    refine List.mem_cons_of_mem _ (List.mem_filter.mpr ⟨ev_prs_in.mpr ⟨w, g1, hk, rfl⟩, ?_⟩)
    simp only [ev_cat, Bool.and_eq_true, Bool.not_eq_true', beq_eq_false_iff_ne, Bool.and_eq_false_iff]
    refine ⟨ha, ?_⟩
    by_cases q1 : a + 1 = i
    · exact Or.inr fun q2 => g2 ⟨q1, q2⟩
    · exact Or.inl q1
theorem ev_L.set2 {G : ev_G} {nL : Nat} {A : Array Slot} {ls : List Value} (h : ev_L G nL A ls) {i : Nat} {v : Value} (hi : i + 1 < nL) (hc : v.category = 2) : ∃ A', storeLocals A i (ev_tr G v) = some A' ∧ ev_L G nL A' (ev_set2 ls i v) := by
  obtain ⟨A', e, h1⟩ := lv_store2 (v := ev_tr G v) h hi ((ev_cat G v).trans hc)
  refine ⟨A', e, h1.1, h1.2.1, fun q hq => h1.2.2 q ?_⟩
  obtain ⟨w, hw, hk, e2⟩ := ev_prs_in.mp hq
  obtain ⟨a, b⟩ := q
  have e2 : b = ev_tr G w := e2
  subst e2
  have hw : (ev_set2 ls i v)[a]? = some w := hw
  unfold ev_set2 at hw
  by_cases ha1 : a = i + 1
  · subst ha1
    have hl := (List.getElem?_eq_some_iff.mp hw).1
    rw [List.length_set] at hl
    rw [List.getElem?_set_self hl] at hw
    cases hw
    exact absurd hk (by decide)
  rw [List.getElem?_set_ne (fun q => ha1 q.symm)] at hw
  by_cases ha : a = i
  · subst ha
    have hl := (List.getElem?_eq_some_iff.mp hw).1
    rw [List.length_set] at hl
    rw [List.getElem?_set_self hl] at hw
    cases hw
    exact List.mem_cons_self
  · rw [List.getElem?_set_ne (fun q => ha q.symm)] at hw
    obtain ⟨g1, g2⟩ := ev_clr_get hw hk
    refine List.mem_cons_of_mem _ (List.mem_filter.mpr ⟨ev_prs_in.mpr ⟨w, g1, hk, rfl⟩, ?_⟩)
    simp only [ev_cat, Bool.and_eq_true, Bool.not_eq_true', beq_eq_false_iff_ne, Bool.and_eq_false_iff]
    refine ⟨ha, ha1, ?_⟩
    by_cases q1 : a + 1 = i
    · exact Or.inr fun q2 => g2 ⟨q1, q2⟩
    · exact Or.inl q1
end
section
/-! what holds at a method's start, and goes along with calls -/
def ev_isNest : Cond → Bool
  | .methodLinkNest _ _ _ _ => true
  | _ => false
def ev_nest : List Cond := tables_1.filter ev_isNest
def ev_strs : List (String × Nat × String) := [("AlikeStore$Reader", 64, "bits"), ("AlikeStore$Reader", 77, "parts"), ("AlikeStore$Reader", 82, "code"), ("AlikeStore$Reader", 87, "filter"), ("AlikeStore$Reader", 92, "<=>[];"), ("AlikeStore$Reader", 135, "tag"), ("AlikeStore$Reader", 156, "or"), ("AlikeStore$Reader", 165, "and"), ("AlikeStore$Reader", 167, "not"), ("AlikeStore$Reader", 180, "ones"), ("AlikeStore$Reader", 182, "number"), ("AlikeStore$Reader", 183, "bit"), ("AlikeStore$Reader", 185, "key"), ("AlikeStore$Reader", 187, "far"), ("AlikeStoreModel", 137, " bits parts code tag filter not and or ones number bit key far ")]
def ev_byt : List (List Int32) := ev_strs.map fun q => q.2.2.toList.map fun c => Int32.ofNat c.toNat
def ev_len : List Nat := ev_byt.map List.length
def ev_K (G : ev_G) (s : State) : Prop := va_K G.2.2.1 vwCl (ev_tys G) s ∧ (∀ w ∈ ev_nest, va_Nw w s) ∧ (va_AO "AlikeStore$Store" s ∧ va_Nw (.arrayOver (.array .int)) s) ∧ (∃ adV : Nat → Nat, vk_S 15 ev_len ev_byt G.2.2.2.2 adV (fun q => G.2.1.size ≤ q) s G.2.1) ∧ ∀ (i : Nat) (q : String × Nat × String), ev_strs[i]? = some q → vk_R q.1 q.2.1 q.2.2 (G.2.2.2.2 i) s
theorem ev_nest_form {w : Cond} (h : w ∈ ev_nest) : ∃ (a : String) (i : Nat) (x : MethodName) (b : String), w = .methodLinkNest a i x b := by
  have h1 := (List.mem_filter.mp h).2
  cases w <;> first | exact ⟨_, _, _, _, rfl⟩ | cases h1
theorem ev_K.warm {G : ev_G} {s U : State} (hW : s.WarmedH U.vm) (h : ev_K G s) : ev_K G U := by
  obtain ⟨h1, h2, h3, ⟨adV, h4⟩, h5⟩ := h
  refine ⟨va_K.moved hW.alike h1, fun w hw => ?_, ⟨va_AO.moved hW.alike h3.1, Jvm.Stand.arrayOver_alikeB hW.alike h3.2⟩, ⟨adV, vk_S.moved hW.alike h4⟩, fun i q hq => vk_R.warm hW (h5 i q hq)⟩
  have hz := h2 w hw
  obtain ⟨a, i, x, b, rfl⟩ := ev_nest_form hw
  exact va_Nw.warmM hW hz
theorem ev_K.same {G : ev_G} {u U : State} (e : U.vm = u.vm) (h : ev_K G u) : ev_K G U := by
  have hA : u.vm.Alike U.vm := by rw [e]; exact Vm.Alike.refl _
  obtain ⟨h1, h2, h3, ⟨adV, h4⟩, h5⟩ := h
  refine ⟨va_K.moved hA h1, fun w hw => ?_, ⟨va_AO.moved hA h3.1, Jvm.Stand.arrayOver_alikeB hA h3.2⟩, ⟨adV, vk_S.moved hA h4⟩, fun i q hq => vk_R.same e (h5 i q hq)⟩
  have hz := h2 w hw
  obtain ⟨a, i, x, b, rfl⟩ := ev_nest_form hw
  exact va_Nw.same rfl e.symm hz
def ev_Cx (G : ev_G) (M : ev_M) (p : Program) (s : State) (m : MethodId) (args : Array Value) (meth : Method) (c : Code) : Prop :=
  p.tables.exec = Jvm.exec ∧ c.code = M.2.1 ∧ c.maxLocals = M.2.2.1 ∧ s.vm.findClass M.1.cls = some m.cls ∧ (∀ w ∈ ev_ws, w.before args s = true) ∧ meth.sig.returnType = M.2.2.2 ∧ meth.locks = false ∧ meth.name = M.1.name ∧ ev_K G s
def ev_ret (M : ev_M) (pc : Nat) (r : Option Value) : Prop :=
  (∃ v : Int32, r = some (.int v) ∧ decode M.2.1 pc = .ok (.ireturn, 1) ∧ ∃ ty, M.2.2.2 = some ty ∧ narrow ty (.int v) = .int v) ∨
  (∃ v : Int64, r = some (.long v) ∧ decode M.2.1 pc = .ok (.lreturn, 1) ∧ M.2.2.2 = some .long) ∨
  (r = none ∧ decode M.2.1 pc = .ok (.return_, 1) ∧ M.2.2.2 = none) ∨
  (∃ a : Nat, r = some (.ref a) ∧ decode M.2.1 pc = .ok (.areturn, 1) ∧ ∃ rt, M.2.2.2 = some rt ∧ ((∃ n, rt = .object n) ∨ ∃ t, rt = .array t))
/-- from this place of the method its end comes, R of answer and heap; at most d frames deep, k cells of n slots new -/
def Ev (G : ev_G) (d k n : Nat) (M : ev_M) (pc : Nat) (ls st : List Value) (h : ev_H) (R : Option Value → ev_H → Prop) : Prop :=
  ∀ (p : Program) (e : Env) (Rm : Room) (s : State) (m : MethodId) (args : Array Value) (below : List Frame) (meth : Method) (c : Code) (Q : State → Prop),
    ev_Cx G M p s m args meth c → d ≤ Rm.frames → 64 * d ≤ Rm.locals →
    (∀ (r : Option Value) (h' : ev_H) (H' : Heap) (locs' : List Loc) (cells' slots' pc' : Nat) (A' : Array Slot), R r h' → ev_Rel G h' H' → (∀ q ∈ locs', G.2.1.size ≤ q.base) → cells' ≤ Rm.cells → slots' ≤ Rm.slots → ev_ret M pc' r → W p G.1 e Rm s m args below meth c H' locs' cells' slots' Q (F0 m pc' A' ((r.map (ev_tr G)).toList))) →
    ∀ (H : Heap) (locs : List Loc) (cells slots : Nat) (A : Array Slot), ev_Rel G h H → (∀ q ∈ locs, G.2.1.size ≤ q.base) → cells + k ≤ Rm.cells → slots + n ≤ Rm.slots → ev_L G M.2.2.1 A ls → W p G.1 e Rm s m args below meth c H locs cells slots Q (F0 m pc A (st.map (ev_tr G)))
section EVR
variable {G : ev_G} {d k n : Nat} {M : ev_M} {pc : Nat} {ls st : List Value} {h : ev_H} {R R' : Option Value → ev_H → Prop}
theorem Ev.mono (hE : Ev G d k n M pc ls st h R) (hR : ∀ r h', R r h' → R' r h') : Ev G d k n M pc ls st h R' :=
  fun p e Rm s m args below meth c Q hx h1 h2 hk H locs cells slots A g1 g2 g3 g4 g5 => hE p e Rm s m args below meth c Q hx h1 h2 (fun r h' H' locs' cells' slots' pc' A' hr => hk r h' H' locs' cells' slots' pc' A' (hR r h' hr)) H locs cells slots A g1 g2 g3 g4 g5
theorem Ev.room {d' k' n' : Nat} (hE : Ev G d k n M pc ls st h R) (hd : d ≤ d') (hk : k ≤ k') (hn : n ≤ n') : Ev G d' k' n' M pc ls st h R :=
  fun p e Rm s m args below meth c Q hx h1 h2 hkk H locs cells slots A g1 g2 g3 g4 g5 => hE p e Rm s m args below meth c Q hx (by omega) (by omega) hkk H locs cells slots A g1 g2 (by omega) (by omega) g5
/-- ends -/
theorem Ev.ret {r : Option Value} (hr : ev_ret M pc r) (hR : R r h) : Ev G d k n M pc ls r.toList h R := by
  intro p e Rm s m args below meth c Q hx h1 h2 hkk H locs cells slots A g1 g2 g3 g4 g5
  have := hkk r h H locs cells slots pc A hR g1 g2 (by omega) (by omega) hr
  cases r <;> exact this
end EVR
/-! plain instructions -/
def ev_ln : Instr → Nat
  | .bipush _ => 2
  | .sipush _ => 3
  | .iload _ => 2
  | .lload _ => 2
  | .aload _ => 2
  | .istore _ => 2
  | .lstore _ => 2
  | .astore _ => 2
  | .iinc _ _ => 3
  | .goto _ => 3
  | _ => 1
def ev_ii (f : Int32 → Int32 → Int32) : List Value → Option (List Value)
  | .int y :: .int x :: r => some (.int (f x y) :: r)
  | _ => none
def ev_ll (f : Int64 → Int64 → Int64) : List Value → Option (List Value)
  | .long y :: .long x :: r => some (.long (f x y) :: r)
  | _ => none
def ev_li (f : Int64 → Int32 → Int64) : List Value → Option (List Value)
  | .int y :: .long x :: r => some (.long (f x y) :: r)
  | _ => none
def ev_i (f : Int32 → Value) : List Value → Option (List Value)
  | .int x :: r => some (f x :: r)
  | _ => none
def ev_l (f : Int64 → Value) : List Value → Option (List Value)
  | .long x :: r => some (f x :: r)
  | _ => none
theorem ev_ii_o {f : Int32 → Int32 → Int32} {st st' : List Value} (h : ev_ii f st = some st') : ∃ x y r, st = .int y :: .int x :: r ∧ st' = .int (f x y) :: r := by
  unfold ev_ii at h; split at h
  · cases h; exact ⟨_, _, _, rfl, rfl⟩
  · cases h
theorem ev_ll_o {f : Int64 → Int64 → Int64} {st st' : List Value} (h : ev_ll f st = some st') : ∃ x y r, st = .long y :: .long x :: r ∧ st' = .long (f x y) :: r := by
  unfold ev_ll at h; split at h
  · cases h; exact ⟨_, _, _, rfl, rfl⟩
  · cases h
theorem ev_li_o {f : Int64 → Int32 → Int64} {st st' : List Value} (h : ev_li f st = some st') : ∃ x y r, st = .int y :: .long x :: r ∧ st' = .long (f x y) :: r := by
  unfold ev_li at h; split at h
  · cases h; exact ⟨_, _, _, rfl, rfl⟩
  · cases h
theorem ev_i_o {f : Int32 → Value} {st st' : List Value} (h : ev_i f st = some st') : ∃ x r, st = .int x :: r ∧ st' = f x :: r := by
  unfold ev_i at h; split at h
  · cases h; exact ⟨_, _, rfl, rfl⟩
  · cases h
theorem ev_l_o {f : Int64 → Value} {st st' : List Value} (h : ev_l f st = some st') : ∃ x r, st = .long x :: r ∧ st' = f x :: r := by
  unfold ev_l at h; split at h
  · cases h; exact ⟨_, _, rfl, rfl⟩
  · cases h
def ev_ldi (ls : List Value) (i : Nat) : Option Value := match ls[i]? with
  | some (.int x) => some (.int x)
  | _ => none
def ev_ldl (ls : List Value) (i : Nat) : Option Value := match ls[i]? with
  | some (.long x) => some (.long x)
  | _ => none
def ev_lda (ls : List Value) (i : Nat) : Option Value := match ls[i]? with
  | some (.ref x) => some (.ref x)
  | some .null => some .null
  | _ => none
theorem ev_ldi_o {ls : List Value} {i : Nat} {v : Value} (h : ev_ldi ls i = some v) : ∃ x, ls[i]? = some (.int x) ∧ v = .int x := by
  unfold ev_ldi at h; split at h
  · next x hx => cases h; exact ⟨_, hx, rfl⟩
  · cases h
theorem ev_ldl_o {ls : List Value} {i : Nat} {v : Value} (h : ev_ldl ls i = some v) : ∃ x, ls[i]? = some (.long x) ∧ v = .long x := by
  unfold ev_ldl at h; split at h
  · next x hx => cases h; exact ⟨_, hx, rfl⟩
  · cases h
theorem ev_lda_o {ls : List Value} {i : Nat} {v : Value} (h : ev_lda ls i = some v) : (∃ x, ls[i]? = some (.ref x) ∧ v = .ref x) ∨ (ls[i]? = some .null ∧ v = .null) := by
  unfold ev_lda at h; split at h
  · next x hx => cases h; exact Or.inl ⟨_, hx, rfl⟩
  · next hx => cases h; exact Or.inr ⟨hx, rfl⟩
  · cases h
def ev_sti (nL : Nat) (ls : List Value) (i : Nat) : List Value → Option (List Value × List Value)
  | .int x :: r => if i < nL then some (ev_set1 ls i (.int x), r) else none
  | _ => none
def ev_stl (nL : Nat) (ls : List Value) (i : Nat) : List Value → Option (List Value × List Value)
  | .long x :: r => if i + 1 < nL then some (ev_set2 ls i (.long x), r) else none
  | _ => none
def ev_sta (nL : Nat) (ls : List Value) (i : Nat) : List Value → Option (List Value × List Value)
  | .ref x :: r => if i < nL then some (ev_set1 ls i (.ref x), r) else none
  | .null :: r => if i < nL then some (ev_set1 ls i .null, r) else none
  | _ => none
theorem ev_sti_o {nL i : Nat} {ls st : List Value} {q : List Value × List Value} (h : ev_sti nL ls i st = some q) : ∃ x r, i < nL ∧ st = .int x :: r ∧ q = (ev_set1 ls i (.int x), r) := by
  unfold ev_sti at h; split at h
  · split at h
    · next hi => cases h; exact ⟨_, _, hi, rfl, rfl⟩
    · cases h
  · cases h
theorem ev_stl_o {nL i : Nat} {ls st : List Value} {q : List Value × List Value} (h : ev_stl nL ls i st = some q) : ∃ x r, i + 1 < nL ∧ st = .long x :: r ∧ q = (ev_set2 ls i (.long x), r) := by
  unfold ev_stl at h; split at h
  · split at h
    · next hi => cases h; exact ⟨_, _, hi, rfl, rfl⟩
    · cases h
  · cases h
theorem ev_sta_o {nL i : Nat} {ls st : List Value} {q : List Value × List Value} (h : ev_sta nL ls i st = some q) : (∃ x r, i < nL ∧ st = .ref x :: r ∧ q = (ev_set1 ls i (.ref x), r)) ∨ (∃ r, i < nL ∧ st = .null :: r ∧ q = (ev_set1 ls i .null, r)) := by
  unfold ev_sta at h; split at h
  · split at h
    · next hi => cases h; exact Or.inl ⟨_, _, hi, rfl, rfl⟩
    · cases h
  · split at h
    · next hi => cases h; exact Or.inr ⟨_, hi, rfl, rfl⟩
    · cases h
  · cases h
abbrev ev_push (pc len : Nat) (ls : List Value) (st : Option (List Value)) : Option (Nat × List Value × List Value) := st.map fun q => (pc + len, ls, q)
abbrev ev_stor (pc len : Nat) (q : Option (List Value × List Value)) : Option (Nat × List Value × List Value) := q.map fun q => (pc + len, q.1, q.2)
/-- a plain instruction: where it goes on, locals, stack -/
def ev_stp (nL : Nat) (i : Instr) (pc : Nat) (ls st : List Value) : Option (Nat × List Value × List Value) := match i with
  | .iconst v => some (pc + 1, ls, .int (Int32.ofInt v) :: st)
  | .bipush v => some (pc + 2, ls, .int (Int8.ofInt v).toInt32 :: st)
  | .sipush v => some (pc + 3, ls, .int (Int16.ofInt v).toInt32 :: st)
  | .lconst v => some (pc + 1, ls, .long (Int64.ofNat v.val) :: st)
  | .aconst_null => some (pc + 1, ls, .null :: st)
  | .iload j => ev_push pc 2 ls ((ev_ldi ls j).map (· :: st))
  | .iload_n j => ev_push pc 1 ls ((ev_ldi ls j.val).map (· :: st))
  | .lload j => ev_push pc 2 ls ((ev_ldl ls j).map (· :: st))
  | .lload_n j => ev_push pc 1 ls ((ev_ldl ls j.val).map (· :: st))
  | .aload j => ev_push pc 2 ls ((ev_lda ls j).map (· :: st))
  | .aload_n j => ev_push pc 1 ls ((ev_lda ls j.val).map (· :: st))
  | .istore j => ev_stor pc 2 (ev_sti nL ls j st)
  | .istore_n j => ev_stor pc 1 (ev_sti nL ls j.val st)
  | .lstore j => ev_stor pc 2 (ev_stl nL ls j st)
  | .lstore_n j => ev_stor pc 1 (ev_stl nL ls j.val st)
  | .astore j => ev_stor pc 2 (ev_sta nL ls j st)
  | .astore_n j => ev_stor pc 1 (ev_sta nL ls j.val st)
  | .iinc j v => match ls[j]? with
    | some (.int x) => if j < nL then some (pc + 3, ev_set1 ls j (.int (x + Int32.ofInt v)), st) else none
    | _ => none
  | .iadd => ev_push pc 1 ls (ev_ii (fun x y => x + y) st)
  | .isub => ev_push pc 1 ls (ev_ii (fun x y => x - y) st)
  | .imul => ev_push pc 1 ls (ev_ii (fun x y => x * y) st)
  | .iand => ev_push pc 1 ls (ev_ii (fun x y => x &&& y) st)
  | .ior => ev_push pc 1 ls (ev_ii (fun x y => x ||| y) st)
  | .ixor => ev_push pc 1 ls (ev_ii (fun x y => x ^^^ y) st)
  | .ishl => ev_push pc 1 ls (ev_ii (fun x y => x <<< (y &&& 31)) st)
  | .ishr => ev_push pc 1 ls (ev_ii (fun x y => x >>> (y &&& 31)) st)
  | .iushr => ev_push pc 1 ls (ev_ii (fun x y => (x.toUInt32 >>> (y.toUInt32 &&& Int32.toUInt32 31)).toInt32) st)
  | .ladd => ev_push pc 1 ls (ev_ll (fun x y => x + y) st)
  | .lsub => ev_push pc 1 ls (ev_ll (fun x y => x - y) st)
  | .lmul => ev_push pc 1 ls (ev_ll (fun x y => x * y) st)
  | .land => ev_push pc 1 ls (ev_ll (fun x y => x &&& y) st)
  | .lor => ev_push pc 1 ls (ev_ll (fun x y => x ||| y) st)
  | .lxor => ev_push pc 1 ls (ev_ll (fun x y => x ^^^ y) st)
  | .lshl => ev_push pc 1 ls (ev_li (fun x y => x <<< (y.toInt64 &&& 63)) st)
  | .lshr => ev_push pc 1 ls (ev_li (fun x y => x >>> (y.toInt64 &&& 63)) st)
  | .lushr => ev_push pc 1 ls (ev_li (fun x y => (x.toUInt64 >>> (y.toInt64.toUInt64 &&& Int64.toUInt64 63)).toInt64) st)
  | .ineg => ev_push pc 1 ls (ev_i (fun x => .int (-x)) st)
  | .lneg => ev_push pc 1 ls (ev_l (fun x => .long (-x)) st)
  | .i2l => ev_push pc 1 ls (ev_i (fun x => .long x.toInt64) st)
  | .l2i => ev_push pc 1 ls (ev_l (fun x => .int x.toInt32) st)
  | .i2b => ev_push pc 1 ls (ev_i (fun x => .int x.toInt8.toInt32) st)
  | .i2c => ev_push pc 1 ls (ev_i (fun x => .int (x.toUInt32 % 65536).toInt32) st)
  | .lcmp => match st with
    | .long y :: .long x :: r => some (pc + 1, ls, .int (lg_cmp x y) :: r)
    | _ => none
  | .dup => match st with
    | v :: r => if v.category = 1 then some (pc + 1, ls, v :: v :: r) else none
    | _ => none
  | .pop => match st with
    | v :: r => if v.category = 1 then some (pc + 1, ls, r) else none
    | _ => none
  | .dup2 => match st with
    | v :: w :: r => if v.category = 1 ∧ w.category = 1 then some (pc + 1, ls, v :: w :: v :: w :: r) else none
    | _ => none
  | .goto off => if 0 ≤ (pc : Int) + off then some (((pc : Int) + off).toNat, ls, st) else none
  | _ => none
end
section
section EVS
variable {G : ev_G} {d k n : Nat} {M : ev_M} {pc : Nat} {ls st : List Value} {h : ev_H} {R : Option Value → ev_H → Prop}
theorem ev_ln_le (i : Instr) {nL pc pc' : Nat} {ls st ls' st' : List Value} (h : ev_stp nL i pc ls st = some (pc', ls', st')) : True := trivial
/-- a plain instruction, as a step of the machine -/
theorem ev_one {i : Instr} {pc' : Nat} {ls' st' : List Value} (hd : decode M.2.1 pc = .ok (i, ev_ln i)) (hs : ev_stp M.2.2.1 i pc ls st = some (pc', ls', st'))
    {p : Program} {e : Env} {Rm : Room} {s : State} {m : MethodId} {args : Array Value} {below : List Frame} {meth : Method} {c : Code} {Q : State → Prop} {H : Heap} {locs : List Loc} {cells slots : Nat} {A : Array Slot}
    (hx : p.tables.exec = Jvm.exec) (hb : c.code = M.2.1) (hL : ev_L G M.2.2.1 A ls)
    (kk : ∀ A', ev_L G M.2.2.1 A' ls' → W p G.1 e Rm s m args below meth c H locs cells slots Q (F0 m pc' A' (st'.map (ev_tr G)))) :
    W p G.1 e Rm s m args below meth c H locs cells slots Q (F0 m pc A (st.map (ev_tr G))) := by
  cases i <;> simp only [ev_stp] at hs
  all_goals first | cases hs; done | skip
  case iconst v => cases hs; exact lv_iconst hx hb hd rfl (kk A hL)
  case bipush v => cases hs; exact lv_bipush hx hb hd rfl (kk A hL)
  case sipush v => cases hs; exact lv_sipush hx hb hd rfl (kk A hL)
  case lconst v => cases hs; exact lv_lconst hx hb hd rfl (kk A hL)
  case aconst_null => cases hs; exact lv_null hx hb hd (kk A hL)
  case iload j =>
    obtain ⟨q, hq, e⟩ := Option.map_eq_some_iff.mp hs
    obtain ⟨v, hv, e2⟩ := Option.map_eq_some_iff.mp hq
    obtain ⟨x, hx2, rfl⟩ := ev_ldi_o hv
    cases e; cases e2
    exact lv_iload hx hb hd (hL.get hx2 rfl) (kk A hL)
  case iload_n j =>
    obtain ⟨q, hq, e⟩ := Option.map_eq_some_iff.mp hs
    obtain ⟨v, hv, e2⟩ := Option.map_eq_some_iff.mp hq
    obtain ⟨x, hx2, rfl⟩ := ev_ldi_o hv
    cases e; cases e2
    exact lv_iload_n hx hb hd rfl (hL.get hx2 rfl) (kk A hL)
  case lload j =>
    obtain ⟨q, hq, e⟩ := Option.map_eq_some_iff.mp hs
    obtain ⟨v, hv, e2⟩ := Option.map_eq_some_iff.mp hq
    obtain ⟨x, hx2, rfl⟩ := ev_ldl_o hv
    cases e; cases e2
    exact lv_lload hx hb hd (hL.get hx2 rfl) (kk A hL)
  case lload_n j =>
    obtain ⟨q, hq, e⟩ := Option.map_eq_some_iff.mp hs
    obtain ⟨v, hv, e2⟩ := Option.map_eq_some_iff.mp hq
    obtain ⟨x, hx2, rfl⟩ := ev_ldl_o hv
    cases e; cases e2
    exact lv_lload_n hx hb hd rfl (hL.get hx2 rfl) (kk A hL)
  case aload j =>
    obtain ⟨q, hq, e⟩ := Option.map_eq_some_iff.mp hs
    obtain ⟨v, hv, e2⟩ := Option.map_eq_some_iff.mp hq
    rcases ev_lda_o hv with ⟨x, hx2, rfl⟩ | ⟨hx2, rfl⟩
    · cases e; cases e2
      exact lv_aload hx hb hd (hL.get hx2 rfl) (kk A hL)
    · cases e; cases e2
      exact lv_aloadN hx hb hd (hL.get hx2 rfl) (kk A hL)
  case aload_n j =>
    obtain ⟨q, hq, e⟩ := Option.map_eq_some_iff.mp hs
    obtain ⟨v, hv, e2⟩ := Option.map_eq_some_iff.mp hq
    rcases ev_lda_o hv with ⟨x, hx2, rfl⟩ | ⟨hx2, rfl⟩
    · cases e; cases e2
      exact lv_aload_n hx hb hd rfl (hL.get hx2 rfl) (kk A hL)
    · cases e; cases e2
      exact lv_aload_nN hx hb hd rfl (hL.get hx2 rfl) (kk A hL)
  case istore j =>
    obtain ⟨q, hq, e⟩ := Option.map_eq_some_iff.mp hs
    obtain ⟨x, r, hj, rfl, rfl⟩ := ev_sti_o hq
    cases e
    obtain ⟨A', e', h'⟩ := hL.set1 (v := .int x) hj rfl
    intro T hT X
    obtain ⟨t, a, b⟩ := kk A' h' T hT X
    refine ⟨t, ?_, b⟩
    have e' : storeLocals A j (.int x) = some A' := e'
    show Steps p.tables e below (T.setTop (F0 m pc A (.int x :: r.map (ev_tr G)))) t
    jvm_step X.here [X.here.top, ↓top_set X.here.top, hx, hb, hd, e', ev_ln]
    exact a
  case istore_n j =>
    obtain ⟨q, hq, e⟩ := Option.map_eq_some_iff.mp hs
    obtain ⟨x, r, hj, rfl, rfl⟩ := ev_sti_o hq
    cases e
    obtain ⟨A', e', h'⟩ := hL.set1 (v := .int x) hj rfl
    intro T hT X
    obtain ⟨t, a, b⟩ := kk A' h' T hT X
    refine ⟨t, ?_, b⟩
    have e' : storeLocals A j.val (.int x) = some A' := e'
    show Steps p.tables e below (T.setTop (F0 m pc A (.int x :: r.map (ev_tr G)))) t
    jvm_step X.here [X.here.top, ↓top_set X.here.top, hx, hb, hd, e', ev_ln]
    exact a
  case lstore j =>
    obtain ⟨q, hq, e⟩ := Option.map_eq_some_iff.mp hs
    obtain ⟨x, r, hj, rfl, rfl⟩ := ev_stl_o hq
    cases e
    obtain ⟨A', e', h'⟩ := hL.set2 (v := .long x) hj rfl
    intro T hT X
    obtain ⟨t, a, b⟩ := kk A' h' T hT X
    refine ⟨t, ?_, b⟩
    have e' : storeLocals A j (.long x) = some A' := e'
    show Steps p.tables e below (T.setTop (F0 m pc A (.long x :: r.map (ev_tr G)))) t
    jvm_step X.here [X.here.top, ↓top_set X.here.top, hx, hb, hd, e', ev_ln]
    exact a
  case lstore_n j =>
    obtain ⟨q, hq, e⟩ := Option.map_eq_some_iff.mp hs
    obtain ⟨x, r, hj, rfl, rfl⟩ := ev_stl_o hq
    cases e
    obtain ⟨A', e', h'⟩ := hL.set2 (v := .long x) hj rfl
    intro T hT X
    obtain ⟨t, a, b⟩ := kk A' h' T hT X
    refine ⟨t, ?_, b⟩
    have e' : storeLocals A j.val (.long x) = some A' := e'
    show Steps p.tables e below (T.setTop (F0 m pc A (.long x :: r.map (ev_tr G)))) t
    jvm_step X.here [X.here.top, ↓top_set X.here.top, hx, hb, hd, e', ev_ln]
    exact a
  case astore j =>
    obtain ⟨q, hq, e⟩ := Option.map_eq_some_iff.mp hs
    rcases ev_sta_o hq with ⟨x, r, hj, rfl, rfl⟩ | ⟨r, hj, rfl, rfl⟩
    · cases e
      obtain ⟨A', e', h'⟩ := hL.set1 (v := .ref x) hj rfl
      intro T hT X
      obtain ⟨t, a, b⟩ := kk A' h' T hT X
      refine ⟨t, ?_, b⟩
      have e' : storeLocals A j (.ref (ev_ad G x)) = some A' := e'
      show Steps p.tables e below (T.setTop (F0 m pc A (.ref (ev_ad G x) :: r.map (ev_tr G)))) t
      jvm_step X.here [X.here.top, ↓top_set X.here.top, hx, hb, hd, e', ev_ln]
      exact ⟨rfl, a⟩
    · cases e
      obtain ⟨A', e', h'⟩ := hL.set1 (v := .null) hj rfl
      intro T hT X
      obtain ⟨t, a, b⟩ := kk A' h' T hT X
      refine ⟨t, ?_, b⟩
      have e' : storeLocals A j .null = some A' := e'
      show Steps p.tables e below (T.setTop (F0 m pc A (.null :: r.map (ev_tr G)))) t
      jvm_step X.here [X.here.top, ↓top_set X.here.top, hx, hb, hd, e', ev_ln]
      exact ⟨rfl, a⟩
  case astore_n j =>
    obtain ⟨q, hq, e⟩ := Option.map_eq_some_iff.mp hs
    rcases ev_sta_o hq with ⟨x, r, hj, rfl, rfl⟩ | ⟨r, hj, rfl, rfl⟩
    · cases e
      obtain ⟨A', e', h'⟩ := hL.set1 (v := .ref x) hj rfl
      intro T hT X
      obtain ⟨t, a, b⟩ := kk A' h' T hT X
      refine ⟨t, ?_, b⟩
      have e' : storeLocals A j.val (.ref (ev_ad G x)) = some A' := e'
      show Steps p.tables e below (T.setTop (F0 m pc A (.ref (ev_ad G x) :: r.map (ev_tr G)))) t
      jvm_step X.here [X.here.top, ↓top_set X.here.top, hx, hb, hd, e', ev_ln]
      exact ⟨rfl, a⟩
    · cases e
      obtain ⟨A', e', h'⟩ := hL.set1 (v := .null) hj rfl
      intro T hT X
      obtain ⟨t, a, b⟩ := kk A' h' T hT X
      refine ⟨t, ?_, b⟩
      have e' : storeLocals A j.val .null = some A' := e'
      show Steps p.tables e below (T.setTop (F0 m pc A (.null :: r.map (ev_tr G)))) t
      jvm_step X.here [X.here.top, ↓top_set X.here.top, hx, hb, hd, e', ev_ln]
      exact ⟨rfl, a⟩
  case iinc j v =>
    split at hs
    · next x hv =>
      split at hs
      · next hj =>
        cases hs
        have hg : A[j]? = some (.val (.int x)) := hL.get hv rfl
        obtain ⟨A', e', h'⟩ := hL.set1 (v := .int (x + Int32.ofInt v)) hj rfl
        intro T hT X
        obtain ⟨t, a, b⟩ := kk A' h' T hT X
        refine ⟨t, ?_, b⟩
        have e' : storeLocals A j (.int (x + Int32.ofInt v)) = some A' := e'
        jvm_step X.here [X.here.top, ↓top_set X.here.top, hx, hb, hd, hg, e', ev_ln]
        exact a
      · cases hs
    · cases hs
  case iadd => obtain ⟨q, hq, e⟩ := Option.map_eq_some_iff.mp hs; obtain ⟨x, y, r, rfl, rfl⟩ := ev_ii_o hq; cases e; exact lv_iadd hx hb hd (kk A hL)
  case isub => obtain ⟨q, hq, e⟩ := Option.map_eq_some_iff.mp hs; obtain ⟨x, y, r, rfl, rfl⟩ := ev_ii_o hq; cases e; exact lv_isub hx hb hd (kk A hL)
  case imul => obtain ⟨q, hq, e⟩ := Option.map_eq_some_iff.mp hs; obtain ⟨x, y, r, rfl, rfl⟩ := ev_ii_o hq; cases e; exact lv_imul hx hb hd (kk A hL)
  case iand => obtain ⟨q, hq, e⟩ := Option.map_eq_some_iff.mp hs; obtain ⟨x, y, r, rfl, rfl⟩ := ev_ii_o hq; cases e; exact lv_iand hx hb hd (kk A hL)
  case ior => obtain ⟨q, hq, e⟩ := Option.map_eq_some_iff.mp hs; obtain ⟨x, y, r, rfl, rfl⟩ := ev_ii_o hq; cases e; exact lv_ior hx hb hd (kk A hL)
  case ixor => obtain ⟨q, hq, e⟩ := Option.map_eq_some_iff.mp hs; obtain ⟨x, y, r, rfl, rfl⟩ := ev_ii_o hq; cases e; exact lv_ixor hx hb hd (kk A hL)
  case ishl => obtain ⟨q, hq, e⟩ := Option.map_eq_some_iff.mp hs; obtain ⟨x, y, r, rfl, rfl⟩ := ev_ii_o hq; cases e; exact lv_ishl hx hb hd (kk A hL)
  case ishr => obtain ⟨q, hq, e⟩ := Option.map_eq_some_iff.mp hs; obtain ⟨x, y, r, rfl, rfl⟩ := ev_ii_o hq; cases e; exact lv_ishr hx hb hd (kk A hL)
  case iushr => obtain ⟨q, hq, e⟩ := Option.map_eq_some_iff.mp hs; obtain ⟨x, y, r, rfl, rfl⟩ := ev_ii_o hq; cases e; exact lv_iushr hx hb hd rfl (kk A hL)
  case ladd => obtain ⟨q, hq, e⟩ := Option.map_eq_some_iff.mp hs; obtain ⟨x, y, r, rfl, rfl⟩ := ev_ll_o hq; cases e; exact lv_ladd hx hb hd (kk A hL)
  case lsub => obtain ⟨q, hq, e⟩ := Option.map_eq_some_iff.mp hs; obtain ⟨x, y, r, rfl, rfl⟩ := ev_ll_o hq; cases e; exact lv_lsub hx hb hd (kk A hL)
  case lmul => obtain ⟨q, hq, e⟩ := Option.map_eq_some_iff.mp hs; obtain ⟨x, y, r, rfl, rfl⟩ := ev_ll_o hq; cases e; exact lv_lmul hx hb hd (kk A hL)
  case land => obtain ⟨q, hq, e⟩ := Option.map_eq_some_iff.mp hs; obtain ⟨x, y, r, rfl, rfl⟩ := ev_ll_o hq; cases e; exact lv_land hx hb hd (kk A hL)
  case lor => obtain ⟨q, hq, e⟩ := Option.map_eq_some_iff.mp hs; obtain ⟨x, y, r, rfl, rfl⟩ := ev_ll_o hq; cases e; exact lv_lor hx hb hd (kk A hL)
  case lxor => obtain ⟨q, hq, e⟩ := Option.map_eq_some_iff.mp hs; obtain ⟨x, y, r, rfl, rfl⟩ := ev_ll_o hq; cases e; exact lv_lxor hx hb hd (kk A hL)
  case lshl => obtain ⟨q, hq, e⟩ := Option.map_eq_some_iff.mp hs; obtain ⟨x, y, r, rfl, rfl⟩ := ev_li_o hq; cases e; exact lv_lshl hx hb hd rfl (kk A hL)
  case lshr => obtain ⟨q, hq, e⟩ := Option.map_eq_some_iff.mp hs; obtain ⟨x, y, r, rfl, rfl⟩ := ev_li_o hq; cases e; exact lv_lshr hx hb hd rfl (kk A hL)
  case lushr => obtain ⟨q, hq, e⟩ := Option.map_eq_some_iff.mp hs; obtain ⟨x, y, r, rfl, rfl⟩ := ev_li_o hq; cases e; exact lv_lushr hx hb hd rfl (kk A hL)
  case ineg => obtain ⟨q, hq, e⟩ := Option.map_eq_some_iff.mp hs; obtain ⟨x, r, rfl, rfl⟩ := ev_i_o hq; cases e; exact lv_ineg hx hb hd (kk A hL)
  case lneg => obtain ⟨q, hq, e⟩ := Option.map_eq_some_iff.mp hs; obtain ⟨x, r, rfl, rfl⟩ := ev_l_o hq; cases e; exact lv_lneg hx hb hd (kk A hL)
  case i2l => obtain ⟨q, hq, e⟩ := Option.map_eq_some_iff.mp hs; obtain ⟨x, r, rfl, rfl⟩ := ev_i_o hq; cases e; exact lv_i2l hx hb hd rfl (kk A hL)
  case l2i => obtain ⟨q, hq, e⟩ := Option.map_eq_some_iff.mp hs; obtain ⟨x, r, rfl, rfl⟩ := ev_l_o hq; cases e; exact lv_l2i hx hb hd rfl (kk A hL)
  case i2b => obtain ⟨q, hq, e⟩ := Option.map_eq_some_iff.mp hs; obtain ⟨x, r, rfl, rfl⟩ := ev_i_o hq; cases e; exact lv_i2b hx hb hd rfl (kk A hL)
  case i2c => obtain ⟨q, hq, e⟩ := Option.map_eq_some_iff.mp hs; obtain ⟨x, r, rfl, rfl⟩ := ev_i_o hq; cases e; exact lv_i2c hx hb hd rfl (kk A hL)
  case lcmp =>
    split at hs
    · cases hs; exact W.lcmp hx hb hd (kk A hL)
    · cases hs
  case dup =>
    split at hs
    · next v r =>
      split at hs
      · next hc => cases hs; exact lv_dup hx hb hd ((ev_cat G v).trans hc) (kk A hL)
      · cases hs
    · cases hs
  case pop =>
    split at hs
    · next v r =>
      split at hs
      · next hc => cases hs; exact lv_pop hx hb hd ((ev_cat G v).trans hc) (kk A hL)
      · cases hs
    · cases hs
  case dup2 =>
    split at hs
    · next v w r =>
      split at hs
      · next hc => cases hs; exact lv_dup2_11 hx hb hd ((ev_cat G v).trans hc.1) ((ev_cat G w).trans hc.2) (kk A hL)
      · cases hs
    · cases hs
  case goto off =>
    split at hs
    · next ho => cases hs; exact lv_goto hx hb hd (Int.toNat_of_nonneg ho).symm (kk A hL)
    · cases hs
theorem Ev.one {i : Instr} {pc' : Nat} {ls' st' : List Value} (hd : decode M.2.1 pc = .ok (i, ev_ln i)) (hs : ev_stp M.2.2.1 i pc ls st = some (pc', ls', st')) (hE : Ev G d k n M pc' ls' st' h R) : Ev G d k n M pc ls st h R := by
  intro p e Rm s m args below meth c Q hx h1 h2 hkk H locs cells slots A g1 g2 g3 g4 g5
  exact ev_one hd hs hx.1 hx.2.1 g5 (fun A' hA' => hE p e Rm s m args below meth c Q hx h1 h2 hkk H locs cells slots A' g1 g2 g3 g4 hA')
/-- several -/
def ev_go (nL : Nat) : List Instr → Nat → List Value → List Value → Option (Nat × List Value × List Value)
  | [], pc, ls, st => some (pc, ls, st)
  | i :: is, pc, ls, st => match ev_stp nL i pc ls st with
    | some (pc', ls', st') => ev_go nL is pc' ls' st'
    | none => none
def ev_nx (i : Instr) (pc : Nat) : Nat := match i with
  | .goto off => ((pc : Int) + off).toNat
  | _ => pc + ev_ln i
def ev_dec (b : ByteArray) : List Instr → Nat → Bool
  | [], _ => true
  | i :: is, pc => decide (decode b pc = .ok (i, ev_ln i)) && ev_dec b is (ev_nx i pc)
theorem ev_nx_ok {nL : Nat} {i : Instr} {pc pc' : Nat} {ls st ls' st' : List Value} (hs : ev_stp nL i pc ls st = some (pc', ls', st')) : pc' = ev_nx i pc := by
  cases i <;> simp only [ev_stp] at hs
  all_goals first | cases hs; done | skip
  all_goals first
    | (cases hs; rfl)
    | (obtain ⟨q, hq, e⟩ := Option.map_eq_some_iff.mp hs; cases e; rfl)
    | (split at hs <;> first | (cases hs; rfl) | (cases hs; done) | (split at hs <;> first | (cases hs; rfl) | (cases hs; done)))
theorem Ev.go : ∀ (is : List Instr) {pc pc' : Nat} {ls st ls' st' : List Value}, ev_dec M.2.1 is pc = true → ev_go M.2.2.1 is pc ls st = some (pc', ls', st') → Ev G d k n M pc' ls' st' h R → Ev G d k n M pc ls st h R
  | [], pc, pc', ls, st, ls', st', _, hg, hE => by
    simp only [ev_go] at hg; cases hg; exact hE
  | i :: is, pc, pc', ls, st, ls', st', hd, hg, hE => by
    simp only [ev_dec, Bool.and_eq_true, decide_eq_true_eq] at hd
    simp only [ev_go] at hg
    split at hg
    · next p1 l1 s1 h1 =>
      have e := ev_nx_ok h1
      rw [← e] at hd
      exact Ev.one hd.1 h1 (Ev.go is hd.2 hg hE)
    · cases hg
/-- a branch: the condition, where it goes if it holds, if not, the stack -/
def ev_cnd (i : Instr) (pc : Nat) (st : List Value) : Option (Prop × Int × Int × List Value) := match i with
  | .ifCond .eq o => match st with
    | .int x :: r => some (x = 0, pc + o, pc + 3, r)
    | _ => none
  | .ifCond .ne o => match st with
    | .int x :: r => some (x = 0, pc + 3, pc + o, r)
    | _ => none
  | .ifCond .lt o => match st with
    | .int x :: r => some (x < 0, pc + o, pc + 3, r)
    | _ => none
  | .ifCond .ge o => match st with
    | .int x :: r => some (x < 0, pc + 3, pc + o, r)
    | _ => none
  | .ifCond .gt o => match st with
    | .int x :: r => some (0 < x, pc + o, pc + 3, r)
    | _ => none
  | .ifCond .le o => match st with
    | .int x :: r => some (0 < x, pc + 3, pc + o, r)
    | _ => none
  | .if_icmp .eq o => match st with
    | .int y :: .int x :: r => some (x = y, pc + o, pc + 3, r)
    | _ => none
  | .if_icmp .ne o => match st with
    | .int y :: .int x :: r => some (x = y, pc + 3, pc + o, r)
    | _ => none
  | .if_icmp .lt o => match st with
    | .int y :: .int x :: r => some (x < y, pc + o, pc + 3, r)
    | _ => none
  | .if_icmp .ge o => match st with
    | .int y :: .int x :: r => some (x < y, pc + 3, pc + o, r)
    | _ => none
  | .if_icmp .gt o => match st with
    | .int y :: .int x :: r => some (y < x, pc + o, pc + 3, r)
    | _ => none
  | .if_icmp .le o => match st with
    | .int y :: .int x :: r => some (y < x, pc + 3, pc + o, r)
    | _ => none
  | _ => none
theorem Ev.br {i : Instr} {P : Prop} {t f : Nat} {r : List Value} (hd : decode M.2.1 pc = .ok (i, 3)) (hs : ev_cnd i pc st = some (P, (t : Int), (f : Int), r)) (ht : P → Ev G d k n M t ls r h R) (hf : ¬ P → Ev G d k n M f ls r h R) : Ev G d k n M pc ls st h R := by
  intro p e Rm s m args below meth c Q hx h1 h2 hkk H locs cells slots A g1 g2 g3 g4 g5
  have kt := fun q => ht q p e Rm s m args below meth c Q hx h1 h2 hkk H locs cells slots A g1 g2 g3 g4 g5
  have kf := fun q => hf q p e Rm s m args below meth c Q hx h1 h2 hkk H locs cells slots A g1 g2 g3 g4 g5
  have p3 : ∀ {a : Nat}, (pc : Int) + 3 = a → pc + 3 = a := fun h => by omega
  cases i <;> simp only [ev_cnd] at hs
  all_goals first | cases hs; done | skip
  case ifCond cd o =>
    cases cd <;> simp only at hs <;> split at hs <;> first | (cases hs; done) | skip
    all_goals
      injection hs with hs
      injection hs with hP hs
      injection hs with h3 hs
      injection hs with h4 h5
      subst hP
      subst h5
    · have := p3 h4; subst this; exact lv_if_eq hx.1 hx.2.1 hd h3 kt kf
    · have := p3 h3; subst this; exact lv_if_ne hx.1 hx.2.1 hd h4 kf kt
    · have := p3 h4; subst this; exact lv_if_lt hx.1 hx.2.1 hd h3 kt kf
    · have := p3 h3; subst this; exact lv_if_ge hx.1 hx.2.1 hd h4 (fun q => kf (Int32.not_lt.mpr q)) (fun q => kt (Int32.not_le.mp q))
    · have := p3 h4; subst this; exact lv_if_gt hx.1 hx.2.1 hd h3 kt kf
    · have := p3 h3; subst this; exact lv_if_le hx.1 hx.2.1 hd h4 (fun q => kf (Int32.not_lt.mpr q)) (fun q => kt (Int32.not_le.mp q))
  case if_icmp cd o =>
    cases cd <;> simp only at hs <;> split at hs <;> first | (cases hs; done) | skip
    all_goals
      injection hs with hs
      injection hs with hP hs
      injection hs with h3 hs
      injection hs with h4 h5
      subst hP
      subst h5
    · have := p3 h4; subst this; exact lv_icmp_eq hx.1 hx.2.1 hd h3 kt kf
    · have := p3 h3; subst this; exact lv_icmp_ne hx.1 hx.2.1 hd h4 kf kt
    · have := p3 h4; subst this; exact lv_icmp_lt hx.1 hx.2.1 hd h3 kt kf
    · have := p3 h3; subst this; exact lv_icmp_ge hx.1 hx.2.1 hd h4 (fun q => kf (Int32.not_lt.mpr q)) (fun q => kt (Int32.not_le.mp q))
    · have := p3 h4; subst this; exact lv_icmp_gt hx.1 hx.2.1 hd h3 kt kf
    · have := p3 h3; subst this; exact lv_icmp_le hx.1 hx.2.1 hd h4 (fun q => kf (Int32.not_lt.mpr q)) (fun q => kt (Int32.not_le.mp q))
end EVS
end
section
/-! fields and arrays -/
def hat (h : ev_H) (a : Nat) (c : ev_C) : Prop := a < h.1 ∧ h.2 a = c
theorem hat_set {h : ev_H} {a : Nat} {c c' : ev_C} (H : hat h a c) : hat (hset h a c') a c' := ⟨H.1, hset_eq h a c'⟩
theorem hat_ne {h : ev_H} {a b : Nat} {c c' : ev_C} (H : hat h a c) (hb : a ≠ b) : hat (hset h b c') a c := ⟨H.1, (hset_ne h c' hb).trans H.2⟩
theorem hat_pushed (h : ev_H) (c : ev_C) : hat (hpush h c) h.1 c := ⟨Nat.lt_succ_self _, hpush_eq h c⟩
theorem hat_push {h : ev_H} {a : Nat} {c c' : ev_C} (H : hat h a c) : hat (hpush h c') a c := ⟨Nat.lt_succ_of_lt H.1, (hpush_ne h c' (Nat.ne_of_lt H.1)).trans H.2⟩
/-- what the tables say of a class -/
def ev_cls (ci : Nat) (r : vw_C) (ty : Nat → FieldType) : Prop := vwCl[ci]? = some r ∧ (∀ w ∈ u_ws r.1 r.2.1 r.2.2, w ∈ ev_ws) ∧ (∀ a, a < r.2.2 → ∀ b, b < r.2.2 → a ≠ b → (r.2.1 a).2.1 ≠ (r.2.1 b).2.1) ∧ ∀ k, k < r.2.2 → parseFieldDescriptor (r.2.1 k).2.2.1 = some (ty k)
/-- a field as a method of class own names it -/
def ev_fld (own : String) (idx ci k : Nat) (ty : FieldType) (fin : Bool) : Prop := ∃ (r : vw_C) (tyf : Nat → FieldType), ev_cls ci r tyf ∧ k < r.2.2 ∧ tyf k = ty ∧ (r.2.1 k).2.2.2 = fin ∧ (r.2.1 k).1 = r.1 ∧ Cond.fieldLink own idx (r.2.1 k).1 (r.2.1 k).2.1 (r.2.1 k).2.2.1 ∈ ev_ws
def ev_fit : FieldType → Value → Bool
  | .int, .int _ => true
  | .long, .long _ => true
  | .array _, .ref _ => true
  | .array _, .null => true
  | .object _, .ref _ => true
  | .object _, .null => true
  | _, _ => false
theorem ev_fit_ok {G : ev_G} {ty : FieldType} {v : Value} (h : ev_fit ty v = true) : narrow ty (ev_tr G v) = ev_tr G v ∧ fits ty (ev_tr G v) = true := by
  cases ty <;> cases v <;> first | (cases h; done) | exact ⟨rfl, rfl⟩
section EVH
variable {G : ev_G} {d k n : Nat} {M : ev_M} {pc : Nat} {ls st : List Value} {h : ev_H} {R : Option Value → ev_H → Prop}
theorem ev_tr_get {G : ev_G} {fs : List Value} {k : Nat} {v : Value} (h : fs[k]? = some v) : (fs.map (ev_tr G))[k]? = some (ev_tr G v) := by rw [List.getElem?_map, h]; rfl
theorem Ev.getf {idx ci kf a : Nat} {ty : FieldType} {fin : Bool} {fs rest : List Value} {v : Value} (hF : ev_fld M.1.cls idx ci kf ty fin) (hd : decode M.2.1 pc = .ok (.getfield idx, 3)) (hc : hat h a (oC ci fs)) (hv : fs[kf]? = some v) (hE : Ev G d k n M (pc + 3) ls (v :: rest) h R) : Ev G d k n M pc ls (.ref a :: rest) h R := by
  intro p e Rm s m args below meth c Q hx h1 h2 hkk H locs cells slots A g1 g2 g3 g4 g5
  obtain ⟨⟨C, T, N⟩, tyf, ⟨hcl, hin, hnm, hty⟩, hk, rfl, hfin, hdec, hlink⟩ := hF
  have hat' := g1.at hc.1
  rw [hc.2] at hat'
  have kk := hE p e Rm s m args below meth c Q hx h1 h2 hkk H locs cells slots A g1 g2 g3 g4 g5
  obtain ⟨hexec, hb, hml, hown, hts, -, -, -, hK⟩ := hx
  refine va_get (C := C) (T := T) (N := N) (ws := [(ev_ad G a, ev_trE G (oC ci fs))]) hexec hb hts hin hown hK.1 (fun k q hk => ?_) 0 rfl hcl kf hk (hts _ hlink) (fun _ h9 => h9) (ev_tr_get hv) hd kk
  cases k with
  | zero => cases hk; exact hat'
  | succ k => cases hk
theorem ev_locs {G : ev_G} {locs : List Loc} {a i : Nat} (h : ∀ q ∈ locs, G.2.1.size ≤ q.base) (ha : G.2.1.size ≤ a) : ∀ q ∈ locs ++ [(⟨a, i⟩ : Loc)], G.2.1.size ≤ q.base := by
  intro q hq
  rcases List.mem_append.mp hq with h1 | h1
  · exact h q h1
  · rw [List.mem_singleton.mp h1]; exact ha
theorem ev_ad_ge {G : ev_G} {a n : Nat} (h : a < n) (hn : n ≤ ev_big) : G.2.1.size ≤ ev_ad G a := by rw [ev_ad_lt h hn]; omega
theorem ev_put_at {G : ev_G} {s : State} {args : Array Value} {H1 : Heap} {C : String} {T : u_T} {N ci kf a : Nat} {tyf : Nat → FieldType} {fs : List Value} {v : Value} {cell : Cell} (hts : ∀ w ∈ ev_ws, w.before args s = true) (hin : ∀ w ∈ u_ws C T N, w ∈ ev_ws) (hty : ∀ k, k < N → parseFieldDescriptor (T k).2.2.1 = some (tyf k)) (hnm : ∀ a, a < N → ∀ b, b < N → a ≠ b → (T a).2.1 ≠ (T b).2.1) (hK : va_K G.2.2.1 vwCl (ev_tys G) s) (hc : vwCl[ci]? = some (C, T, N)) (hk : kf < N) (hl : kf < fs.length)
    (q2 : cell.cls = G.2.2.1.1 ci) (q3 : cell.vm = .none) (q4 : ∀ k, k < N → cell.slots[G.2.2.1.2 ci k]? = some (vp_V (fs.map (ev_tr G)) k)) (e1 : H1[a]? = some (cell.setSlot (G.2.2.1.2 ci kf) (ev_tr G v))) : va_at G.2.2.1 vwCl (a, ev_trE G (oC ci (fs.set kf v))) H1 := by
  refine ⟨_, hc, ?_⟩
  have hap := va_apart (own := C) hts hin tyf hty hnm hK hc
  refine t_OB.to (V := updV (vp_V (fs.map (ev_tr G))) kf (ev_tr G v)) ⟨_, e1, q2, q3, t_set q4 hap hk (ev_tr G v)⟩ (fun j _ => ?_)
  rw [List.map_set]
  exact vp_updV_set (by rw [List.length_map]; exact hl) (ev_tr G v) j
/-- putfield: a field that isn't final, or one's own in the constructor -/
theorem Ev.putf {idx ci kf a : Nat} {ty : FieldType} {fin : Bool} {fs rest : List Value} {v : Value} (hF : ev_fld M.1.cls idx ci kf ty fin) (hd : decode M.2.1 pc = .ok (.putfield idx, 3)) (hc : hat h a (oC ci fs)) (hl : kf < fs.length) (hfit : ev_fit ty v = true) (hfin : fin = true → M.1.name = "<init>" ∧ ∃ r, vwCl[ci]? = some r ∧ r.1 = M.1.cls) (hE : Ev G d k n M (pc + 3) ls rest (hset h a (oC ci (fs.set kf v))) R) : Ev G d k n M pc ls (v :: .ref a :: rest) h R := by
  intro p e Rm s m args below meth c Q hx h1 h2 hkk H locs cells slots A g1 g2 g3 g4 g5
  obtain ⟨⟨C, T, N⟩, tyf, ⟨hcl, hin, hnm, hty⟩, hk, rfl, hfn, hdec, hlink⟩ := hF
  have hx0 := hx
  have hat' := g1.at hc.1
  rw [hc.2] at hat'
  obtain ⟨r', hr', cell, q1, q2, q3, q4⟩ := hat'
  have hr : r' = (C, T, N) := Option.some.inj (hr'.symm.trans hcl)
  subst hr
  obtain ⟨hexec, hb, hml, hown, hts, -, -, hname, hK⟩ := hx
  obtain ⟨hS, hfc, kC, hkC, hkind⟩ := hK.1.1 ci _ hcl
  obtain ⟨cf, kf', fi, f, hi, hsl⟩ := hS kf hk
  have hst := (u_facts hfc hkC (u_lays hts hin hk) hi).1
  obtain ⟨hn1, hn2⟩ := ev_fit_ok (G := G) hfit
  have hin' : kf < (fs.map (ev_tr G)).length := by rw [List.length_map]; exact hl
  have goal : ∀ H' : Heap, H'[ev_ad G a]? = some (cell.setSlot f.slot (ev_tr G v)) → H'.size = H.size → (∀ q, q ≠ ev_ad G a → H'[q]? = H[q]?) → W p G.1 e Rm s m args below meth c H' (locs ++ [⟨ev_ad G a, f.slot⟩]) cells slots Q (F0 m (pc + 3) A (rest.map (ev_tr G))) := by
    intro H' e1 e2 e3
    rw [hsl] at e1
    exact hE p e Rm s m args below meth c Q hx0 h1 h2 hkk H' _ cells slots A (g1.put hc.1 (ev_put_at hts hin hty hnm hK.1 hcl hk hl q2 q3 q4 e1) e2 e3) (ev_locs g2 (ev_ad_ge hc.1 g1.2.1)) g3 g4 g5
  cases fin with
  | false =>
    have hlay := hts _ (hin _ (u_in_lay hk))
    unfold u_lay at hlay
    rw [if_neg (by rw [hfn]; decide)] at hlay
    have h6 := u_store hfc hkC hkind hlay hi (hty kf hk) hn1 hn2
    exact W.putK hexec hb (f := f) ⟨hown, hts _ hlink, ⟨_, _, _, hi⟩, hst⟩ (by rw [q2]; exact h6) q1 q3 (by rw [hsl]; exact k2_hasslot (q4 kf hk)) rfl rfl hd goal
  | true =>
    obtain ⟨hnm1, r2, hr2, hr3⟩ := hfin rfl
    rw [hcl] at hr2; cases hr2
    have hlay := hts _ (hin _ (u_in_lay hk))
    unfold u_lay at hlay
    rw [if_pos hfn] at hlay
    have hcf : m.cls = cf := by
      obtain ⟨_, _, c', _, _, _, -, -, hf', -, -, -, hown2, -⟩ := Cond.laysFinal_spec hlay
      have e1 : c' = cf := by have := hi.symm.trans hf'; simp at this; exact this.1.symm
      rw [hdec] at hown2
      have hr3 : C = M.1.cls := hr3
      rw [← e1]; exact Option.some.inj (hown.symm.trans (by rw [← hr3]; exact hown2))
    have h6 := u_fits hfc hkC hkind (Or.inr hlay) hi (hty kf hk) hn1 hn2
    exact W.putFinK hexec hb hown (hts _ hlink) hi hst hcf (hname.trans hnm1) (by rw [q2]; exact h6) q1 q3 (by rw [hsl]; exact k2_hasslot (q4 kf hk)) rfl rfl hd goal
/-- an index within -/
def ev_ix (i : Int32) (j n : Nat) : Prop := i = nI j ∧ j < n ∧ n < 2147483648
theorem ev_ix.in {i : Int32} {j n : Nat} (h : ev_ix i j n) : vp_in i n ∧ i.toNatClampNeg = j := by
  obtain ⟨rfl, h1, h2⟩ := h
  exact ⟨vp_in_nI h1 (by omega), nI_clamp (by omega)⟩
theorem ev_at0 {D : va_G} {cl : List vw_C} {q : Nat × va_E} {H : Heap} (h : va_at D cl q H) : va_P D cl [q] H := by
  intro k q' hk
  cases k with
  | zero => cases hk; exact h
  | succ k => cases hk
theorem Ev.iald {a j N : Nat} {f : Nat → Int32} {i : Int32} {rest : List Value} (hd : decode M.2.1 pc = .ok (.iaload, 1)) (hc : hat h a (aI N f)) (hi : ev_ix i j N) (hE : Ev G d k n M (pc + 1) ls (.int (f j) :: rest) h R) : Ev G d k n M pc ls (.int i :: .ref a :: rest) h R := by
  intro p e Rm s m args below meth c Q hx h1 h2 hkk H locs cells slots A g1 g2 g3 g4 g5
  have hat' := g1.at hc.1
  rw [hc.2] at hat'
  obtain ⟨hin, e'⟩ := hi.in
  refine va_iald hx.1 hx.2.1 hx.2.2.2.2.2.2.2.2.1 (ev_at0 hat') 0 0 rfl rfl hin hd ?_
  rw [e']
  exact hE p e Rm s m args below meth c Q hx h1 h2 hkk H locs cells slots A g1 g2 g3 g4 g5
theorem Ev.lald {a j N : Nat} {f : Nat → Int64} {i : Int32} {rest : List Value} (hd : decode M.2.1 pc = .ok (.laload, 1)) (hc : hat h a (aL N f)) (hi : ev_ix i j N) (hE : Ev G d k n M (pc + 1) ls (.long (f j) :: rest) h R) : Ev G d k n M pc ls (.int i :: .ref a :: rest) h R := by
  intro p e Rm s m args below meth c Q hx h1 h2 hkk H locs cells slots A g1 g2 g3 g4 g5
  have hat' := g1.at hc.1
  rw [hc.2] at hat'
  obtain ⟨hin, e'⟩ := hi.in
  refine va_lald hx.1 hx.2.1 hx.2.2.2.2.2.2.2.2.1 (ev_at0 hat') 0 1 rfl rfl hin hd ?_
  rw [e']
  exact hE p e Rm s m args below meth c Q hx h1 h2 hkk H locs cells slots A g1 g2 g3 g4 g5
theorem Ev.bald {a j N : Nat} {f : Nat → Int32} {i : Int32} {rest : List Value} (hd : decode M.2.1 pc = .ok (.baload, 1)) (hc : hat h a (aB N f)) (hi : ev_ix i j N) (hE : Ev G d k n M (pc + 1) ls (.int (f j) :: rest) h R) : Ev G d k n M pc ls (.int i :: .ref a :: rest) h R := by
  intro p e Rm s m args below meth c Q hx h1 h2 hkk H locs cells slots A g1 g2 g3 g4 g5
  have hat' := g1.at hc.1
  rw [hc.2] at hat'
  obtain ⟨hin, e'⟩ := hi.in
  refine va_bald hx.1 hx.2.1 hx.2.2.2.2.2.2.2.2.1 (ev_at0 hat') 0 2 rfl rfl hin hd ?_
  rw [e']
  exact hE p e Rm s m args below meth c Q hx h1 h2 hkk H locs cells slots A g1 g2 g3 g4 g5
theorem Ev.sald {a j N b : Nat} {f : Nat → Option Nat} {i : Int32} {rest : List Value} (hd : decode M.2.1 pc = .ok (.aaload, 1)) (hc : hat h a (aS N f)) (hi : ev_ix i j N) (hf : f j = some b) (hE : Ev G d k n M (pc + 1) ls (.ref b :: rest) h R) : Ev G d k n M pc ls (.int i :: .ref a :: rest) h R := by
  intro p e Rm s m args below meth c Q hx h1 h2 hkk H locs cells slots A g1 g2 g3 g4 g5
  have hat' := g1.at hc.1
  rw [hc.2] at hat'
  obtain ⟨hin, e'⟩ := hi.in
  refine va_aldq hx.1 hx.2.1 hx.2.2.2.2.2.2.2.2.1 (ev_at0 hat') 0 4 rfl rfl hin hd ?_
  rw [e', hf]
  exact hE p e Rm s m args below meth c Q hx h1 h2 hkk H locs cells slots A g1 g2 g3 g4 g5
theorem Ev.gald {a j N b : Nat} {f : Nat → Option Nat} {i : Int32} {rest : List Value} (hd : decode M.2.1 pc = .ok (.aaload, 1)) (hc : hat h a (aG N f)) (hi : ev_ix i j N) (hf : f j = some b) (hE : Ev G d k n M (pc + 1) ls (.ref b :: rest) h R) : Ev G d k n M pc ls (.int i :: .ref a :: rest) h R := by
  intro p e Rm s m args below meth c Q hx h1 h2 hkk H locs cells slots A g1 g2 g3 g4 g5
  have hat' := g1.at hc.1
  rw [hc.2] at hat'
  obtain ⟨hin, e'⟩ := hi.in
  have hlt : i.toNatClampNeg < N := by rw [e']; exact hi.2.1
  refine W.aald (v := .ref (ev_ad G b)) (ty := .array .int) hx.1 hx.2.1 hat' ((hx.2.2.2.2.2.2.2.2.1.2 3 _ rfl).1 N (fun j => va_rf ((f j).map (ev_ad G)))) rfl (fun q => by cases q) (by show ¬ (i < 0 ∨ (arrV _ _ _).slots.size ≤ _); rw [arrV_size]; exact hin) (by show (arrV _ _ _).slots[_]? = _; rw [arrV_read _ _ hlt, e']; show some (va_rf ((f j).map (ev_ad G))) = _; rw [hf]; rfl) rfl rfl hd ?_
  exact hE p e Rm s m args below meth c Q hx h1 h2 hkk H locs cells slots A g1 g2 g3 g4 g5
theorem Ev.alen {a t N : Nat} {x : (Nat → Int32) ⊕ (Nat → Int64) ⊕ (Nat → UInt32) ⊕ (Nat → UInt64) ⊕ (Nat → Option Nat)} {rest : List Value} (hd : decode M.2.1 pc = .ok (.arraylength, 1)) (hc : hat h a (.inl (t, N, x))) (ht : t < 5) (hE : Ev G d k n M (pc + 1) ls (.int (nI N) :: rest) h R) : Ev G d k n M pc ls (.ref a :: rest) h R := by
  intro p e Rm s m args below meth c Q hx h1 h2 hkk H locs cells slots A g1 g2 g3 g4 g5
  have hat' := g1.at hc.1
  rw [hc.2] at hat'
  have hty : ∃ ty, (ev_tys G)[t]? = some (G.2.2.2.1 t, ty) := by
    match t, ht with
    | 0, _ => exact ⟨_, rfl⟩
    | 1, _ => exact ⟨_, rfl⟩
    | 2, _ => exact ⟨_, rfl⟩
    | 3, _ => exact ⟨_, rfl⟩
    | 4, _ => exact ⟨_, rfl⟩
  obtain ⟨ty, hty⟩ := hty
  have kk := hE p e Rm s m args below meth c Q hx h1 h2 hkk H locs cells slots A g1 g2 g3 g4 g5
  rcases x with f | f | f | f | f
  all_goals exact va_alen hx.1 hx.2.1 hx.2.2.2.2.2.2.2.2.1 (ev_at0 hat') 0 t rfl hty rfl hd kk
theorem Ev.iast {a j N : Nat} {f : Nat → Int32} {i x : Int32} {rest : List Value} (hd : decode M.2.1 pc = .ok (.iastore, 1)) (hc : hat h a (aI N f)) (hi : ev_ix i j N) (hE : Ev G d k n M (pc + 1) ls rest (hset h a (aI N (upd f j x))) R) : Ev G d k n M pc ls (.int x :: .int i :: .ref a :: rest) h R := by
  intro p e Rm s m args below meth c Q hx h1 h2 hkk H locs cells slots A g1 g2 g3 g4 g5
  have hat' := g1.at hc.1
  rw [hc.2] at hat'
  obtain ⟨hin, e'⟩ := hi.in
  refine W.iast hx.1 hx.2.1 (cell := vp_cell (G.2.2.2.1 0) (N, .inl f)) hat' ((hx.2.2.2.2.2.2.2.2.1.2 0 _ rfl).1 N (fun j => .int (f j))) (fun q => by cases q) (by show ¬ (i < 0 ∨ (arrV _ _ _).slots.size ≤ _); rw [arrV_size]; exact hin) rfl rfl hd fun H1 e1 z oq => ?_
  refine hE p e Rm s m args below meth c Q hx h1 h2 hkk H1 _ cells slots A (g1.put hc.1 ?_ z oq) (ev_locs g2 (ev_ad_ge hc.1 g1.2.1)) g3 g4 g5
  show H1[ev_ad G a]? = some (vp_cell _ _)
  rw [e1, vp_cell_i, vp_cell_i, arrV_store, e']
  congr 2
  funext q
  by_cases hq : q = j
  · subst hq; simp [updV, upd]
  · simp [updV, upd, hq]
theorem Ev.bast {a j N : Nat} {f : Nat → Int32} {i x : Int32} {rest : List Value} (hd : decode M.2.1 pc = .ok (.bastore, 1)) (hc : hat h a (aB N f)) (hi : ev_ix i j N) (hE : Ev G d k n M (pc + 1) ls rest (hset h a (aB N (upd f j (vp_nar .byte x)))) R) : Ev G d k n M pc ls (.int x :: .int i :: .ref a :: rest) h R := by
  intro p e Rm s m args below meth c Q hx h1 h2 hkk H locs cells slots A g1 g2 g3 g4 g5
  have hat' := g1.at hc.1
  rw [hc.2] at hat'
  obtain ⟨hin, e'⟩ := hi.in
  refine W.bast hx.1 hx.2.1 (cell := vp_cell (G.2.2.2.1 2) (N, .inl f)) hat' ((hx.2.2.2.2.2.2.2.2.1.2 2 _ rfl).1 N (fun j => .int (f j))) (fun q => by cases q) (by show ¬ (i < 0 ∨ (arrV _ _ _).slots.size ≤ _); rw [arrV_size]; exact hin) rfl rfl hd fun H1 e1 z oq => ?_
  refine hE p e Rm s m args below meth c Q hx h1 h2 hkk H1 _ cells slots A (g1.put hc.1 ?_ z oq) (ev_locs g2 (ev_ad_ge hc.1 g1.2.1)) g3 g4 g5
  show H1[ev_ad G a]? = some (vp_cell _ _)
  rw [e1, vp_cell_i, vp_cell_i, arrV_store, e']
  congr 2
  funext q
  by_cases hq : q = j
  · subst hq; simp [updV, upd, vp_nar]; try rfl
  · simp [updV, upd, hq]
theorem Ev.last {a j N : Nat} {f : Nat → Int64} {i : Int32} {x : Int64} {rest : List Value} (hd : decode M.2.1 pc = .ok (.lastore, 1)) (hc : hat h a (aL N f)) (hi : ev_ix i j N) (hE : Ev G d k n M (pc + 1) ls rest (hset h a (aL N (vp_updL f j x))) R) : Ev G d k n M pc ls (.long x :: .int i :: .ref a :: rest) h R := by
  intro p e Rm s m args below meth c Q hx h1 h2 hkk H locs cells slots A g1 g2 g3 g4 g5
  have hat' := g1.at hc.1
  rw [hc.2] at hat'
  obtain ⟨hin, e'⟩ := hi.in
  refine W.last hx.1 hx.2.1 (cell := vp_cell (G.2.2.2.1 1) (N, .inr (.inl f))) hat' ((hx.2.2.2.2.2.2.2.2.1.2 1 _ rfl).1 N (fun j => .long (f j))) (fun q => by cases q) (by show ¬ (i < 0 ∨ (arrV _ _ _).slots.size ≤ _); rw [arrV_size]; exact hin) rfl rfl hd fun H1 e1 z oq => ?_
  refine hE p e Rm s m args below meth c Q hx h1 h2 hkk H1 _ cells slots A (g1.put hc.1 ?_ z oq) (ev_locs g2 (ev_ad_ge hc.1 g1.2.1)) g3 g4 g5
  show H1[ev_ad G a]? = some (vp_cell _ _)
  rw [e1, vp_cell_l, vp_cell_l, arrV_store, e']
  congr 2
  funext q
  by_cases hq : q = j
  · subst hq; simp [updV, vp_updL]
  · simp [updV, vp_updL, hq]
end EVH
end
section
/-! calls -/
def ev_flat (as : List Value) : List Value := as.flatMap fun v => if v.category = 2 then [v, ev_unk] else [v]
/-- the locals with which a method begins -/
def ev_ent (nL : Nat) (as : List Value) : List Value := ev_flat as ++ List.replicate (nL - (ev_flat as).length) ev_unk
theorem ev_flat_in {G : ev_G} : ∀ (as : List Value) (off i : Nat) (v : Value), (ev_flat as)[i]? = some v → ev_known v = true → (off + i, ev_tr G v) ∈ lv_args off (as.map (ev_tr G))
  | [], off, i, v, h, _ => by simp [ev_flat] at h
  | w :: as, off, i, v, h, hk => by
    have ih := ev_flat_in (G := G) as
    have e : ev_flat (w :: as) = (if w.category = 2 then [w, ev_unk] else [w]) ++ ev_flat as := by simp [ev_flat]
    rw [e] at h
    rw [List.map_cons, lv_args, ev_cat]
    by_cases hc : w.category = 2
    · rw [if_pos hc] at h ⊢
      match i, h with
      | 0, h => simp at h; subst h; exact List.mem_cons_self
      | 1, h => simp at h; subst h; exact absurd hk (by decide)
      | i + 2, h =>
        refine List.mem_cons_of_mem _ ?_
        have := ih (off + 2) i v (by simpa using h) hk
        rwa [show off + (i + 2) = off + 2 + i by omega]
    · rw [if_neg hc] at h ⊢
      match i, h with
      | 0, h => simp at h; subst h; exact List.mem_cons_self
      | i + 1, h =>
        refine List.mem_cons_of_mem _ ?_
        have := ih (off + 1) i v (by simpa using h) hk
        rwa [show off + (i + 1) = off + 1 + i by omega]
theorem ev_sl_len {G : ev_G} : ∀ as : List Value, (lg_sl (as.map (ev_tr G))).length = (ev_flat as).length
  | [] => rfl
  | w :: as => by
    have ih := ev_sl_len (G := G) as
    have e : ev_flat (w :: as) = (if w.category = 2 then [w, ev_unk] else [w]) ++ ev_flat as := by simp [ev_flat]
    have e2 : lg_sl ((w :: as).map (ev_tr G)) = (if (ev_tr G w).category = 2 then [.val (ev_tr G w), .second] else [.val (ev_tr G w)]) ++ lg_sl (as.map (ev_tr G)) := by simp [lg_sl]
    rw [e, e2, List.length_append, List.length_append, ih, ev_cat]
    by_cases hc : w.category = 2 <;> simp [hc]
theorem ev_ent_L {G : ev_G} {nL : Nat} {as : List Value} (h : (ev_flat as).length ≤ nL) : ev_L G nL ((lg_sl (as.map (ev_tr G)) ++ List.replicate (nL - (lg_sl (as.map (ev_tr G))).length) Slot.unset).toArray) (ev_ent nL as) := by
  have hl := lv_entry (as.map (ev_tr G)) (n := nL) (by rw [ev_sl_len]; exact h)
  refine ⟨hl.1, hl.2.1, fun q hq => hl.2.2 q ?_⟩
  obtain ⟨v, hv, hk, e⟩ := ev_prs_in.mp hq
  obtain ⟨a, b⟩ := q
  have e : b = ev_tr G v := e
  subst e
  have hv : (ev_ent nL as)[a]? = some v := hv
  unfold ev_ent at hv
  by_cases ha : a < (ev_flat as).length
  · rw [List.getElem?_append_left ha] at hv
    have := ev_flat_in (G := G) as 0 a v hv hk
    rwa [Nat.zero_add] at this
  · rw [List.getElem?_append_right (by omega), List.getElem?_replicate] at hv
    split at hv
    · cases hv; exact absurd hk (by decide)
    · cases hv
/-- a method as the tables have it, of n arguments beside its object -/
def ev_ok (M : ev_M) (na : Nat) : Prop := Cond.code M.1 M.2.1 M.2.2.1 M.2.2.2 ∈ ev_ws ∧ Cond.initialized M.1.cls ∈ ev_ws ∧ plainName M.1.cls = true ∧ (M.1.cls ≠ "java/lang/invoke/MethodHandle" ∧ M.1.cls ≠ "java/lang/invoke/VarHandle") ∧ (parseMethodDescriptor M.1.desc).map (fun d => d.parameters.length) = some na ∧ M.2.2.1 ≤ 45
def ev_Pc (G : ev_G) (as : List Value) (h : ev_H) : Array Value → State → Prop := fun v U => v = (as.map (ev_tr G)).toArray ∧ ev_Rel G h U.heap ∧ ev_K G U
def ev_Qc (G : ev_G) (R : Option Value → ev_H → Prop) : Array Value → State → Outcome → State → Prop := fun _ _ o t => ∃ r h', o = .returned (r.map (ev_tr G)) ∧ R r h' ∧ ev_Rel G h' t.heap
def ev_rm (d k n : Nat) : Room := { frames := d, cells := k, slots := n, locals := 64 * d }
theorem ev_met {G : ev_G} {d k n : Nat} {M : ev_M} {as : List Value} {h : ev_H} {R : Option Value → ev_H → Prop} (hp : plainName M.1.cls = true) (hf : (ev_flat as).length ≤ M.2.2.1) (hE : Ev G d k n M 0 (ev_ent M.2.2.1 as) [] h R) :
    Met G.1 M.1 (Cond.code M.1 M.2.1 M.2.2.1 M.2.2.2 :: ev_ws) (ev_rm d k n) (ev_Pc G as h) (ev_Qc G R) k n (fun q => G.2.1.size ≤ q) := by
  refine Met.ofW (cc := M.2.1) (maxL := M.2.2.1) (ret := M.2.2.2) hp rfl ?_
  intro p e s m args below meth c s₁ B hml hv
  obtain ⟨rfl, hrel, hK⟩ := hv
  have hts0 := atoms_spec (ws := Cond.code M.1 M.2.1 M.2.2.1 M.2.2.2 :: ev_ws) B.pre
  have hx : ev_Cx G M p s m (as.map (ev_tr G)).toArray meth c := ⟨B.exec, B.bytes, hml, findClass_of_methodNamed B.named, fun w hw => hts0 w (List.mem_cons_of_mem _ hw), B.returns, B.notSynchronized, (name_of_methodNamed B.named B.method).1, hK⟩
  rw [lg_entry_eq]
  refine hE p e _ s m _ below meth c _ hx (Nat.le_refl _) (Nat.le_refl _) ?_ s.heap [] 0 0 _ hrel (fun q hq => by cases hq) (by show 0 + k ≤ k; omega) (by show 0 + n ≤ n; omega) (ev_ent_L hf)
  intro r h' H' locs' cells' slots' pc' A' hR hrel' hl' hc' hs' hr
  have hq : ∀ t : State, t.heap = H' → s.WarmedH t.vm → ev_Qc G R (as.map (ev_tr G)).toArray s (.returned (r.map (ev_tr G))) t := fun t ht _ => ⟨r, h', rfl, hR, by rw [ht]; exact hrel'⟩
  refine W.widen (k := k) (n := n) hc' hs' ?_
  rcases hr with ⟨v, rfl, hd, ty, hty, hn⟩ | ⟨v, rfl, hd, hty⟩ | ⟨rfl, hd, hty⟩ | ⟨a, rfl, hd, rt, hty, hrt⟩
  · exact W.zret B.exec B.bytes (B.returns.trans hty) hn hq hl' hd
  · exact W.lret B.exec B.bytes (B.returns.trans hty) hq hl' hd
  · exact W.vret B.exec B.bytes (B.returns.trans hty) hq hl' hd
  · exact W.aret B.exec B.bytes (B.returns.trans hty) hrt (Or.inr ⟨_, rfl⟩) hq hl' hd
theorem ev_blind (G : ev_G) (as : List Value) (h : ev_H) : FrameBlind (ev_Pc G as h) := fun _ U _ _ q => ⟨q.1, q.2.1, ev_K.same (u := U) rfl q.2.2⟩
section EVC
variable {G : ev_G} {d k n k1 n1 : Nat} {M M' : ev_M} {pc idx na : Nat} {ls rest as : List Value} {h : ev_H} {R R1 : Option Value → ev_H → Prop}
theorem ev_after {p : Program} {l : Launch} {e : Env} {Rm : Room} {s : State} {m : MethodId} {args : Array Value} {below : List Frame} {meth : Method} {c : Code} {Q : State → Prop} {H : Heap} {locs : List Loc} {cells slots mc ms : Nat} {A : Array Slot} {st0 rest : List Value} {a : Array Value} {free : Addr → Prop}
    (hr : va_Run p l e Rm s m args below meth c H locs cells slots mc ms (F0 m pc A st0) rest (ev_Qc G R1 a) free) (hl : ∀ q ∈ locs, G.2.1.size ≤ q.base) (hf : ∀ q, free q → G.2.1.size ≤ q)
    (kk : ∀ (r : Option Value) (h' : ev_H) (H1 : Heap) (locs1 : List Loc), R1 r h' → ev_Rel G h' H1 → (∀ q ∈ locs1, G.2.1.size ≤ q.base) → W p l e Rm s m args below meth c H1 locs1 (cells + mc) (slots + ms) Q (F0 m (pc + 3) A ((r.map (ev_tr G)).toList ++ rest))) : W p l e Rm s m args below meth c H locs cells slots Q (F0 m pc A st0) := by
  intro T hT X
  obtain ⟨v, st₀, t, T', L, h0, X', hL, e1, e2, ⟨r, h', hv, hR, hrel⟩, st⟩ := hr T hT X
  cases hv
  obtain ⟨t2, a1, b1⟩ := kk r h' T'.heap (locs ++ L) hR (by rw [e1]; exact hrel) (fun q hq => by
    rcases List.mem_append.mp hq with h | h
    · exact hl q h
    · exact hf _ (hL q h)) T' rfl X'
  exact ⟨t2, st t2 a1, b1⟩
theorem ev_room {rest : List Value} {m : MethodId} {A : Array Slot} {pc : Nat} {st0 : List Value} (h : (rest.map fun v => v.category).sum ≤ 8) : 2 * (F0 m pc A st0).monitorRoom + ((rest.map (ev_tr G)).map fun v => v.category).sum ≤ 8 := by
  have e : ((rest.map (ev_tr G)).map fun v => v.category) = rest.map fun v => v.category := by
    rw [List.map_map]; exact List.map_congr_left fun v _ => ev_cat G v
  rw [e]
  show 2 * 0 + _ ≤ 8
  omega
theorem ev_words {s : State} {args : Array Value} {y : MethodName} {bytes : ByteArray} {maxL : Nat} {ret : Option FieldType} (hts : ∀ w ∈ ev_ws, w.before args s = true) (hc : Cond.code y bytes maxL ret ∈ ev_ws) : ∀ w ∈ (Cond.code y bytes maxL ret :: ev_ws), ∀ (a' : Array Value) (U : State), s.WarmedH U.vm → w.before a' U = true := by
  intro w hw a' U hW
  have hm : w ∈ ev_ws := by
    rcases List.mem_cons.mp hw with rfl | hw
    · exact hc
    · exact hw
  exact word_at hW (ev_good w hm) (hts w hm)
theorem ev_npar {y : MethodName} {na : Nat} (h2 : (parseMethodDescriptor y.desc).map (fun d => d.parameters.length) = some na) : ∀ sig, parseMethodDescriptor y.desc = some sig → na = sig.parameters.length := fun sig h => by
  rw [h] at h2
  exact (Option.some.inj h2).symm
/-- invokevirtual -/
theorem Ev.callV {a ci : Nat} {fs : List Value} {st : List Value} (hL : Cond.methodLink M.1.cls idx M'.1 ∈ ev_ws) (hok : ev_ok M' na) (hin : Cond.instanceMethod M'.1 ∈ ev_ws) (hse : Cond.selects M'.1.cls M'.1 M'.1 ∈ ev_ws) (hd : decode M.2.1 pc = .ok (.invokevirtual idx, 3)) (hc : hat h a (oC ci fs)) (hcl : (vwCl[ci]?).map (fun r => r.1) = some M'.1.cls)
    (hst : st = as.reverse ++ .ref a :: rest) (hn : as.length = na) (hr : (rest.map fun v => v.category).sum ≤ 8) (hf : (ev_flat (.ref a :: as)).length ≤ M'.2.2.1) (hE : Ev G d k1 n1 M' 0 (ev_ent M'.2.2.1 (.ref a :: as)) [] h R1)
    (hk : ∀ r h', R1 r h' → Ev G (d + 1) k n M (pc + 3) ls (r.toList ++ rest) h' R) : Ev G (d + 1) (k1 + k) (n1 + n) M pc ls st h R := by
  intro p e Rm s m args below meth c Q hx h1 h2 hkk H locs cells slots A g1 g2 g3 g4 g5
  obtain ⟨o1, o2, o3, o4, o5, o6⟩ := hok
  have hts := hx.2.2.2.2.1
  have hat' := g1.at hc.1
  rw [hc.2] at hat'
  obtain ⟨r', hr', hcl'⟩ := Option.map_eq_some_iff.mp hcl
  have hrecv : ∃ cell : Cell, H[ev_ad G a]? = some cell ∧ cell.vm.isStatics = false ∧ s.vm.findClass M'.1.cls = some cell.cls := by
    obtain ⟨q', w1, cell, w2, w3, w4, -⟩ := hat'
    refine ⟨cell, w2, by rw [w4]; rfl, ?_⟩
    have := (hx.2.2.2.2.2.2.2.2.1.1 ci r' hr').2.1
    rw [hcl'] at this
    rw [w3]; exact this
  have hM := ev_met o3 hf hE
  have hrun := va_runV (p := p) (e := e) (R := Rm) (s := s) (m := m) (args := args) (below := below) (meth := meth) (c := c) (H := H) (locs := locs) (cells := cells) (slots := slots) (Ts := ev_ws) (own := M.1.cls) (C := M'.1.cls) (index := idx) (n := na) (bytes := M'.2.1) (maxL := M'.2.2.1) (ret := M'.2.2.2) (b := ev_ad G a) (As := as.map (ev_tr G)) (rest := rest.map (ev_tr G)) (g := F0 m pc A (st.map (ev_tr G)))
    ⟨hx.1, hx.2.1, hx.2.2.1, hx.2.2.2.1, hts⟩ hM ⟨⟨rfl, rfl, by show d + 1 ≤ _; omega, by show 8 + (M'.2.2.1 + 11) + 64 * d ≤ _; omega, ev_words hts o1, List.mem_cons_self, hts _ o1, hts _ o2, o4, ev_npar o5, hts _ hL⟩, hts _ hin, hts _ hse⟩
    ⟨ev_blind G _ h, hrecv, fun U hU hW => ⟨by simp [ev_tr], by rw [hU]; exact g1, ev_K.warm hW hx.2.2.2.2.2.2.2.2⟩⟩ rfl (by rw [List.length_map]; exact hn) (g5.1.trans rfl) (by rw [hst]; show List.map (ev_tr G) (as.reverse ++ .ref a :: rest) = _; rw [List.map_append, List.map_reverse, List.map_cons]; rfl) (ev_room hr) hd ⟨by omega, by omega⟩
  refine ev_after hrun g2 (fun q h => h) fun r h' H1 locs1 hR hrel hl => ?_
  have := hk r h' hR p e Rm s m args below meth c Q hx h1 h2 hkk H1 locs1 (cells + k1) (slots + n1) A hrel hl (by omega) (by omega) g5
  rw [List.map_append] at this
  cases r <;> exact this
/-- invokestatic -/
theorem Ev.callS {st : List Value} (hL : Cond.methodLink M.1.cls idx M'.1 ∈ ev_ws) (hok : ev_ok M' na) (hstat : Cond.static M'.1 ∈ ev_ws) (hd : decode M.2.1 pc = .ok (.invokestatic idx, 3))
    (hst : st = as.reverse ++ rest) (hn : as.length = na) (hr : (rest.map fun v => v.category).sum ≤ 8) (hf : (ev_flat as).length ≤ M'.2.2.1) (hE : Ev G d k1 n1 M' 0 (ev_ent M'.2.2.1 as) [] h R1)
    (hk : ∀ r h', R1 r h' → Ev G (d + 1) k n M (pc + 3) ls (r.toList ++ rest) h' R) : Ev G (d + 1) (k1 + k) (n1 + n) M pc ls st h R := by
  intro p e Rm s m args below meth c Q hx h1 h2 hkk H locs cells slots A g1 g2 g3 g4 g5
  obtain ⟨o1, o2, o3, o4, o5, o6⟩ := hok
  have hts := hx.2.2.2.2.1
  have hM := ev_met o3 hf hE
  have hrun := va_runS (p := p) (e := e) (R := Rm) (s := s) (m := m) (args := args) (below := below) (meth := meth) (c := c) (H := H) (locs := locs) (cells := cells) (slots := slots) (Ts := ev_ws) (own := M.1.cls) (index := idx) (n := na) (bytes := M'.2.1) (maxL := M'.2.2.1) (ret := M'.2.2.2) (As := as.map (ev_tr G)) (rest := rest.map (ev_tr G)) (g := F0 m pc A (st.map (ev_tr G)))
    ⟨hx.1, hx.2.1, hx.2.2.1, hx.2.2.2.1, hts⟩ hM ⟨⟨rfl, rfl, by show d + 1 ≤ _; omega, by show 8 + (M'.2.2.1 + 11) + 64 * d ≤ _; omega, ev_words hts o1, List.mem_cons_self, hts _ o1, hts _ o2, o4, ev_npar o5, hts _ hL⟩, hts _ hstat⟩
    ⟨ev_blind G _ h, fun U hU hW => ⟨rfl, by rw [hU]; exact g1, ev_K.warm hW hx.2.2.2.2.2.2.2.2⟩⟩ rfl (by rw [List.length_map]; exact hn) (g5.1.trans rfl) (by rw [hst]; show List.map (ev_tr G) (as.reverse ++ rest) = _; rw [List.map_append, List.map_reverse]) (ev_room hr) hd ⟨by omega, by omega⟩
  refine ev_after hrun g2 (fun q h => h) fun r h' H1 locs1 hR hrel hl => ?_
  have := hk r h' hR p e Rm s m args below meth c Q hx h1 h2 hkk H1 locs1 (cells + k1) (slots + n1) A hrel hl (by omega) (by omega) g5
  rw [List.map_append] at this
  cases r <;> exact this
theorem ev_nestw {s : State} {args : Array Value} {a b : String} {i : Nat} {x : MethodName} (hK : ev_K G s) (h : Cond.methodLinkNest a i x b ∈ ev_nest) : (Cond.methodLinkNest a i x b).before args s = true := va_Nw.use rfl (hK.2.1 _ h)
/-- invokestatic of a nest mate's -/
theorem Ev.callSN {host : String} {st : List Value} (hL : Cond.methodLinkNest M.1.cls idx M'.1 host ∈ ev_nest) (hok : ev_ok M' na) (hstat : Cond.static M'.1 ∈ ev_ws) (hd : decode M.2.1 pc = .ok (.invokestatic idx, 3))
    (hst : st = as.reverse ++ rest) (hn : as.length = na) (hr : (rest.map fun v => v.category).sum ≤ 8) (hf : (ev_flat as).length ≤ M'.2.2.1) (hE : Ev G d k1 n1 M' 0 (ev_ent M'.2.2.1 as) [] h R1)
    (hk : ∀ r h', R1 r h' → Ev G (d + 1) k n M (pc + 3) ls (r.toList ++ rest) h' R) : Ev G (d + 1) (k1 + k) (n1 + n) M pc ls st h R := by
  intro p e Rm s m args below meth c Q hx h1 h2 hkk H locs cells slots A g1 g2 g3 g4 g5
  obtain ⟨o1, o2, o3, o4, o5, o6⟩ := hok
  have hts := hx.2.2.2.2.1
  have hM := ev_met o3 hf hE
  have hrun := va_runSN (p := p) (e := e) (R := Rm) (s := s) (m := m) (args := args) (below := below) (meth := meth) (c := c) (H := H) (locs := locs) (cells := cells) (slots := slots) (Ts := ev_ws) (own := M.1.cls) (host := host) (index := idx) (n := na) (bytes := M'.2.1) (maxL := M'.2.2.1) (ret := M'.2.2.2) (As := as.map (ev_tr G)) (rest := rest.map (ev_tr G)) (g := F0 m pc A (st.map (ev_tr G)))
    ⟨hx.1, hx.2.1, hx.2.2.1, hx.2.2.2.1, hts⟩ hM ⟨⟨⟨rfl, rfl, by show d + 1 ≤ _; omega, by show 8 + (M'.2.2.1 + 11) + 64 * d ≤ _; omega, ev_words hts o1, List.mem_cons_self⟩, hts _ o1, hts _ o2, o4, ev_npar o5, ev_nestw hx.2.2.2.2.2.2.2.2 hL⟩, hts _ hstat, trivial⟩
    ⟨ev_blind G _ h, fun U hU hW => ⟨rfl, by rw [hU]; exact g1, ev_K.warm hW hx.2.2.2.2.2.2.2.2⟩⟩ rfl (by rw [List.length_map]; exact hn) (g5.1.trans rfl) (by rw [hst]; show List.map (ev_tr G) (as.reverse ++ rest) = _; rw [List.map_append, List.map_reverse]) (ev_room hr) hd ⟨by omega, by omega⟩
  refine ev_after hrun g2 (fun q h => h) fun r h' H1 locs1 hR hrel hl => ?_
  have := hk r h' hR p e Rm s m args below meth c Q hx h1 h2 hkk H1 locs1 (cells + k1) (slots + n1) A hrel hl (by omega) (by omega) g5
  rw [List.map_append] at this
  cases r <;> exact this
/-- invokespecial of a constructor -/
theorem Ev.callI {a : Nat} {st : List Value} (hL : Cond.methodLink M.1.cls idx M'.1 ∈ ev_ws) (hok : ev_ok M' na) (hin : Cond.instanceMethod M'.1 ∈ ev_ws) (hi : M'.1.name = "<init>") (hret : M'.2.2.2 = none) (hd : decode M.2.1 pc = .ok (.invokespecial idx, 3))
    (hst : st = as.reverse ++ .ref a :: rest) (hn : as.length = na) (hr : (rest.map fun v => v.category).sum ≤ 8) (hf : (ev_flat (.ref a :: as)).length ≤ M'.2.2.1) (hE : Ev G d k1 n1 M' 0 (ev_ent M'.2.2.1 (.ref a :: as)) [] h R1)
    (hk : ∀ r h', R1 r h' → Ev G (d + 1) k n M (pc + 3) ls (r.toList ++ rest) h' R) : Ev G (d + 1) (k1 + k) (n1 + n) M pc ls st h R := by
  intro p e Rm s m args below meth c Q hx h1 h2 hkk H locs cells slots A g1 g2 g3 g4 g5
  obtain ⟨o1, o2, o3, o4, o5, o6⟩ := hok
  have hts := hx.2.2.2.2.1
  have hM := ev_met o3 hf hE
  rw [hret] at hM o1
  have hrun := va_runI (p := p) (e := e) (R := Rm) (s := s) (m := m) (args := args) (below := below) (meth := meth) (c := c) (H := H) (locs := locs) (cells := cells) (slots := slots) (Ts := ev_ws) (own := M.1.cls) (index := idx) (n := na) (bytes := M'.2.1) (maxL := M'.2.2.1) (b := ev_ad G a) (As := as.map (ev_tr G)) (rest := rest.map (ev_tr G)) (g := F0 m pc A (st.map (ev_tr G)))
    ⟨hx.1, hx.2.1, hx.2.2.1, hx.2.2.2.1, hts⟩ hM ⟨⟨rfl, rfl, by show d + 1 ≤ _; omega, by show 8 + (M'.2.2.1 + 11) + 64 * d ≤ _; omega, ev_words hts o1, List.mem_cons_self, hts _ o1, hts _ o2, o4, ev_npar o5, hts _ hL⟩, hi, hts _ hin⟩
    ⟨ev_blind G _ h, fun U hU hW => ⟨by simp [ev_tr], by rw [hU]; exact g1, ev_K.warm hW hx.2.2.2.2.2.2.2.2⟩⟩ rfl (by rw [List.length_map]; exact hn) (g5.1.trans rfl) (by rw [hst]; show List.map (ev_tr G) (as.reverse ++ .ref a :: rest) = _; rw [List.map_append, List.map_reverse, List.map_cons]; rfl) (ev_room hr) hd ⟨by omega, by omega⟩
  refine ev_after hrun g2 (fun q h => h) fun r h' H1 locs1 hR hrel hl => ?_
  have := hk r h' hR p e Rm s m args below meth c Q hx h1 h2 hkk H1 locs1 (cells + k1) (slots + n1) A hrel hl (by omega) (by omega) g5
  rw [List.map_append] at this
  cases r <;> exact this
theorem Ev.callIN {host : String} {a : Nat} {st : List Value} (hL : Cond.methodLinkNest M.1.cls idx M'.1 host ∈ ev_nest) (hok : ev_ok M' na) (hin : Cond.instanceMethod M'.1 ∈ ev_ws) (hi : M'.1.name = "<init>") (hret : M'.2.2.2 = none) (hd : decode M.2.1 pc = .ok (.invokespecial idx, 3))
    (hst : st = as.reverse ++ .ref a :: rest) (hn : as.length = na) (hr : (rest.map fun v => v.category).sum ≤ 8) (hf : (ev_flat (.ref a :: as)).length ≤ M'.2.2.1) (hE : Ev G d k1 n1 M' 0 (ev_ent M'.2.2.1 (.ref a :: as)) [] h R1)
    (hk : ∀ r h', R1 r h' → Ev G (d + 1) k n M (pc + 3) ls (r.toList ++ rest) h' R) : Ev G (d + 1) (k1 + k) (n1 + n) M pc ls st h R := by
  intro p e Rm s m args below meth c Q hx h1 h2 hkk H locs cells slots A g1 g2 g3 g4 g5
  obtain ⟨o1, o2, o3, o4, o5, o6⟩ := hok
  have hts := hx.2.2.2.2.1
  have hM := ev_met o3 hf hE
  rw [hret] at hM o1
  have hrun := va_runIN (p := p) (e := e) (R := Rm) (s := s) (m := m) (args := args) (below := below) (meth := meth) (c := c) (H := H) (locs := locs) (cells := cells) (slots := slots) (Ts := ev_ws) (own := M.1.cls) (host := host) (index := idx) (n := na) (bytes := M'.2.1) (maxL := M'.2.2.1) (b := ev_ad G a) (As := as.map (ev_tr G)) (rest := rest.map (ev_tr G)) (g := F0 m pc A (st.map (ev_tr G)))
    ⟨hx.1, hx.2.1, hx.2.2.1, hx.2.2.2.1, hts⟩ hM ⟨⟨⟨rfl, rfl, by show d + 1 ≤ _; omega, by show 8 + (M'.2.2.1 + 11) + 64 * d ≤ _; omega, ev_words hts o1, List.mem_cons_self⟩, hts _ o1, hts _ o2, o4, ev_npar o5, ev_nestw hx.2.2.2.2.2.2.2.2 hL⟩, hi, hts _ hin⟩
    ⟨ev_blind G _ h, fun U hU hW => ⟨by simp [ev_tr], by rw [hU]; exact g1, ev_K.warm hW hx.2.2.2.2.2.2.2.2⟩⟩ rfl (by rw [List.length_map]; exact hn) (g5.1.trans rfl) (by rw [hst]; show List.map (ev_tr G) (as.reverse ++ .ref a :: rest) = _; rw [List.map_append, List.map_reverse, List.map_cons]; rfl) (ev_room hr) hd ⟨by omega, by omega⟩
  refine ev_after hrun g2 (fun q h => h) fun r h' H1 locs1 hR hrel hl => ?_
  have := hk r h' hR p e Rm s m args below meth c Q hx h1 h2 hkk H1 locs1 (cells + k1) (slots + n1) A hrel hl (by omega) (by omega) g5
  rw [List.map_append] at this
  cases r <;> exact this
end EVC
end
section
/-! what is made; constants; the library's own -/
section EVM
variable {G : ev_G} {d k n : Nat} {M : ev_M} {pc idx : Nat} {ls rest st : List Value} {h : ev_H} {R : Option Value → ev_H → Prop}
theorem ev_push_locs {G : ev_G} {h : ev_H} {H : Heap} (g1 : ev_Rel G h H) (hb : h.1 < ev_big) : ev_ad G h.1 = H.size := by rw [ev_ad_lt hb (Nat.le_refl _), g1.1]
theorem Ev.new {ci : Nat} {r : vw_C} {tyf : Nat → FieldType} {fs : List Value} (hcl : ev_cls ci r tyf) (hL : Cond.classLink M.1.cls idx r.1 ∈ ev_ws) (hi : Cond.instantiable r.1 r.2.2 ∈ ev_ws) (hini : Cond.initialized r.1 ∈ ev_ws) (hd : decode M.2.1 pc = .ok (.new idx, 3)) (hb : h.1 < ev_big) (hfs : ∀ j, j < r.2.2 → defaultValue (tyf j) = vp_V fs j) (hfr : ∀ v ∈ fs, ∀ a, v ≠ .ref a)
    (hE : Ev G d k n M (pc + 3) ls (.ref h.1 :: rest) (hpush h (oC ci fs)) R) : Ev G d (k + 1) (n + r.2.2) M pc ls rest h R := by
  intro p e Rm s m args below meth c Q hx h1 h2 hkk H locs cells slots A g1 g2 g3 g4 g5
  obtain ⟨hc, hin, hnm, hty⟩ := hcl
  obtain ⟨C, T, N⟩ := r
  have hts := hx.2.2.2.2.1
  have hKn := hx.2.2.2.2.2.2.2.2.1.1 ci _ hc
  refine W.newcK hx.1 hx.2.1 hx.2.2.2.1 (hts _ hL) (hts _ hi) (hts _ hini) rfl hd (by omega) (by omega) hKn.2.1 rfl fun H1 kC hkC e1 z1 o1 => ?_
  have hmap : fs.map (ev_tr G) = fs := by
    refine (List.map_congr_left fun v hv => ?_).trans (List.map_id' fs)
    have := hfr v hv
    cases v <;> first | rfl | exact absurd rfl (this _)
  have hrel := g1.push hb (c := oC ci fs) (H1 := H1) ⟨_, hc, by rw [hmap]; exact (u_born tyf hts hin hKn hkC e1 hty).to hfs⟩ z1 o1
  have := hE p e Rm s m args below meth c Q hx h1 h2 hkk H1 locs (cells + 1) (slots + N) A hrel g2 (by omega) (by have : (C, T, N).2.2 = N := rfl; omega) g5
  rw [List.map_cons] at this
  simp only [ev_tr] at this
  rw [ev_push_locs g1 hb] at this
  exact this
theorem ev_known_arr {G : ev_G} {s : State} {cA : ClassId} {t : Nat} {ty : FieldType} (hK : ev_K G s) (ht : (ev_tys G)[t]? = some (G.2.2.2.1 t, ty)) (hno : ∀ C, ty ≠ .object C) (h : s.vm.findClass ("[" ++ ty.toString) = some cA) : cA = G.2.2.2.1 t := by
  have := (hK.1.2 t _ ht).2
  cases ty with
  | object C => exact absurd rfl (hno C)
  | _ => exact Option.some.inj (h.symm.trans this)
theorem Ev.newI {N : Nat} (hA : Cond.arrayClass .int ∈ ev_ws) (hd : decode M.2.1 pc = .ok (.newarray .int, 2)) (hb : h.1 < ev_big) {i : Int32} (hi : i = nI N) (hN : N < 100000) (hE : Ev G d k n M (pc + 2) ls (.ref h.1 :: rest) (hpush h (aI N (fun _ => 0))) R) : Ev G d (k + 1) (n + N) M pc ls (.int i :: rest) h R := by
  intro p e Rm s m args below meth c Q hx h1 h2 hkk H locs cells slots A g1 g2 g3 g4 g5
  subst hi
  refine va_newaK (N := N) (atype := .int) hx.1 hx.2.1 (hx.2.2.2.2.1 _ hA) rfl hd rfl (nI_pos (by omega)) (nI_clamp (by omega)) (by show N * 4 ≤ _; omega) (by omega) (by omega) rfl fun H1 cA e1 z1 o1 hAr hNm => ?_
  have ec := ev_known_arr (t := 0) (ty := .int) hx.2.2.2.2.2.2.2.2 rfl (fun C q => by cases q) hNm
  subst ec
  have hrel := g1.push hb (c := aI N (fun _ => 0)) (H1 := H1) (show H1[H.size]? = some (vp_cell _ _) by rw [vp_cell_i]; exact e1) z1 o1
  have := hE p e Rm s m args below meth c Q hx h1 h2 hkk H1 locs (cells + 1) (slots + N) A hrel g2 (by omega) (by omega) g5
  rw [List.map_cons] at this
  simp only [ev_tr] at this
  rw [ev_push_locs g1 hb] at this
  exact this
theorem Ev.newL {N : Nat} (hA : Cond.arrayClass .long ∈ ev_ws) (hd : decode M.2.1 pc = .ok (.newarray .long, 2)) (hb : h.1 < ev_big) {i : Int32} (hi : i = nI N) (hN : N < 100000) (hE : Ev G d k n M (pc + 2) ls (.ref h.1 :: rest) (hpush h (aL N (fun _ => 0))) R) : Ev G d (k + 1) (n + N) M pc ls (.int i :: rest) h R := by
  intro p e Rm s m args below meth c Q hx h1 h2 hkk H locs cells slots A g1 g2 g3 g4 g5
  subst hi
  refine va_newaK (N := N) (atype := .long) hx.1 hx.2.1 (hx.2.2.2.2.1 _ hA) rfl hd rfl (nI_pos (by omega)) (nI_clamp (by omega)) (by show N * 8 ≤ _; omega) (by omega) (by omega) rfl fun H1 cA e1 z1 o1 hAr hNm => ?_
  have ec := ev_known_arr (t := 1) (ty := .long) hx.2.2.2.2.2.2.2.2 rfl (fun C q => by cases q) hNm
  subst ec
  have hrel := g1.push hb (c := aL N (fun _ => 0)) (H1 := H1) (show H1[H.size]? = some (vp_cell _ _) by rw [vp_cell_l]; exact e1) z1 o1
  have := hE p e Rm s m args below meth c Q hx h1 h2 hkk H1 locs (cells + 1) (slots + N) A hrel g2 (by omega) (by omega) g5
  rw [List.map_cons] at this
  simp only [ev_tr] at this
  rw [ev_push_locs g1 hb] at this
  exact this
theorem Ev.newB {N : Nat} (hA : Cond.arrayClass .byte ∈ ev_ws) (hd : decode M.2.1 pc = .ok (.newarray .byte, 2)) (hb : h.1 < ev_big) {i : Int32} (hi : i = nI N) (hN : N < 100000) (hE : Ev G d k n M (pc + 2) ls (.ref h.1 :: rest) (hpush h (aB N (fun _ => 0))) R) : Ev G d (k + 1) (n + N) M pc ls (.int i :: rest) h R := by
  intro p e Rm s m args below meth c Q hx h1 h2 hkk H locs cells slots A g1 g2 g3 g4 g5
  subst hi
  refine va_newaK (N := N) (atype := .byte) hx.1 hx.2.1 (hx.2.2.2.2.1 _ hA) rfl hd rfl (nI_pos (by omega)) (nI_clamp (by omega)) (by show N * 1 ≤ _; omega) (by omega) (by omega) rfl fun H1 cA e1 z1 o1 hAr hNm => ?_
  have ec := ev_known_arr (t := 2) (ty := .byte) hx.2.2.2.2.2.2.2.2 rfl (fun C q => by cases q) hNm
  subst ec
  have hrel := g1.push hb (c := aB N (fun _ => 0)) (H1 := H1) (show H1[H.size]? = some (vp_cell _ _) by rw [vp_cell_i]; exact e1) z1 o1
  have := hE p e Rm s m args below meth c Q hx h1 h2 hkk H1 locs (cells + 1) (slots + N) A hrel g2 (by omega) (by omega) g5
  rw [List.map_cons] at this
  simp only [ev_tr] at this
  rw [ev_push_locs g1 hb] at this
  exact this
theorem Ev.newS {N : Nat} (hL : Cond.classLink M.1.cls idx "AlikeStore$Store" ∈ ev_ws) (hd : decode M.2.1 pc = .ok (.anewarray idx, 3)) (hb : h.1 < ev_big) {i : Int32} (hi : i = nI N) (hN : N < 100000) (hE : Ev G d k n M (pc + 3) ls (.ref h.1 :: rest) (hpush h (aS N (fun _ => none))) R) : Ev G d (k + 1) (n + N) M pc ls (.int i :: rest) h R := by
  intro p e Rm s m args below meth c Q hx h1 h2 hkk H locs cells slots A g1 g2 g3 g4 g5
  subst hi
  have hcl : (nI N).toNatClampNeg = N := nI_clamp (by omega)
  refine W.anew hx.1 hx.2.1 hx.2.2.2.1 (hx.2.2.2.2.1 _ hL) (va_AO.use hx.2.2.2.2.2.2.2.2.2.2.1.1) rfl hd rfl (nI_pos (by omega)) (by rw [hcl]; omega) (by omega) (by rw [hcl]; omega) fun cA kA comp f1 f2 f3 f4 => ?_
  rw [hcl]
  generalize hH1 : H.push ({ cls := cA, slots := Array.replicate N .null, vm := .none } : Cell) = H1
  have z1 : H1.size = H.size + 1 := by rw [← hH1, Array.size_push]
  have e1 : H1[H.size]? = some (arrV cA N (fun _ => .null)) := by rw [← hH1, Array.getElem?_push_size, ← arrV_new]
  have o1 : ∀ q : Nat, q < H.size → H1[q]? = H[q]? := fun q hq => by rw [← hH1, Array.getElem?_push, if_neg (Nat.ne_of_lt hq)]
  have ec : cA = G.2.2.2.1 4 := by
    obtain ⟨kA', comp', w1, w2, w3, w4⟩ := (hx.2.2.2.2.2.2.2.2.1.2 4 _ rfl).2
    exact Option.some.inj (f1.symm.trans w4)
  subst ec
  have hrel := g1.push hb (c := aS N (fun _ => none)) (H1 := H1) (show H1[H.size]? = some (vp_cell _ _) by rw [vp_cell_q]; exact e1) z1 o1
  have := hE p e Rm s m args below meth c Q hx h1 h2 hkk H1 locs (cells + 1) (slots + N) A hrel g2 (by omega) (by omega) g5
  rw [List.map_cons] at this
  simp only [ev_tr] at this
  rw [ev_push_locs g1 hb] at this
  exact this
theorem Ev.aast {a b j N : Nat} {f : Nat → Option Nat} {fs : List Value} {i : Int32} (hd : decode M.2.1 pc = .ok (.aastore, 1)) (hc : hat h a (aS N f)) (hb : hat h b (oC 6 fs)) (hi : ev_ix i j N) (hE : Ev G d k n M (pc + 1) ls rest (hset h a (aS N (va_up f j (some b)))) R) : Ev G d k n M pc ls (.ref b :: .int i :: .ref a :: rest) h R := by
  intro p e Rm s m args below meth c Q hx h1 h2 hkk H locs cells slots A g1 g2 g3 g4 g5
  have hat' := g1.at hc.1
  rw [hc.2] at hat'
  have hatb := g1.at hb.1
  rw [hb.2] at hatb
  obtain ⟨hin, e'⟩ := hi.in
  have hlt : i.toNatClampNeg < N := by rw [e']; exact hi.2.1
  have h0 : ¬ i < 0 := fun q => hin (Or.inl q)
  obtain ⟨r', hr', cellV, w1, w2, w3, -⟩ := hatb
  have hcls := (hx.2.2.2.2.2.2.2.2.1.1 6 _ hr').2
  obtain ⟨kA, comp, k1, k2, k3, -⟩ := (hx.2.2.2.2.2.2.2.2.1.2 4 _ rfl).2
  have hr6 : r' = (RX6, TX6, 7) := (Option.some.inj hr').symm
  subst hr6
  have hcomp : comp = G.2.2.1.1 6 := Option.some.inj (k3.symm.trans hcls.1)
  subst hcomp
  obtain ⟨kC, hkC, -⟩ := hcls.2
  refine W.aast hx.1 hx.2.1 (cell := vp_cell (G.2.2.2.1 4) (N, .inr (.inr (.inr (.inr (fun j => (f j).map (ev_ad G))))))) hat' (fun q h => by cases h) (fun h => by cases h) k1 k2 rfl hkC ⟨h0, by show _ < (arrV _ _ _).slots.size; rw [arrV_size]; exact hlt⟩ w1 (fun q h => by rw [w3] at h; cases h) (by rw [w2]; exact hkC) (by rw [w2]; exact va_assign hcls) rfl rfl hd fun H1 e1 z oq => ?_
  refine hE p e Rm s m args below meth c Q hx h1 h2 hkk H1 _ cells slots A (g1.put hc.1 ?_ z oq) (ev_locs g2 (ev_ad_ge hc.1 g1.2.1)) g3 g4 g5
  show H1[ev_ad G a]? = some (vp_cell _ _)
  rw [e1, vp_cell_q, vp_cell_q, arrV_store, e']
  congr 2
  funext q
  by_cases hq : q = j
  · subst hq; simp [updV, va_up, va_rf]
  · simp [updV, va_up, hq]
theorem Ev.ldc {v : Int32} (hC : Cond.constant M.1.cls idx v ∈ ev_ws) (hd : decode M.2.1 pc = .ok (.ldc idx, 2)) (hE : Ev G d k n M (pc + 2) ls (.int v :: st) h R) : Ev G d k n M pc ls st h R := by
  intro p e Rm s m args below meth c Q hx h1 h2 hkk H locs cells slots A g1 g2 g3 g4 g5
  exact lv_ldc hx.1 hx.2.1 hx.2.2.2.1 (hx.2.2.2.2.1 _ hC) hd (hE p e Rm s m args below meth c Q hx h1 h2 hkk H locs cells slots A g1 g2 g3 g4 g5)
theorem Ev.ldcw {v : Int32} (hC : Cond.constant M.1.cls idx v ∈ ev_ws) (hd : decode M.2.1 pc = .ok (.ldc_w idx, 3)) (hE : Ev G d k n M (pc + 3) ls (.int v :: st) h R) : Ev G d k n M pc ls st h R := by
  intro p e Rm s m args below meth c Q hx h1 h2 hkk H locs cells slots A g1 g2 g3 g4 g5
  exact lv_ldcw hx.1 hx.2.1 hx.2.2.2.1 (hx.2.2.2.2.1 _ hC) hd (hE p e Rm s m args below meth c Q hx h1 h2 hkk H locs cells slots A g1 g2 g3 g4 g5)
theorem Ev.ldc2 {v : Int64} (hC : Cond.constantLong M.1.cls idx v ∈ ev_ws) (hd : decode M.2.1 pc = .ok (.ldc2_w idx, 3)) (hE : Ev G d k n M (pc + 3) ls (.long v :: st) h R) : Ev G d k n M pc ls st h R := by
  intro p e Rm s m args below meth c Q hx h1 h2 hkk H locs cells slots A g1 g2 g3 g4 g5
  exact lv_ldc2 hx.1 hx.2.1 hx.2.2.2.1 (hx.2.2.2.2.1 _ hC) hd (hE p e Rm s m args below meth c Q hx h1 h2 hkk H locs cells slots A g1 g2 g3 g4 g5)
/-- a text of the tables, the i-th -/
theorem Ev.ldcS {i : Nat} {tx : String} (hS : ev_strs[i]? = some (M.1.cls, idx, tx)) (hd : decode M.2.1 pc = .ok (.ldc idx, 2)) (hE : Ev G d k n M (pc + 2) ls (.ref (ev_big + i) :: st) h R) : Ev G d k n M pc ls st h R := by
  intro p e Rm s m args below meth c Q hx h1 h2 hkk H locs cells slots A g1 g2 g3 g4 g5
  have hR := hx.2.2.2.2.2.2.2.2.2.2.2.2 i _ hS
  have := hE p e Rm s m args below meth c Q hx h1 h2 hkk H locs cells slots A g1 g2 g3 g4 g5
  rw [List.map_cons] at this
  simp only [ev_tr] at this
  rw [show ev_ad G (ev_big + i) = G.2.2.2.2 i by unfold ev_ad; rw [if_neg (by omega), Nat.add_sub_cancel_left]] at this
  exact va_ldcS hx.1 hx.2.1 hx.2.2.2.1 hR hd this
theorem Ev.nnR {a : Nat} {o : Int} {t : Nat} (hd : decode M.2.1 pc = .ok (.ifnonnull o, 3)) (ht : (pc : Int) + o = t) (hE : Ev G d k n M t ls st h R) : Ev G d k n M pc ls (.ref a :: st) h R := by
  intro p e Rm s m args below meth c Q hx h1 h2 hkk H locs cells slots A g1 g2 g3 g4 g5
  exact lv_ifnonnull hx.1 hx.2.1 hd ht (hE p e Rm s m args below meth c Q hx h1 h2 hkk H locs cells slots A g1 g2 g3 g4 g5)
theorem Ev.nnN {o : Int} (hd : decode M.2.1 pc = .ok (.ifnonnull o, 3)) (hE : Ev G d k n M (pc + 3) ls st h R) : Ev G d k n M pc ls (.null :: st) h R := by
  intro p e Rm s m args below meth c Q hx h1 h2 hkk H locs cells slots A g1 g2 g3 g4 g5
  exact lv_ifnonnullN hx.1 hx.2.1 hd (hE p e Rm s m args below meth c Q hx h1 h2 hkk H locs cells slots A g1 g2 g3 g4 g5)
theorem Ev.nR {a : Nat} {o : Int} (hd : decode M.2.1 pc = .ok (.ifnull o, 3)) (hE : Ev G d k n M (pc + 3) ls st h R) : Ev G d k n M pc ls (.ref a :: st) h R := by
  intro p e Rm s m args below meth c Q hx h1 h2 hkk H locs cells slots A g1 g2 g3 g4 g5
  exact lv_ifnull hx.1 hx.2.1 hd (hE p e Rm s m args below meth c Q hx h1 h2 hkk H locs cells slots A g1 g2 g3 g4 g5)
theorem Ev.nN {o : Int} {t : Nat} (hd : decode M.2.1 pc = .ok (.ifnull o, 3)) (ht : (pc : Int) + o = t) (hE : Ev G d k n M t ls st h R) : Ev G d k n M pc ls (.null :: st) h R := by
  intro p e Rm s m args below meth c Q hx h1 h2 hkk H locs cells slots A g1 g2 g3 g4 g5
  exact lv_ifnullN hx.1 hx.2.1 hd ht (hE p e Rm s m args below meth c Q hx h1 h2 hkk H locs cells slots A g1 g2 g3 g4 g5)
theorem Ev.idiv {x y : Int32} (hd : decode M.2.1 pc = .ok (.idiv, 1)) (hy : ¬ y = 0) (hE : Ev G d k n M (pc + 1) ls (.int (x / y) :: st) h R) : Ev G d k n M pc ls (.int y :: .int x :: st) h R := by
  intro p e Rm s m args below meth c Q hx h1 h2 hkk H locs cells slots A g1 g2 g3 g4 g5
  exact lv_idiv hx.1 hx.2.1 hd hy (hE p e Rm s m args below meth c Q hx h1 h2 hkk H locs cells slots A g1 g2 g3 g4 g5)
theorem Ev.irem {x y : Int32} (hd : decode M.2.1 pc = .ok (.irem, 1)) (hy : ¬ y = 0) (hE : Ev G d k n M (pc + 1) ls (.int (x - x / y * y) :: st) h R) : Ev G d k n M pc ls (.int y :: .int x :: st) h R := by
  intro p e Rm s m args below meth c Q hx h1 h2 hkk H locs cells slots A g1 g2 g3 g4 g5
  exact lv_irem hx.1 hx.2.1 hd hy (hE p e Rm s m args below meth c Q hx h1 h2 hkk H locs cells slots A g1 g2 g3 g4 g5)
theorem Ev.ldiv {x y : Int64} (hd : decode M.2.1 pc = .ok (.ldiv, 1)) (hy : ¬ y = 0) (hE : Ev G d k n M (pc + 1) ls (.long (x / y) :: st) h R) : Ev G d k n M pc ls (.long y :: .long x :: st) h R := by
  intro p e Rm s m args below meth c Q hx h1 h2 hkk H locs cells slots A g1 g2 g3 g4 g5
  exact lv_ldiv hx.1 hx.2.1 hd hy (hE p e Rm s m args below meth c Q hx h1 h2 hkk H locs cells slots A g1 g2 g3 g4 g5)
/-- tableswitch: where it goes -/
theorem Ev.tsw {o lo hi : Int} {offs : Array Int} {len : Nat} {x : Int32} {off : Int} {t : Nat} (hd : decode M.2.1 pc = .ok (.tableswitch o lo hi offs, len)) (h1 : lo ≤ x.toInt) (h2 : x.toInt ≤ hi) (ho : offs[(x.toInt - lo).toNat]? = some off) (ht : (pc : Int) + off = t) (hE : Ev G d k n M t ls st h R) : Ev G d k n M pc ls (.int x :: st) h R := by
  intro p e Rm s m args below meth c Q hx h1' h2' hkk H locs cells slots A g1 g2 g3 g4 g5
  exact lv_tableIn hx.1 hx.2.1 hd (by omega) (by omega) ho ht (hE p e Rm s m args below meth c Q hx h1' h2' hkk H locs cells slots A g1 g2 g3 g4 g5)
theorem Ev.tswd {o lo hi : Int} {offs : Array Int} {len : Nat} {x : Int32} {t : Nat} (hd : decode M.2.1 pc = .ok (.tableswitch o lo hi offs, len)) (h1 : x.toInt < lo ∨ hi < x.toInt) (ht : (pc : Int) + o = t) (hE : Ev G d k n M t ls st h R) : Ev G d k n M pc ls (.int x :: st) h R := by
  intro p e Rm s m args below meth c Q hx h1' h2' hkk H locs cells slots A g1 g2 g3 g4 g5
  exact lv_tableOut hx.1 hx.2.1 hd h1 ht (hE p e Rm s m args below meth c Q hx h1' h2' hkk H locs cells slots A g1 g2 g3 g4 g5)
theorem ev_sum {G : ev_G} (rest : List Value) : ((rest.map (ev_tr G)).map fun v => v.category).sum = (rest.map fun v => v.category).sum := by
  rw [List.map_map]; exact congrArg List.sum (List.map_congr_left fun v _ => ev_cat G v)
theorem Ev.mmin {x y : Int32} (hL : Cond.methodLink M.1.cls idx Lib.Math.min.name ∈ ev_ws) (hst : Cond.static Lib.Math.min.name ∈ ev_ws) (hini : Cond.initialized "java/lang/Math" ∈ ev_ws) (hco : Cond.code Lib.Math.min.name Lib.Math.min.code 2 (some .int) ∈ ev_ws) (hr : (rest.map fun v => v.category).sum ≤ 8) (hd : decode M.2.1 pc = .ok (.invokestatic idx, 3))
    (hE : Ev G (d + 1) k n M (pc + 3) ls (.int (if y < x then y else x) :: rest) h R) : Ev G (d + 1) k n M pc ls (.int y :: .int x :: rest) h R := by
  intro p e Rm s m args below meth c Q hx h1 h2 hkk H locs cells slots A g1 g2 g3 g4 g5
  have hts := hx.2.2.2.2.1
  exact va_mmin hx.1 hx.2.1 (hx.2.2.1.trans g5.1.symm) hx.2.2.2.1 (hts _ hL) (hts _ hst) (hts _ hini) (hts _ hco) (by omega) (by rw [ev_sum]; omega) (by omega) (by omega) hd (hE p e Rm s m args below meth c Q hx h1 h2 hkk H locs cells slots A g1 g2 g3 g4 g5)
theorem Ev.mmax {x y : Int32} (hL : Cond.methodLink M.1.cls idx Lib.Math.max.name ∈ ev_ws) (hst : Cond.static Lib.Math.max.name ∈ ev_ws) (hini : Cond.initialized "java/lang/Math" ∈ ev_ws) (hco : Cond.code Lib.Math.max.name Lib.Math.max.code 2 (some .int) ∈ ev_ws) (hr : (rest.map fun v => v.category).sum ≤ 8) (hd : decode M.2.1 pc = .ok (.invokestatic idx, 3))
    (hE : Ev G (d + 1) k n M (pc + 3) ls (.int (if x < y then y else x) :: rest) h R) : Ev G (d + 1) k n M pc ls (.int y :: .int x :: rest) h R := by
  intro p e Rm s m args below meth c Q hx h1 h2 hkk H locs cells slots A g1 g2 g3 g4 g5
  have hts := hx.2.2.2.2.1
  exact va_mmax hx.1 hx.2.1 (hx.2.2.1.trans g5.1.symm) hx.2.2.2.1 (hts _ hL) (hts _ hst) (hts _ hini) (hts _ hco) (by omega) (by rw [ev_sum]; omega) (by omega) (by omega) hd (hE p e Rm s m args below meth c Q hx h1 h2 hkk H locs cells slots A g1 g2 g3 g4 g5)
theorem Ev.mabs {x : Int32} (hL : Cond.methodLink M.1.cls idx Lib.Math.abs.name ∈ ev_ws) (hst : Cond.static Lib.Math.abs.name ∈ ev_ws) (hini : Cond.initialized "java/lang/Math" ∈ ev_ws) (hco : Cond.code Lib.Math.abs.name Lib.Math.abs.code 1 (some .int) ∈ ev_ws) (hr : (rest.map fun v => v.category).sum ≤ 8) (hd : decode M.2.1 pc = .ok (.invokestatic idx, 3))
    (hE : Ev G (d + 1) k n M (pc + 3) ls (.int (if 0 ≤ x then x else 0 - x) :: rest) h R) : Ev G (d + 1) k n M pc ls (.int x :: rest) h R := by
  intro p e Rm s m args below meth c Q hx h1 h2 hkk H locs cells slots A g1 g2 g3 g4 g5
  have hts := hx.2.2.2.2.1
  exact va_mabs hx.1 hx.2.1 (hx.2.2.1.trans g5.1.symm) hx.2.2.2.1 (hts _ hL) (hts _ hst) (hts _ hini) (hts _ hco) (by omega) (by rw [ev_sum]; omega) (by omega) (by omega) hd (hE p e Rm s m args below meth c Q hx h1 h2 hkk H locs cells slots A g1 g2 g3 g4 g5)
theorem Ev.objI {a : Nat} (hL : Cond.methodLink M.1.cls idx objectInit ∈ ev_ws) (hin : Cond.instanceMethod objectInit ∈ ev_ws) (hco : Cond.code objectInit ⟨#[0xb1]⟩ 1 none ∈ ev_ws) (hr : (rest.map fun v => v.category).sum ≤ 8) (hd : decode M.2.1 pc = .ok (.invokespecial idx, 3)) (hE : Ev G (d + 1) k n M (pc + 3) ls rest h R) : Ev G (d + 1) k n M pc ls (.ref a :: rest) h R := by
  intro p e Rm s m args below meth c Q hx h1 h2 hkk H locs cells slots A g1 g2 g3 g4 g5
  have hts := hx.2.2.2.2.1
  exact W.objInit hx.1 hx.2.1 hx.2.2.2.1 (hts _ hL) (hts _ hin) (hts _ hco) rfl (g5.1.trans hx.2.2.1.symm) rfl hd (by omega) (by show 2 * 0 + _ + 12 ≤ _; rw [ev_sum]; omega) (hE p e Rm s m args below meth c Q hx h1 h2 hkk H locs cells slots A g1 g2 g3 g4 g5)
end EVM
end
section
section EVB
variable {G : ev_G} {d k n : Nat} {M : ev_M} {pc idx : Nat} {ls rest st : List Value} {h : ev_H} {R : Option Value → ev_H → Prop}
theorem ev_cmp0 (x y : Int64) : lg_cmp x y = 0 ↔ x = y := by
  unfold lg_cmp
  simp only [gt_iff_lt, Int64.lt_iff_toInt_lt, ← Int64.toInt_inj]
  repeat' split
  all_goals simp_all
  all_goals omega
theorem ev_cmpL (x y : Int64) : lg_cmp x y < 0 ↔ x < y := by
  unfold lg_cmp
  simp only [gt_iff_lt, Int64.lt_iff_toInt_lt, ← Int64.toInt_inj]
  split
  · refine ⟨fun h => absurd h (by decide), fun h => by omega⟩
  · split
    · refine ⟨fun h => absurd h (by decide), fun h => by omega⟩
    · refine ⟨fun _ => by omega, fun _ => by decide⟩
theorem ev_cmpG (x y : Int64) : 0 < lg_cmp x y ↔ y < x := by
  unfold lg_cmp
  simp only [gt_iff_lt, Int64.lt_iff_toInt_lt, ← Int64.toInt_inj]
  split
  · refine ⟨fun _ => by omega, fun _ => by decide⟩
  · split
    · refine ⟨fun h => absurd h (by decide), fun h => by omega⟩
    · refine ⟨fun h => absurd h (by decide), fun h => by omega⟩
/-- two longs compared, and a branch -/
def ev_cnl (c : Jvm.ClassFile.Cond) (x y : Int64) (t f : Nat) : Prop × Nat × Nat := match c with
  | .eq => (x = y, t, f)
  | .ne => (x = y, f, t)
  | .lt => (x < y, t, f)
  | .ge => (x < y, f, t)
  | .gt => (y < x, t, f)
  | .le => (y < x, f, t)
theorem Ev.brl {c : Jvm.ClassFile.Cond} {o : Int} {x y : Int64} {P : Prop} {t f t1 : Nat} (hd : decode M.2.1 pc = .ok (.lcmp, 1)) (hd2 : decode M.2.1 (pc + 1) = .ok (.ifCond c o, 3)) (ht1 : ((pc + 1 : Nat) : Int) + o = (t1 : Int)) (hs : ev_cnl c x y t1 (pc + 4) = (P, t, f)) (ht : P → Ev G d k n M t ls rest h R) (hf : ¬ P → Ev G d k n M f ls rest h R) : Ev G d k n M pc ls (.long y :: .long x :: rest) h R := by
  refine Ev.one (i := .lcmp) (pc' := pc + 1) (ls' := ls) (st' := .int (lg_cmp x y) :: rest) hd rfl ?_
  have e3 : ((pc + 1 : Nat) : Int) + 3 = ((pc + 4 : Nat) : Int) := by omega
  cases c <;> simp only [ev_cnl, Prod.mk.injEq] at hs <;> obtain ⟨rfl, rfl, rfl⟩ := hs
  · exact Ev.br (P := lg_cmp x y = 0) (r := rest) hd2 (by simp only [ev_cnd, ht1, e3]) (fun q => ht ((ev_cmp0 x y).mp q)) (fun q => hf fun z => q ((ev_cmp0 x y).mpr z))
  · exact Ev.br (P := lg_cmp x y = 0) (r := rest) hd2 (by simp only [ev_cnd, ht1, e3]) (fun q => ht ((ev_cmp0 x y).mp q)) (fun q => hf fun z => q ((ev_cmp0 x y).mpr z))
  · exact Ev.br (P := lg_cmp x y < 0) (r := rest) hd2 (by simp only [ev_cnd, ht1, e3]) (fun q => ht ((ev_cmpL x y).mp q)) (fun q => hf fun z => q ((ev_cmpL x y).mpr z))
  · exact Ev.br (P := lg_cmp x y < 0) (r := rest) hd2 (by simp only [ev_cnd, ht1, e3]) (fun q => ht ((ev_cmpL x y).mp q)) (fun q => hf fun z => q ((ev_cmpL x y).mpr z))
  · exact Ev.br (P := 0 < lg_cmp x y) (r := rest) hd2 (by simp only [ev_cnd, ht1, e3]) (fun q => ht ((ev_cmpG x y).mp q)) (fun q => hf fun z => q ((ev_cmpG x y).mpr z))
  · exact Ev.br (P := 0 < lg_cmp x y) (r := rest) hd2 (by simp only [ev_cnd, ht1, e3]) (fun q => ht ((ev_cmpG x y).mp q)) (fun q => hf fun z => q ((ev_cmpG x y).mpr z))
theorem ev_words_cp : nativeFrameWords "java/lang/System" "arraycopy" 5 + 11 ≤ 50 := by decide
/-- System.arraycopy between two int rows -/
theorem Ev.acpyI {a0 a1 n0 n1 : Nat} {f g : Nat → Int32} {sp dp cn : Nat} {spI dpI cnI : Int32} (hL : Cond.methodLink M.1.cls idx arraycopyName ∈ ev_ws) (hnat : Cond.native arraycopyName ∈ ev_ws) (hst : Cond.static arraycopyName ∈ ev_ws) (hini : Cond.initialized "java/lang/System" ∈ ev_ws) (hd : decode M.2.1 pc = .ok (.invokestatic idx, 3)) (h0 : hat h a0 (aI n0 f)) (h1 : hat h a1 (aI n1 g)) (es : spI = nI sp) (ed : dpI = nI dp) (ec : cnI = nI cn) (hs : sp + cn ≤ n0) (hdp : dp + cn ≤ n1) (hn0 : n0 < 2147483648) (hn1 : n1 < 2147483648) (hr : (rest.map fun v => v.category).sum ≤ 8)
    (hE : Ev G (d + 1) k n M (pc + 3) ls rest (hset h a1 (aI n1 (va_cpy f g sp dp cn))) R) : Ev G (d + 1) k n M pc ls (.int cnI :: .int dpI :: .ref a1 :: .int spI :: .ref a0 :: rest) h R := by
  intro p e Rm s m args below meth c Q hx h1' h2' hkk H locs cells slots A g1 g2 g3 g4 g5
  subst es; subst ed; subst ec
  have hts := hx.2.2.2.2.1
  have hK := hx.2.2.2.2.2.2.2.2.1
  have hc0 := g1.at h0.1
  rw [h0.2] at hc0
  have hc0 : H[ev_ad G a0]? = some (vp_cell (G.2.2.2.1 0) (n0, .inl f)) := hc0
  have hc1 := g1.at h1.1
  rw [h1.2] at hc1
  have hc1 : H[ev_ad G a1]? = some (vp_cell (G.2.2.2.1 0) (n1, .inl g)) := hc1
  have c1 : (nI sp).toNatClampNeg = sp := nI_clamp (by omega)
  have c2 : (nI dp).toNatClampNeg = dp := nI_clamp (by omega)
  have c3 : (nI cn).toNatClampNeg = cn := nI_clamp (by omega)
  intro T hT X
  obtain ⟨-, k0, hk0, cm0, hkk0⟩ := (hK.2 0 _ rfl).1 n0 (fun j => .int (f j))
  obtain ⟨-, k1, hk1, cm1, hkk1⟩ := (hK.2 0 _ rfl).1 n1 (fun j => .int (g j))
  obtain ⟨vm', X', step⟩ := X.arraycopy hx.1 hx.2.2.2.1 (hts _ hL) (hts _ hnat) (hts _ hst) (hts _ hini) (src := ev_ad G a0) (dst := ev_ad G a1) (cs := vp_cell (G.2.2.2.1 0) (n0, .inl f)) (cd := vp_cell (G.2.2.2.1 0) (n1, .inl g)) (srcPos := nI sp) (destPos := nI dp) (n := nI cn) (by rw [hT]; exact hc0) (by rw [hT]; exact hc1)
    (fun _ h => by cases h) (fun _ h => by cases h) (fun h => by cases h) (fun h => by cases h) hk0 hk1 hkk0 hkk1 (by simp [refKind]) (nI_pos (by omega)) (nI_pos (by omega)) (nI_pos (by omega))
    (by rw [nI_toInt (by omega), nI_toInt (by omega)]; show ¬ _ > ((arrV _ n0 (fun j => .int (f j))).slots.size : Int); rw [arrV_size]; omega)
    (by rw [nI_toInt (by omega), nI_toInt (by omega)]; show ¬ _ > ((arrV _ n1 (fun j => .int (g j))).slots.size : Int); rw [arrV_size]; omega)
    (fun vm₁ _ i hi => by
      rw [c3] at hi
      have e : (vp_cell (G.2.2.2.1 0) (n0, .inl f)).slots.getD ((nI sp).toNatClampNeg + i) .null = .int (f (sp + i)) := by
        show (arrV _ n0 (fun j => .int (f j))).slots.getD _ _ = _
        rw [Array.getD_eq_getD_getElem?, c1, arrV_read _ _ (by omega)]
        rfl
      refine ⟨?_, ?_⟩
      · rw [e]; rfl
      · rw [e]; exact trivial)
    (g := F0 m pc A (.int (nI cn) :: .int (nI dp) :: .ref (ev_ad G a1) :: .int (nI sp) :: .ref (ev_ad G a0) :: rest.map (ev_tr G))) rfl (g5.1.trans hx.2.2.1.symm) (rest := rest.map (ev_tr G)) rfl (by rw [hx.2.1]; exact hd) (by omega) (by show 2 * 0 + _ + _ ≤ _; rw [ev_sum]; have := ev_words_cp; omega)
  have e1 : copied (vp_cell (G.2.2.2.1 0) (n0, .inl f)) (vp_cell (G.2.2.2.1 0) (n1, .inl g)) (nI sp) (nI dp) (nI cn) = vp_cell (G.2.2.2.1 0) (n1, .inl (va_cpy f g sp dp cn)) := by
    have := va_copied (sp := (nI sp).toNatClampNeg) (dp := (nI dp).toNatClampNeg) (n := (nI cn).toNatClampNeg) (fun z => Value.int z) (G.2.2.2.1 0) (G.2.2.2.1 0) f g (n0 := n0) (n1 := n1) (by rw [c1, c3]; exact hs)
    refine this.trans ?_
    rw [c1, c2, c3]
    rfl
  rw [e1] at X' step
  have hl : ev_ad G a1 < H.size := (Array.getElem?_eq_some_iff.mp hc1).1
  have hheap : ((T.setVm vm').setCell (ev_ad G a1) (vp_cell (G.2.2.2.1 0) (n1, .inl (va_cpy f g sp dp cn)))).heap = H.setIfInBounds (ev_ad G a1) (vp_cell (G.2.2.2.1 0) (n1, .inl (va_cpy f g sp dp cn))) := by rw [← hT]; rfl
  have oq : ∀ q : Nat, q ≠ ev_ad G a1 → (H.setIfInBounds (ev_ad G a1) (vp_cell (G.2.2.2.1 0) (n1, .inl (va_cpy f g sp dp cn))))[q]? = H[q]? := fun q hq => by simp [Array.getElem?_setIfInBounds, Ne.symm hq]
  obtain ⟨t, a2, b2⟩ := hE p e Rm s m args below meth c Q hx h1' h2' hkk _ _ cells slots A (g1.put h1.1 (c := aI n1 (va_cpy f g sp dp cn)) (show (H.setIfInBounds (ev_ad G a1) _)[ev_ad G a1]? = some _ by simp [Array.getElem?_setIfInBounds, hl]) (by simp) oq) (fun q hq => by
      rcases List.mem_append.mp hq with h | h
      · exact g2 q h
      · obtain ⟨z, -, hz⟩ := List.mem_map.mp h
        rw [← hz]
        exact ev_ad_ge h1.1 g1.2.1) g3 g4 g5 _ hheap X'
  exact ⟨t, step t a2, b2⟩
theorem Ev.acpyL {a0 a1 n0 n1 : Nat} {f g : Nat → Int64} {sp dp cn : Nat} {spI dpI cnI : Int32} (hL : Cond.methodLink M.1.cls idx arraycopyName ∈ ev_ws) (hnat : Cond.native arraycopyName ∈ ev_ws) (hst : Cond.static arraycopyName ∈ ev_ws) (hini : Cond.initialized "java/lang/System" ∈ ev_ws) (hd : decode M.2.1 pc = .ok (.invokestatic idx, 3)) (h0 : hat h a0 (aL n0 f)) (h1 : hat h a1 (aL n1 g)) (es : spI = nI sp) (ed : dpI = nI dp) (ec : cnI = nI cn) (hs : sp + cn ≤ n0) (hdp : dp + cn ≤ n1) (hn0 : n0 < 2147483648) (hn1 : n1 < 2147483648) (hr : (rest.map fun v => v.category).sum ≤ 8)
    (hE : Ev G (d + 1) k n M (pc + 3) ls rest (hset h a1 (aL n1 (va_cpy f g sp dp cn))) R) : Ev G (d + 1) k n M pc ls (.int cnI :: .int dpI :: .ref a1 :: .int spI :: .ref a0 :: rest) h R := by
  intro p e Rm s m args below meth c Q hx h1' h2' hkk H locs cells slots A g1 g2 g3 g4 g5
  subst es; subst ed; subst ec
  have hts := hx.2.2.2.2.1
  have hK := hx.2.2.2.2.2.2.2.2.1
  have hc0 := g1.at h0.1
  rw [h0.2] at hc0
  have hc0 : H[ev_ad G a0]? = some (vp_cell (G.2.2.2.1 1) (n0, .inr (.inl f))) := hc0
  have hc1 := g1.at h1.1
  rw [h1.2] at hc1
  have hc1 : H[ev_ad G a1]? = some (vp_cell (G.2.2.2.1 1) (n1, .inr (.inl g))) := hc1
  have c1 : (nI sp).toNatClampNeg = sp := nI_clamp (by omega)
  have c2 : (nI dp).toNatClampNeg = dp := nI_clamp (by omega)
  have c3 : (nI cn).toNatClampNeg = cn := nI_clamp (by omega)
  intro T hT X
  obtain ⟨-, k0, hk0, cm0, hkk0⟩ := (hK.2 1 _ rfl).1 n0 (fun j => .long (f j))
  obtain ⟨-, k1, hk1, cm1, hkk1⟩ := (hK.2 1 _ rfl).1 n1 (fun j => .long (g j))
  obtain ⟨vm', X', step⟩ := X.arraycopy hx.1 hx.2.2.2.1 (hts _ hL) (hts _ hnat) (hts _ hst) (hts _ hini) (src := ev_ad G a0) (dst := ev_ad G a1) (cs := vp_cell (G.2.2.2.1 1) (n0, .inr (.inl f))) (cd := vp_cell (G.2.2.2.1 1) (n1, .inr (.inl g))) (srcPos := nI sp) (destPos := nI dp) (n := nI cn) (by rw [hT]; exact hc0) (by rw [hT]; exact hc1)
    (fun _ h => by cases h) (fun _ h => by cases h) (fun h => by cases h) (fun h => by cases h) hk0 hk1 hkk0 hkk1 (by simp [refKind]) (nI_pos (by omega)) (nI_pos (by omega)) (nI_pos (by omega))
    (by rw [nI_toInt (by omega), nI_toInt (by omega)]; show ¬ _ > ((arrV _ n0 (fun j => .long (f j))).slots.size : Int); rw [arrV_size]; omega)
    (by rw [nI_toInt (by omega), nI_toInt (by omega)]; show ¬ _ > ((arrV _ n1 (fun j => .long (g j))).slots.size : Int); rw [arrV_size]; omega)
    (fun vm₁ _ i hi => by
      rw [c3] at hi
      have e : (vp_cell (G.2.2.2.1 1) (n0, .inr (.inl f))).slots.getD ((nI sp).toNatClampNeg + i) .null = .long (f (sp + i)) := by
        show (arrV _ n0 (fun j => .long (f j))).slots.getD _ _ = _
        rw [Array.getD_eq_getD_getElem?, c1, arrV_read _ _ (by omega)]
        rfl
      refine ⟨?_, ?_⟩
      · rw [e]; rfl
      · rw [e]; exact trivial)
    (g := F0 m pc A (.int (nI cn) :: .int (nI dp) :: .ref (ev_ad G a1) :: .int (nI sp) :: .ref (ev_ad G a0) :: rest.map (ev_tr G))) rfl (g5.1.trans hx.2.2.1.symm) (rest := rest.map (ev_tr G)) rfl (by rw [hx.2.1]; exact hd) (by omega) (by show 2 * 0 + _ + _ ≤ _; rw [ev_sum]; have := ev_words_cp; omega)
  have e1 : copied (vp_cell (G.2.2.2.1 1) (n0, .inr (.inl f))) (vp_cell (G.2.2.2.1 1) (n1, .inr (.inl g))) (nI sp) (nI dp) (nI cn) = vp_cell (G.2.2.2.1 1) (n1, .inr (.inl (va_cpy f g sp dp cn))) := by
    have := va_copied (sp := (nI sp).toNatClampNeg) (dp := (nI dp).toNatClampNeg) (n := (nI cn).toNatClampNeg) (fun z => Value.long z) (G.2.2.2.1 1) (G.2.2.2.1 1) f g (n0 := n0) (n1 := n1) (by rw [c1, c3]; exact hs)
    refine this.trans ?_
    rw [c1, c2, c3]
    rfl
  rw [e1] at X' step
  have hl : ev_ad G a1 < H.size := (Array.getElem?_eq_some_iff.mp hc1).1
  have hheap : ((T.setVm vm').setCell (ev_ad G a1) (vp_cell (G.2.2.2.1 1) (n1, .inr (.inl (va_cpy f g sp dp cn))))).heap = H.setIfInBounds (ev_ad G a1) (vp_cell (G.2.2.2.1 1) (n1, .inr (.inl (va_cpy f g sp dp cn)))) := by rw [← hT]; rfl
  have oq : ∀ q : Nat, q ≠ ev_ad G a1 → (H.setIfInBounds (ev_ad G a1) (vp_cell (G.2.2.2.1 1) (n1, .inr (.inl (va_cpy f g sp dp cn)))))[q]? = H[q]? := fun q hq => by simp [Array.getElem?_setIfInBounds, Ne.symm hq]
  obtain ⟨t, a2, b2⟩ := hE p e Rm s m args below meth c Q hx h1' h2' hkk _ _ cells slots A (g1.put h1.1 (c := aL n1 (va_cpy f g sp dp cn)) (show (H.setIfInBounds (ev_ad G a1) _)[ev_ad G a1]? = some _ by simp [Array.getElem?_setIfInBounds, hl]) (by simp) oq) (fun q hq => by
      rcases List.mem_append.mp hq with h | h
      · exact g2 q h
      · obtain ⟨z, -, hz⟩ := List.mem_map.mp h
        rw [← hz]
        exact ev_ad_ge h1.1 g1.2.1) g3 g4 g5 _ hheap X'
  exact ⟨t, step t a2, b2⟩
/-- new int[N][K]: the outer row, then the inner ones -/
def hgrid (h : ev_H) (N K : Nat) : ev_H := (h.1 + 1 + N, fun j => if j = h.1 then aG N (fun i => if i < N then some (h.1 + 1 + i) else none) else if h.1 < j ∧ j < h.1 + 1 + N then aI K (fun _ => 0) else h.2 j)
theorem ev_outer (c : ClassId) (N h0 : Nat) : ∀ i : Nat, Jvm.Free.Multi.outerC c N h0 i = arrV c N (fun j => va_rf (if j < i then some (h0 + 1 + j) else none))
  | 0 => by
    show ({ cls := c, slots := Array.replicate N .null, vm := .none } : Cell) = _
    rw [arrV_new]
    refine congrArg (arrV c N) (funext fun j => ?_)
    simp [va_rf]
  | i + 1 => by
    show (Jvm.Free.Multi.outerC c N h0 i).setSlot i (.ref (h0 + 1 + i)) = _
    rw [ev_outer c N h0 i, arrV_store]
    refine congrArg (arrV c N) (funext fun j => ?_)
    by_cases e : j = i
    · subst e
      simp [updV, va_rf]
    · by_cases h : j < i
      · simp [updV, e, h, Nat.lt_succ_of_lt h]
      · simp [updV, e, h, show ¬ j < i + 1 by omega]
theorem Ev.mna {N K : Nat} {nN nK : Int32} (hL : Cond.classLink M.1.cls idx "[[I" ∈ ev_ws) (hA : Cond.arrayClass .int ∈ ev_ws) (hd : decode M.2.1 pc = .ok (.multianewarray idx 2, 4)) (hb : h.1 + 1 + N ≤ ev_big) (eN : nN = nI N) (eK : nK = nI K) (hN : N < 10000) (hK : K < 10000)
    (hE : Ev G d k n M (pc + 4) ls (.ref h.1 :: rest) (hgrid h N K) R) : Ev G d (k + (1 + N)) (n + (N + N * K)) M pc ls (.int nK :: .int nN :: rest) h R := by
  intro p e Rm s m args below meth c Q hx h1 h2 hkk H locs cells slots A g1 g2 g3 g4 g5
  subst eN; subst eK
  have c1 : (nI N).toNatClampNeg = N := nI_clamp (by omega)
  have c2 : (nI K).toNatClampNeg = K := nI_clamp (by omega)
  have hts := hx.2.2.2.2.1
  have hKK := hx.2.2.2.2.2.2.2.2
  intro T hT Xs
  obtain ⟨vm₁, cA, comp, -, fA, fC, hO, -, X', step⟩ := Xs.multianewarray2F (ty := .int) hx.1 hx.2.2.2.1 (hts _ hL) (show (Cond.arrayOver (.array .int)).before args s = true from hKK.2.2.1.2) (hts _ hA) (g := F0 m pc A (.int (nI K) :: .int (nI N) :: rest.map (ev_tr G))) rfl (by rw [hx.2.1]; exact hd) rfl (nI_pos (by omega)) (nI_pos (by omega)) (by rw [c1]; omega) (by rw [c2]; show K * 4 ≤ _; omega) (by rw [c2]; omega) rfl rfl (by rw [c1]; omega) (by rw [c1, c2]; omega)
  rw [c1, c2] at X' step
  have eA : cA = G.2.2.2.1 3 := ev_known_arr (t := 3) (ty := .array .int) hKK rfl (fun C q => by cases q) fA
  have eC : comp = G.2.2.2.1 0 := ev_known_arr (t := 0) (ty := .int) hKK rfl (fun C q => by cases q) fC
  subst eA; subst eC
  generalize hF : Jvm.Free.Multi.fill (T.setVm vm₁) (G.2.2.2.1 3) (G.2.2.2.1 0) N K (defaultValue .int) N = F at X' step
  have hTh : (T.setVm vm₁).heap = H := hT
  obtain ⟨f1, f2, -, -⟩ := Jvm.Free.Multi.fill_facts (T.setVm vm₁) (G.2.2.2.1 3) (G.2.2.2.1 0) N K (defaultValue .int) N
  rw [hF, hTh] at f1 f2
  have hold : ∀ x : Nat, x < H.size → F.heap[x]? = H[x]? := fun x hx => by
    have := Jvm.Free.Multi.fill_old (T.setVm vm₁) (G.2.2.2.1 3) (G.2.2.2.1 0) N K (defaultValue .int) (a := x) (by rw [hTh]; exact hx) N
    rw [hF, hTh] at this
    exact this
  have hrow : ∀ j : Nat, j < N → F.heap[H.size + 1 + j]? = some (Jvm.Free.Multi.innerC (G.2.2.2.1 0) K (defaultValue .int)) := fun j hj => by
    have := Jvm.Free.Multi.fill_inner (T.setVm vm₁) (G.2.2.2.1 3) (G.2.2.2.1 0) N K (defaultValue .int) N j hj
    rw [hF, hTh] at this
    exact this
  rw [ev_outer] at f2
  have hsz := g1.1
  have hrel : ev_Rel G (hgrid h N K) F.heap := by
    refine ⟨by rw [f1, hsz]; show _ = _ + (h.1 + 1 + N); omega, hb, fun q hq => (hold q (by omega)).trans (g1.2.2.1 q hq), fun j hj => ?_⟩
    have hj : j < h.1 + 1 + N := hj
    by_cases e1 : j = h.1
    · subst e1
      have e9 : (hgrid h N K).2 h.1 = aG N (fun i => if i < N then some (h.1 + 1 + i) else none) := by simp [hgrid]
      rw [e9]
      show F.heap[G.2.1.size + h.1]? = some (vp_cell _ _)
      rw [← hsz, f2, vp_cell_q]
      refine congrArg some (congrArg (arrV _ N) (funext fun i => ?_))
      by_cases hi : i < N
      · simp only [if_pos hi, Option.map_some, va_rf]
        rw [show ev_ad G (h.1 + 1 + i) = G.2.1.size + (h.1 + 1 + i) from if_pos (by omega), hsz]
        exact congrArg Value.ref (by simp only [Nat.add_assoc])
      · simp only [if_neg hi, Option.map_none, va_rf]
    · by_cases e2 : h.1 < j
      · have e9 : (hgrid h N K).2 j = aI K (fun _ => 0) := by simp [hgrid, e1, e2, hj]
        rw [e9]
        show F.heap[G.2.1.size + j]? = some (vp_cell _ _)
        have := hrow (j - h.1 - 1) (by omega)
        rw [show H.size + 1 + (j - h.1 - 1) = G.2.1.size + j by omega] at this
        rw [this, vp_cell_i]
        exact congrArg some (arrV_new _ _ _)
      · have e9 : (hgrid h N K).2 j = h.2 j := by simp [hgrid, e1, e2]
        rw [e9]
        exact (g1.2.2.2 j (by omega)).kept (hold _ (by show G.2.1.size + j < _; omega))
  have := hE p e Rm s m args below meth c Q hx h1 h2 hkk F.heap locs (cells + 1 + N) (slots + N + N * K) A hrel g2 (by omega) (by omega) g5 F rfl X'
  rw [List.map_cons] at this
  simp only [ev_tr] at this
  rw [show ev_ad G h.1 = G.2.1.size + h.1 from if_pos (by omega), ← hsz] at this
  obtain ⟨t, a1, b1⟩ := this
  refine ⟨t, step t ?_, b1⟩
  have e8 : T.heap.size = H.size := by rw [hT]
  rw [e8]
  exact a1
end EVB
end
section
/-! calls of methods whose answer is known, and of others: the callee's contract first -/
section EVX
variable {G : ev_G} {d k n k1 n1 : Nat} {M M' : ev_M} {pc idx na : Nat} {ls rest as st : List Value} {h : ev_H} {R : Option Value → ev_H → Prop}
theorem Ev.cV {a ci : Nat} (hL : Cond.methodLink M.1.cls idx M'.1 ∈ ev_ws) (hok : ev_ok M' na) (hin : Cond.instanceMethod M'.1 ∈ ev_ws) (hse : Cond.selects M'.1.cls M'.1 M'.1 ∈ ev_ws) (hd : decode M.2.1 pc = .ok (.invokevirtual idx, 3)) (hc : ∃ fs, hat h a (oC ci fs)) (hcl : (vwCl[ci]?).map (fun r => r.1) = some M'.1.cls)
    (hst : st = as.reverse ++ .ref a :: rest) (hn : as.length = na) (hr : (rest.map fun v => v.category).sum ≤ 8) (hf : (ev_flat (.ref a :: as)).length ≤ M'.2.2.1) (hE : Ev G d k1 n1 M' 0 (ev_ent M'.2.2.1 (.ref a :: as)) [] h (fun r h' => Ev G (d + 1) k n M (pc + 3) ls (r.toList ++ rest) h' R)) : Ev G (d + 1) (k1 + k) (n1 + n) M pc ls st h R := by
  obtain ⟨fs, hc⟩ := hc
  exact Ev.callV hL hok hin hse hd hc hcl hst hn hr hf hE (fun r h' q => q)
theorem Ev.cS (hL : Cond.methodLink M.1.cls idx M'.1 ∈ ev_ws) (hok : ev_ok M' na) (hstat : Cond.static M'.1 ∈ ev_ws) (hd : decode M.2.1 pc = .ok (.invokestatic idx, 3))
    (hst : st = as.reverse ++ rest) (hn : as.length = na) (hr : (rest.map fun v => v.category).sum ≤ 8) (hf : (ev_flat as).length ≤ M'.2.2.1) (hE : Ev G d k1 n1 M' 0 (ev_ent M'.2.2.1 as) [] h (fun r h' => Ev G (d + 1) k n M (pc + 3) ls (r.toList ++ rest) h' R)) : Ev G (d + 1) (k1 + k) (n1 + n) M pc ls st h R :=
  Ev.callS hL hok hstat hd hst hn hr hf hE (fun r h' q => q)
theorem Ev.cSN {host : String} (hL : Cond.methodLinkNest M.1.cls idx M'.1 host ∈ ev_nest) (hok : ev_ok M' na) (hstat : Cond.static M'.1 ∈ ev_ws) (hd : decode M.2.1 pc = .ok (.invokestatic idx, 3))
    (hst : st = as.reverse ++ rest) (hn : as.length = na) (hr : (rest.map fun v => v.category).sum ≤ 8) (hf : (ev_flat as).length ≤ M'.2.2.1) (hE : Ev G d k1 n1 M' 0 (ev_ent M'.2.2.1 as) [] h (fun r h' => Ev G (d + 1) k n M (pc + 3) ls (r.toList ++ rest) h' R)) : Ev G (d + 1) (k1 + k) (n1 + n) M pc ls st h R :=
  Ev.callSN hL hok hstat hd hst hn hr hf hE (fun r h' q => q)
theorem Ev.cI {a : Nat} (hL : Cond.methodLink M.1.cls idx M'.1 ∈ ev_ws) (hok : ev_ok M' na) (hin : Cond.instanceMethod M'.1 ∈ ev_ws) (hi : M'.1.name = "<init>") (hret : M'.2.2.2 = none) (hd : decode M.2.1 pc = .ok (.invokespecial idx, 3))
    (hst : st = as.reverse ++ .ref a :: rest) (hn : as.length = na) (hr : (rest.map fun v => v.category).sum ≤ 8) (hf : (ev_flat (.ref a :: as)).length ≤ M'.2.2.1) (hE : Ev G d k1 n1 M' 0 (ev_ent M'.2.2.1 (.ref a :: as)) [] h (fun r h' => Ev G (d + 1) k n M (pc + 3) ls (r.toList ++ rest) h' R)) : Ev G (d + 1) (k1 + k) (n1 + n) M pc ls st h R :=
  Ev.callI hL hok hin hi hret hd hst hn hr hf hE (fun r h' q => q)
theorem Ev.cIN {host : String} {a : Nat} (hL : Cond.methodLinkNest M.1.cls idx M'.1 host ∈ ev_nest) (hok : ev_ok M' na) (hin : Cond.instanceMethod M'.1 ∈ ev_ws) (hi : M'.1.name = "<init>") (hret : M'.2.2.2 = none) (hd : decode M.2.1 pc = .ok (.invokespecial idx, 3))
    (hst : st = as.reverse ++ .ref a :: rest) (hn : as.length = na) (hr : (rest.map fun v => v.category).sum ≤ 8) (hf : (ev_flat (.ref a :: as)).length ≤ M'.2.2.1) (hE : Ev G d k1 n1 M' 0 (ev_ent M'.2.2.1 (.ref a :: as)) [] h (fun r h' => Ev G (d + 1) k n M (pc + 3) ls (r.toList ++ rest) h' R)) : Ev G (d + 1) (k1 + k) (n1 + n) M pc ls st h R :=
  Ev.callIN hL hok hin hi hret hd hst hn hr hf hE (fun r h' q => q)
/-- new, with the number of cells known -/
theorem Ev.new' {ci a : Nat} {r : vw_C} {tyf : Nat → FieldType} {fs : List Value} (hcl : ev_cls ci r tyf) (hL : Cond.classLink M.1.cls idx r.1 ∈ ev_ws) (hi : Cond.instantiable r.1 r.2.2 ∈ ev_ws) (hini : Cond.initialized r.1 ∈ ev_ws) (hd : decode M.2.1 pc = .ok (.new idx, 3)) (ha : h.1 = a) (hb : a < ev_big) (hfs : ∀ j, j < r.2.2 → defaultValue (tyf j) = vp_V fs j) (hfr : ∀ v ∈ fs, ∀ a, v ≠ .ref a)
    (hE : Ev G d k n M (pc + 3) ls (.ref a :: rest) (hpush h (oC ci fs)) R) : Ev G d (k + 1) (n + r.2.2) M pc ls rest h R := by
  subst ha; exact Ev.new hcl hL hi hini hd hb hfs hfr hE
theorem Ev.newI' {N a : Nat} (hd : decode M.2.1 pc = .ok (.newarray .int, 2)) (hA : Cond.arrayClass .int ∈ ev_ws) (ha : h.1 = a) (hb : a < ev_big) {i : Int32} (hi : i = nI N) (hN : N < 100000) (hE : Ev G d k n M (pc + 2) ls (.ref a :: rest) (hpush h (aI N (fun _ => 0))) R) : Ev G d (k + 1) (n + N) M pc ls (.int i :: rest) h R := by
  subst ha; exact Ev.newI hA hd hb hi hN hE
theorem Ev.newL' {N a : Nat} (hd : decode M.2.1 pc = .ok (.newarray .long, 2)) (hA : Cond.arrayClass .long ∈ ev_ws) (ha : h.1 = a) (hb : a < ev_big) {i : Int32} (hi : i = nI N) (hN : N < 100000) (hE : Ev G d k n M (pc + 2) ls (.ref a :: rest) (hpush h (aL N (fun _ => 0))) R) : Ev G d (k + 1) (n + N) M pc ls (.int i :: rest) h R := by
  subst ha; exact Ev.newL hA hd hb hi hN hE
theorem Ev.newB' {N a : Nat} (hd : decode M.2.1 pc = .ok (.newarray .byte, 2)) (hA : Cond.arrayClass .byte ∈ ev_ws) (ha : h.1 = a) (hb : a < ev_big) {i : Int32} (hi : i = nI N) (hN : N < 100000) (hE : Ev G d k n M (pc + 2) ls (.ref a :: rest) (hpush h (aB N (fun _ => 0))) R) : Ev G d (k + 1) (n + N) M pc ls (.int i :: rest) h R := by
  subst ha; exact Ev.newB hA hd hb hi hN hE
theorem Ev.newS' {N a : Nat} (hd : decode M.2.1 pc = .ok (.anewarray idx, 3)) (hL : Cond.classLink M.1.cls idx "AlikeStore$Store" ∈ ev_ws) (ha : h.1 = a) (hb : a < ev_big) {i : Int32} (hi : i = nI N) (hN : N < 100000) (hE : Ev G d k n M (pc + 3) ls (.ref a :: rest) (hpush h (aS N (fun _ => none))) R) : Ev G d (k + 1) (n + N) M pc ls (.int i :: rest) h R := by
  subst ha; exact Ev.newS hL hd hb hi hN hE
theorem Ev.mna' {N K a : Nat} {nN nK : Int32} (hd : decode M.2.1 pc = .ok (.multianewarray idx 2, 4)) (hL : Cond.classLink M.1.cls idx "[[I" ∈ ev_ws) (hA : Cond.arrayClass .int ∈ ev_ws) (ha : h.1 = a) (hb : a + 1 + N ≤ ev_big) (eN : nN = nI N) (eK : nK = nI K) (hN : N < 10000) (hK : K < 10000)
    (hE : Ev G d k n M (pc + 4) ls (.ref a :: rest) (hgrid h N K) R) : Ev G d (k + (1 + N)) (n + (N + N * K)) M pc ls (.int nK :: .int nN :: rest) h R := by
  subst ha; exact Ev.mna hL hA hd hb eN eK hN hK hE
end EVX
/-- what a boolean method answers -/
def b2i (b : Bool) : Int32 := if b then 1 else 0
theorem b2i_nb (b : Bool) : narrow .boolean (.int (b2i b)) = .int (b2i b) := by cases b <;> rfl
theorem b2i_0 (b : Bool) : b2i b = 0 ↔ b = false := by cases b <;> decide
theorem b2i_1 (b : Bool) : b2i b = 1 ↔ b = true := by cases b <;> decide
theorem b2i_t : b2i true = 1 := rfl
theorem b2i_f : b2i false = 0 := rfl
theorem ne_i {x : Int32} {v : Int} (w : Int32) (hw : w.toInt = v) (h : ¬ x = w) : x.toInt ≠ v := fun q => h (Int32.toInt_inj.mp (q.trans hw.symm))
theorem no_ref {l : List Value} (h : l.all (fun v => match v with | .ref _ => false | _ => true) = true) : ∀ v ∈ l, ∀ a, v ≠ .ref a := by
  intro v hv a e
  have := List.all_eq_true.mp h v hv
  subst e
  cases this
section EVX0
variable {G : ev_G} {d k n : Nat} {M M' : ev_M} {pc idx na : Nat} {ls rest as st : List Value} {h : ev_H} {R : Option Value → ev_H → Prop}
theorem ev_00 {pc : Nat} {ls st : List Value} (h1 : Ev G d (0 + k) (0 + n) M pc ls st h R) : Ev G d k n M pc ls st h R := by simpa only [Nat.zero_add] using h1
theorem Ev.cV0 {a ci : Nat} (hL : Cond.methodLink M.1.cls idx M'.1 ∈ ev_ws) (hok : ev_ok M' na) (hin : Cond.instanceMethod M'.1 ∈ ev_ws) (hse : Cond.selects M'.1.cls M'.1 M'.1 ∈ ev_ws) (hd : decode M.2.1 pc = .ok (.invokevirtual idx, 3)) (hc : ∃ fs, hat h a (oC ci fs)) (hcl : (vwCl[ci]?).map (fun r => r.1) = some M'.1.cls)
    (hst : st = as.reverse ++ .ref a :: rest) (hn : as.length = na) (hr : (rest.map fun v => v.category).sum ≤ 8) (hf : (ev_flat (.ref a :: as)).length ≤ M'.2.2.1) (hE : Ev G d 0 0 M' 0 (ev_ent M'.2.2.1 (.ref a :: as)) [] h (fun r h' => Ev G (d + 1) k n M (pc + 3) ls (r.toList ++ rest) h' R)) : Ev G (d + 1) k n M pc ls st h R :=
  ev_00 (Ev.cV hL hok hin hse hd hc hcl hst hn hr hf hE)
theorem Ev.cS0 (hL : Cond.methodLink M.1.cls idx M'.1 ∈ ev_ws) (hok : ev_ok M' na) (hstat : Cond.static M'.1 ∈ ev_ws) (hd : decode M.2.1 pc = .ok (.invokestatic idx, 3))
    (hst : st = as.reverse ++ rest) (hn : as.length = na) (hr : (rest.map fun v => v.category).sum ≤ 8) (hf : (ev_flat as).length ≤ M'.2.2.1) (hE : Ev G d 0 0 M' 0 (ev_ent M'.2.2.1 as) [] h (fun r h' => Ev G (d + 1) k n M (pc + 3) ls (r.toList ++ rest) h' R)) : Ev G (d + 1) k n M pc ls st h R :=
  ev_00 (Ev.cS hL hok hstat hd hst hn hr hf hE)
theorem Ev.cSN0 {host : String} (hL : Cond.methodLinkNest M.1.cls idx M'.1 host ∈ ev_nest) (hok : ev_ok M' na) (hstat : Cond.static M'.1 ∈ ev_ws) (hd : decode M.2.1 pc = .ok (.invokestatic idx, 3))
    (hst : st = as.reverse ++ rest) (hn : as.length = na) (hr : (rest.map fun v => v.category).sum ≤ 8) (hf : (ev_flat as).length ≤ M'.2.2.1) (hE : Ev G d 0 0 M' 0 (ev_ent M'.2.2.1 as) [] h (fun r h' => Ev G (d + 1) k n M (pc + 3) ls (r.toList ++ rest) h' R)) : Ev G (d + 1) k n M pc ls st h R :=
  ev_00 (Ev.cSN hL hok hstat hd hst hn hr hf hE)
end EVX0
end
section
set_option maxRecDepth 100000 in
theorem c_Bu : ev_cls 0 (RX0, TX0, 5) tyX0 := ⟨rfl, ev_cl0, nmX0, tyX0_ok⟩
set_option maxRecDepth 100000 in
theorem c_Fi : ev_cls 1 (RX1, TX1, 5) tyX1 := ⟨rfl, ev_cl1, nmX1, tyX1_ok⟩
set_option maxRecDepth 100000 in
theorem c_Hi : ev_cls 2 (RX2, TX2, 5) tyX2 := ⟨rfl, ev_cl2, nmX2, tyX2_ok⟩
set_option maxRecDepth 100000 in
theorem c_Ra : ev_cls 3 (RX3, TX3, 4) tyX3 := ⟨rfl, ev_cl3, nmX3, tyX3_ok⟩
set_option maxRecDepth 100000 in
theorem c_Re : ev_cls 4 (RX4, TX4, 8) tyX4 := ⟨rfl, ev_cl4, nmX4, tyX4_ok⟩
set_option maxRecDepth 100000 in
theorem c_Sp : ev_cls 5 (RX5, TX5, 6) tyX5 := ⟨rfl, ev_cl5, nmX5, tyX5_ok⟩
set_option maxRecDepth 100000 in
theorem c_St : ev_cls 6 (RX6, TX6, 7) tyX6 := ⟨rfl, ev_cl6, nmX6, tyX6_ok⟩
set_option maxRecDepth 100000 in
theorem c_Ta : ev_cls 7 (RX7, TX7, 2) tyX7 := ⟨rfl, ev_cl7, nmX7, tyX7_ok⟩
set_option maxRecDepth 100000 in
theorem c_X : ev_cls 8 (RX8, TX8, 8) tyX8 := ⟨rfl, ev_cl8, nmX8, tyX8_ok⟩
set_option maxRecDepth 100000 in
theorem c_Mo : ev_cls 9 (RX9, TX9, 24) tyX9 := ⟨rfl, ev_cl9, nmX9, tyX9_ok⟩
abbrev M_X_init : ev_M := (⟨"AlikeStore", "<init>", "()V"⟩, prog_1_method_1_code, 1, none)
set_option maxRecDepth 100000 in
theorem M_X_init_ok : ev_ok M_X_init 0 := ⟨ev_m 25 (by decide +kernel) rfl, ev_m 1 (by decide +kernel) rfl, by decide +kernel, ⟨by decide +kernel, by decide +kernel⟩, by decide +kernel, by decide +kernel⟩
set_option maxRecDepth 100000 in
theorem M_X_init_in : Cond.instanceMethod M_X_init.1 ∈ ev_ws := ev_m 24 (by decide +kernel) rfl
abbrev M_X_status : ev_M := (⟨"AlikeStore", "status", "()I"⟩, prog_1_method_2_code, 1, some .int)
set_option maxRecDepth 100000 in
theorem M_X_status_ok : ev_ok M_X_status 0 := ⟨ev_m 265 (by decide +kernel) rfl, ev_m 1 (by decide +kernel) rfl, by decide +kernel, ⟨by decide +kernel, by decide +kernel⟩, by decide +kernel, by decide +kernel⟩
set_option maxRecDepth 100000 in
theorem M_X_status_in : Cond.instanceMethod M_X_status.1 ∈ ev_ws := ev_m 263 (by decide +kernel) rfl
set_option maxRecDepth 100000 in
theorem M_X_status_se : Cond.selects M_X_status.1.cls M_X_status.1 M_X_status.1 ∈ ev_ws := ev_m 264 (by decide +kernel) rfl
abbrev M_X_feed : ev_M := (⟨"AlikeStore", "feed", "(IIIII)I"⟩, prog_1_method_3_code, 7, some .int)
set_option maxRecDepth 100000 in
theorem M_X_feed_ok : ev_ok M_X_feed 5 := ⟨ev_m 269 (by decide +kernel) rfl, ev_m 1 (by decide +kernel) rfl, by decide +kernel, ⟨by decide +kernel, by decide +kernel⟩, by decide +kernel, by decide +kernel⟩
set_option maxRecDepth 100000 in
theorem M_X_feed_in : Cond.instanceMethod M_X_feed.1 ∈ ev_ws := ev_m 267 (by decide +kernel) rfl
set_option maxRecDepth 100000 in
theorem M_X_feed_se : Cond.selects M_X_feed.1.cls M_X_feed.1 M_X_feed.1 ∈ ev_ws := ev_m 268 (by decide +kernel) rfl
abbrev M_X_load : ev_M := (⟨"AlikeStore", "load", "(I)I"⟩, prog_1_method_4_code, 2, some .int)
set_option maxRecDepth 100000 in
theorem M_X_load_ok : ev_ok M_X_load 1 := ⟨ev_m 277 (by decide +kernel) rfl, ev_m 1 (by decide +kernel) rfl, by decide +kernel, ⟨by decide +kernel, by decide +kernel⟩, by decide +kernel, by decide +kernel⟩
set_option maxRecDepth 100000 in
theorem M_X_load_in : Cond.instanceMethod M_X_load.1 ∈ ev_ws := ev_m 275 (by decide +kernel) rfl
set_option maxRecDepth 100000 in
theorem M_X_load_se : Cond.selects M_X_load.1.cls M_X_load.1 M_X_load.1 ∈ ev_ws := ev_m 276 (by decide +kernel) rfl
abbrev M_X_fault : ev_M := (⟨"AlikeStore", "fault", "(I)I"⟩, prog_1_method_5_code, 2, some .int)
set_option maxRecDepth 100000 in
theorem M_X_fault_ok : ev_ok M_X_fault 1 := ⟨ev_m 554 (by decide +kernel) rfl, ev_m 1 (by decide +kernel) rfl, by decide +kernel, ⟨by decide +kernel, by decide +kernel⟩, by decide +kernel, by decide +kernel⟩
set_option maxRecDepth 100000 in
theorem M_X_fault_in : Cond.instanceMethod M_X_fault.1 ∈ ev_ws := ev_m 552 (by decide +kernel) rfl
set_option maxRecDepth 100000 in
theorem M_X_fault_se : Cond.selects M_X_fault.1.cls M_X_fault.1 M_X_fault.1 ∈ ev_ws := ev_m 553 (by decide +kernel) rfl
abbrev M_X_many : ev_M := (⟨"AlikeStore", "many", "(I)I"⟩, prog_1_method_6_code, 2, some .int)
set_option maxRecDepth 100000 in
theorem M_X_many_ok : ev_ok M_X_many 1 := ⟨ev_m 558 (by decide +kernel) rfl, ev_m 1 (by decide +kernel) rfl, by decide +kernel, ⟨by decide +kernel, by decide +kernel⟩, by decide +kernel, by decide +kernel⟩
set_option maxRecDepth 100000 in
theorem M_X_many_in : Cond.instanceMethod M_X_many.1 ∈ ev_ws := ev_m 556 (by decide +kernel) rfl
set_option maxRecDepth 100000 in
theorem M_X_many_se : Cond.selects M_X_many.1.cls M_X_many.1 M_X_many.1 ∈ ev_ws := ev_m 557 (by decide +kernel) rfl
abbrev M_X_code : ev_M := (⟨"AlikeStore", "code", "(I)J"⟩, prog_1_method_7_code, 2, some .long)
set_option maxRecDepth 100000 in
theorem M_X_code_ok : ev_ok M_X_code 1 := ⟨ev_m 605 (by decide +kernel) rfl, ev_m 1 (by decide +kernel) rfl, by decide +kernel, ⟨by decide +kernel, by decide +kernel⟩, by decide +kernel, by decide +kernel⟩
set_option maxRecDepth 100000 in
theorem M_X_code_in : Cond.instanceMethod M_X_code.1 ∈ ev_ws := ev_m 603 (by decide +kernel) rfl
set_option maxRecDepth 100000 in
theorem M_X_code_se : Cond.selects M_X_code.1.cls M_X_code.1 M_X_code.1 ∈ ev_ws := ev_m 604 (by decide +kernel) rfl
abbrev M_X_tagOf : ev_M := (⟨"AlikeStore", "tagOf", "(I)I"⟩, prog_1_method_8_code, 2, some .int)
set_option maxRecDepth 100000 in
theorem M_X_tagOf_ok : ev_ok M_X_tagOf 1 := ⟨ev_m 617 (by decide +kernel) rfl, ev_m 1 (by decide +kernel) rfl, by decide +kernel, ⟨by decide +kernel, by decide +kernel⟩, by decide +kernel, by decide +kernel⟩
set_option maxRecDepth 100000 in
theorem M_X_tagOf_in : Cond.instanceMethod M_X_tagOf.1 ∈ ev_ws := ev_m 615 (by decide +kernel) rfl
set_option maxRecDepth 100000 in
theorem M_X_tagOf_se : Cond.selects M_X_tagOf.1.cls M_X_tagOf.1 M_X_tagOf.1 ∈ ev_ws := ev_m 616 (by decide +kernel) rfl
abbrev M_X_breadth : ev_M := (⟨"AlikeStore", "breadth", "(I)I"⟩, prog_1_method_9_code, 2, some .int)
set_option maxRecDepth 100000 in
theorem M_X_breadth_ok : ev_ok M_X_breadth 1 := ⟨ev_m 621 (by decide +kernel) rfl, ev_m 1 (by decide +kernel) rfl, by decide +kernel, ⟨by decide +kernel, by decide +kernel⟩, by decide +kernel, by decide +kernel⟩
set_option maxRecDepth 100000 in
theorem M_X_breadth_in : Cond.instanceMethod M_X_breadth.1 ∈ ev_ws := ev_m 619 (by decide +kernel) rfl
set_option maxRecDepth 100000 in
theorem M_X_breadth_se : Cond.selects M_X_breadth.1.cls M_X_breadth.1 M_X_breadth.1 ∈ ev_ws := ev_m 620 (by decide +kernel) rfl
abbrev M_X_key : ev_M := (⟨"AlikeStore", "key", "(II)I"⟩, prog_1_method_10_code, 3, some .int)
set_option maxRecDepth 100000 in
theorem M_X_key_ok : ev_ok M_X_key 2 := ⟨ev_m 629 (by decide +kernel) rfl, ev_m 1 (by decide +kernel) rfl, by decide +kernel, ⟨by decide +kernel, by decide +kernel⟩, by decide +kernel, by decide +kernel⟩
set_option maxRecDepth 100000 in
theorem M_X_key_in : Cond.instanceMethod M_X_key.1 ∈ ev_ws := ev_m 627 (by decide +kernel) rfl
set_option maxRecDepth 100000 in
theorem M_X_key_se : Cond.selects M_X_key.1.cls M_X_key.1 M_X_key.1 ∈ ev_ws := ev_m 628 (by decide +kernel) rfl
abbrev M_X_far : ev_M := (⟨"AlikeStore", "far", "(IJ)I"⟩, prog_1_method_11_code, 4, some .int)
set_option maxRecDepth 100000 in
theorem M_X_far_ok : ev_ok M_X_far 2 := ⟨ev_m 634 (by decide +kernel) rfl, ev_m 1 (by decide +kernel) rfl, by decide +kernel, ⟨by decide +kernel, by decide +kernel⟩, by decide +kernel, by decide +kernel⟩
set_option maxRecDepth 100000 in
theorem M_X_far_in : Cond.instanceMethod M_X_far.1 ∈ ev_ws := ev_m 632 (by decide +kernel) rfl
set_option maxRecDepth 100000 in
theorem M_X_far_se : Cond.selects M_X_far.1.cls M_X_far.1 M_X_far.1 ∈ ev_ws := ev_m 633 (by decide +kernel) rfl
abbrev M_X_measure : ev_M := (⟨"AlikeStore", "measure", "(III)I"⟩, prog_1_method_12_code, 4, some .int)
set_option maxRecDepth 100000 in
theorem M_X_measure_ok : ev_ok M_X_measure 3 := ⟨ev_m 643 (by decide +kernel) rfl, ev_m 1 (by decide +kernel) rfl, by decide +kernel, ⟨by decide +kernel, by decide +kernel⟩, by decide +kernel, by decide +kernel⟩
set_option maxRecDepth 100000 in
theorem M_X_measure_in : Cond.instanceMethod M_X_measure.1 ∈ ev_ws := ev_m 641 (by decide +kernel) rfl
set_option maxRecDepth 100000 in
theorem M_X_measure_se : Cond.selects M_X_measure.1.cls M_X_measure.1 M_X_measure.1 ∈ ev_ws := ev_m 642 (by decide +kernel) rfl
abbrev M_X_find : ev_M := (⟨"AlikeStore", "find", "(J)I"⟩, prog_1_method_13_code, 4, some .int)
set_option maxRecDepth 100000 in
theorem M_X_find_ok : ev_ok M_X_find 1 := ⟨ev_m 663 (by decide +kernel) rfl, ev_m 1 (by decide +kernel) rfl, by decide +kernel, ⟨by decide +kernel, by decide +kernel⟩, by decide +kernel, by decide +kernel⟩
set_option maxRecDepth 100000 in
theorem M_X_find_in : Cond.instanceMethod M_X_find.1 ∈ ev_ws := ev_m 661 (by decide +kernel) rfl
set_option maxRecDepth 100000 in
theorem M_X_find_se : Cond.selects M_X_find.1.cls M_X_find.1 M_X_find.1 ∈ ev_ws := ev_m 662 (by decide +kernel) rfl
abbrev M_X_add : ev_M := (⟨"AlikeStore", "add", "(J)I"⟩, prog_1_method_14_code, 3, some .int)
set_option maxRecDepth 100000 in
theorem M_X_add_ok : ev_ok M_X_add 1 := ⟨ev_m 668 (by decide +kernel) rfl, ev_m 1 (by decide +kernel) rfl, by decide +kernel, ⟨by decide +kernel, by decide +kernel⟩, by decide +kernel, by decide +kernel⟩
set_option maxRecDepth 100000 in
theorem M_X_add_in : Cond.instanceMethod M_X_add.1 ∈ ev_ws := ev_m 666 (by decide +kernel) rfl
set_option maxRecDepth 100000 in
theorem M_X_add_se : Cond.selects M_X_add.1.cls M_X_add.1 M_X_add.1 ∈ ev_ws := ev_m 667 (by decide +kernel) rfl
abbrev M_X_strike : ev_M := (⟨"AlikeStore", "strike", "(I)I"⟩, prog_1_method_15_code, 2, some .int)
set_option maxRecDepth 100000 in
theorem M_X_strike_ok : ev_ok M_X_strike 1 := ⟨ev_m 673 (by decide +kernel) rfl, ev_m 1 (by decide +kernel) rfl, by decide +kernel, ⟨by decide +kernel, by decide +kernel⟩, by decide +kernel, by decide +kernel⟩
set_option maxRecDepth 100000 in
theorem M_X_strike_in : Cond.instanceMethod M_X_strike.1 ∈ ev_ws := ev_m 671 (by decide +kernel) rfl
set_option maxRecDepth 100000 in
theorem M_X_strike_se : Cond.selects M_X_strike.1.cls M_X_strike.1 M_X_strike.1 ∈ ev_ws := ev_m 672 (by decide +kernel) rfl
abbrev M_X_flip : ev_M := (⟨"AlikeStore", "flip", "(II)I"⟩, prog_1_method_16_code, 5, some .int)
set_option maxRecDepth 100000 in
theorem M_X_flip_ok : ev_ok M_X_flip 2 := ⟨ev_m 681 (by decide +kernel) rfl, ev_m 1 (by decide +kernel) rfl, by decide +kernel, ⟨by decide +kernel, by decide +kernel⟩, by decide +kernel, by decide +kernel⟩
set_option maxRecDepth 100000 in
theorem M_X_flip_in : Cond.instanceMethod M_X_flip.1 ∈ ev_ws := ev_m 679 (by decide +kernel) rfl
set_option maxRecDepth 100000 in
theorem M_X_flip_se : Cond.selects M_X_flip.1.cls M_X_flip.1 M_X_flip.1 ∈ ev_ws := ev_m 680 (by decide +kernel) rfl
abbrev M_X_swap : ev_M := (⟨"AlikeStore", "swap", "(II)I"⟩, prog_1_method_17_code, 3, some .int)
set_option maxRecDepth 100000 in
theorem M_X_swap_ok : ev_ok M_X_swap 2 := ⟨ev_m 689 (by decide +kernel) rfl, ev_m 1 (by decide +kernel) rfl, by decide +kernel, ⟨by decide +kernel, by decide +kernel⟩, by decide +kernel, by decide +kernel⟩
set_option maxRecDepth 100000 in
theorem M_X_swap_in : Cond.instanceMethod M_X_swap.1 ∈ ev_ws := ev_m 687 (by decide +kernel) rfl
set_option maxRecDepth 100000 in
theorem M_X_swap_se : Cond.selects M_X_swap.1.cls M_X_swap.1 M_X_swap.1 ∈ ev_ws := ev_m 688 (by decide +kernel) rfl
abbrev M_X_tag : ev_M := (⟨"AlikeStore", "tag", "(II)I"⟩, prog_1_method_18_code, 4, some .int)
set_option maxRecDepth 100000 in
theorem M_X_tag_ok : ev_ok M_X_tag 2 := ⟨ev_m 698 (by decide +kernel) rfl, ev_m 1 (by decide +kernel) rfl, by decide +kernel, ⟨by decide +kernel, by decide +kernel⟩, by decide +kernel, by decide +kernel⟩
set_option maxRecDepth 100000 in
theorem M_X_tag_in : Cond.instanceMethod M_X_tag.1 ∈ ev_ws := ev_m 696 (by decide +kernel) rfl
set_option maxRecDepth 100000 in
theorem M_X_tag_se : Cond.selects M_X_tag.1.cls M_X_tag.1 M_X_tag.1 ∈ ev_ws := ev_m 697 (by decide +kernel) rfl
abbrev M_X_split : ev_M := (⟨"AlikeStore", "split", "(II)I"⟩, prog_1_method_19_code, 3, some .int)
set_option maxRecDepth 100000 in
theorem M_X_split_ok : ev_ok M_X_split 2 := ⟨ev_m 702 (by decide +kernel) rfl, ev_m 1 (by decide +kernel) rfl, by decide +kernel, ⟨by decide +kernel, by decide +kernel⟩, by decide +kernel, by decide +kernel⟩
set_option maxRecDepth 100000 in
theorem M_X_split_in : Cond.instanceMethod M_X_split.1 ∈ ev_ws := ev_m 700 (by decide +kernel) rfl
set_option maxRecDepth 100000 in
theorem M_X_split_se : Cond.selects M_X_split.1.cls M_X_split.1 M_X_split.1 ∈ ev_ws := ev_m 701 (by decide +kernel) rfl
abbrev M_X_merge : ev_M := (⟨"AlikeStore", "merge", "(I)I"⟩, prog_1_method_20_code, 2, some .int)
set_option maxRecDepth 100000 in
theorem M_X_merge_ok : ev_ok M_X_merge 1 := ⟨ev_m 711 (by decide +kernel) rfl, ev_m 1 (by decide +kernel) rfl, by decide +kernel, ⟨by decide +kernel, by decide +kernel⟩, by decide +kernel, by decide +kernel⟩
set_option maxRecDepth 100000 in
theorem M_X_merge_in : Cond.instanceMethod M_X_merge.1 ∈ ev_ws := ev_m 709 (by decide +kernel) rfl
set_option maxRecDepth 100000 in
theorem M_X_merge_se : Cond.selects M_X_merge.1.cls M_X_merge.1 M_X_merge.1 ∈ ev_ws := ev_m 710 (by decide +kernel) rfl
abbrev M_X_open : ev_M := (⟨"AlikeStore", "open", "()I"⟩, prog_1_method_21_code, 1, some .int)
set_option maxRecDepth 100000 in
theorem M_X_open_ok : ev_ok M_X_open 0 := ⟨ev_m 719 (by decide +kernel) rfl, ev_m 1 (by decide +kernel) rfl, by decide +kernel, ⟨by decide +kernel, by decide +kernel⟩, by decide +kernel, by decide +kernel⟩
set_option maxRecDepth 100000 in
theorem M_X_open_in : Cond.instanceMethod M_X_open.1 ∈ ev_ws := ev_m 717 (by decide +kernel) rfl
set_option maxRecDepth 100000 in
theorem M_X_open_se : Cond.selects M_X_open.1.cls M_X_open.1 M_X_open.1 ∈ ev_ws := ev_m 718 (by decide +kernel) rfl
abbrev M_X_undo : ev_M := (⟨"AlikeStore", "undo", "()I"⟩, prog_1_method_22_code, 1, some .int)
set_option maxRecDepth 100000 in
theorem M_X_undo_ok : ev_ok M_X_undo 0 := ⟨ev_m 723 (by decide +kernel) rfl, ev_m 1 (by decide +kernel) rfl, by decide +kernel, ⟨by decide +kernel, by decide +kernel⟩, by decide +kernel, by decide +kernel⟩
set_option maxRecDepth 100000 in
theorem M_X_undo_in : Cond.instanceMethod M_X_undo.1 ∈ ev_ws := ev_m 721 (by decide +kernel) rfl
set_option maxRecDepth 100000 in
theorem M_X_undo_se : Cond.selects M_X_undo.1.cls M_X_undo.1 M_X_undo.1 ∈ ev_ws := ev_m 722 (by decide +kernel) rfl
abbrev M_X_mark : ev_M := (⟨"AlikeStore", "mark", "()I"⟩, prog_1_method_23_code, 1, some .int)
set_option maxRecDepth 100000 in
theorem M_X_mark_ok : ev_ok M_X_mark 0 := ⟨ev_m 731 (by decide +kernel) rfl, ev_m 1 (by decide +kernel) rfl, by decide +kernel, ⟨by decide +kernel, by decide +kernel⟩, by decide +kernel, by decide +kernel⟩
set_option maxRecDepth 100000 in
theorem M_X_mark_in : Cond.instanceMethod M_X_mark.1 ∈ ev_ws := ev_m 729 (by decide +kernel) rfl
set_option maxRecDepth 100000 in
theorem M_X_mark_se : Cond.selects M_X_mark.1.cls M_X_mark.1 M_X_mark.1 ∈ ev_ws := ev_m 730 (by decide +kernel) rfl
abbrev M_X_back : ev_M := (⟨"AlikeStore", "back", "()I"⟩, prog_1_method_24_code, 1, some .int)
set_option maxRecDepth 100000 in
theorem M_X_back_ok : ev_ok M_X_back 0 := ⟨ev_m 739 (by decide +kernel) rfl, ev_m 1 (by decide +kernel) rfl, by decide +kernel, ⟨by decide +kernel, by decide +kernel⟩, by decide +kernel, by decide +kernel⟩
set_option maxRecDepth 100000 in
theorem M_X_back_in : Cond.instanceMethod M_X_back.1 ∈ ev_ws := ev_m 737 (by decide +kernel) rfl
set_option maxRecDepth 100000 in
theorem M_X_back_se : Cond.selects M_X_back.1.cls M_X_back.1 M_X_back.1 ∈ ev_ws := ev_m 738 (by decide +kernel) rfl
abbrev M_X_budget : ev_M := (⟨"AlikeStore", "budget", "(JII)I"⟩, prog_1_method_25_code, 5, some .int)
set_option maxRecDepth 100000 in
theorem M_X_budget_ok : ev_ok M_X_budget 3 := ⟨ev_m 747 (by decide +kernel) rfl, ev_m 1 (by decide +kernel) rfl, by decide +kernel, ⟨by decide +kernel, by decide +kernel⟩, by decide +kernel, by decide +kernel⟩
set_option maxRecDepth 100000 in
theorem M_X_budget_in : Cond.instanceMethod M_X_budget.1 ∈ ev_ws := ev_m 745 (by decide +kernel) rfl
set_option maxRecDepth 100000 in
theorem M_X_budget_se : Cond.selects M_X_budget.1.cls M_X_budget.1 M_X_budget.1 ∈ ev_ws := ev_m 746 (by decide +kernel) rfl
abbrev M_X_cost : ev_M := (⟨"AlikeStore", "cost", "(JII)I"⟩, prog_1_method_26_code, 5, some .int)
set_option maxRecDepth 100000 in
theorem M_X_cost_ok : ev_ok M_X_cost 3 := ⟨ev_m 793 (by decide +kernel) rfl, ev_m 1 (by decide +kernel) rfl, by decide +kernel, ⟨by decide +kernel, by decide +kernel⟩, by decide +kernel, by decide +kernel⟩
set_option maxRecDepth 100000 in
theorem M_X_cost_in : Cond.instanceMethod M_X_cost.1 ∈ ev_ws := ev_m 791 (by decide +kernel) rfl
set_option maxRecDepth 100000 in
theorem M_X_cost_se : Cond.selects M_X_cost.1.cls M_X_cost.1 M_X_cost.1 ∈ ev_ws := ev_m 792 (by decide +kernel) rfl
abbrev M_X_near : ev_M := (⟨"AlikeStore", "near", "(JII)I"⟩, prog_1_method_27_code, 9, some .int)
set_option maxRecDepth 100000 in
theorem M_X_near_ok : ev_ok M_X_near 3 := ⟨ev_m 798 (by decide +kernel) rfl, ev_m 1 (by decide +kernel) rfl, by decide +kernel, ⟨by decide +kernel, by decide +kernel⟩, by decide +kernel, by decide +kernel⟩
set_option maxRecDepth 100000 in
theorem M_X_near_in : Cond.instanceMethod M_X_near.1 ∈ ev_ws := ev_m 796 (by decide +kernel) rfl
set_option maxRecDepth 100000 in
theorem M_X_near_se : Cond.selects M_X_near.1.cls M_X_near.1 M_X_near.1 ∈ ev_ws := ev_m 797 (by decide +kernel) rfl
abbrev M_X_ranked : ev_M := (⟨"AlikeStore", "ranked", "(JI)I"⟩, prog_1_method_28_code, 4, some .int)
set_option maxRecDepth 100000 in
theorem M_X_ranked_ok : ev_ok M_X_ranked 2 := ⟨ev_m 812 (by decide +kernel) rfl, ev_m 1 (by decide +kernel) rfl, by decide +kernel, ⟨by decide +kernel, by decide +kernel⟩, by decide +kernel, by decide +kernel⟩
set_option maxRecDepth 100000 in
theorem M_X_ranked_in : Cond.instanceMethod M_X_ranked.1 ∈ ev_ws := ev_m 810 (by decide +kernel) rfl
set_option maxRecDepth 100000 in
theorem M_X_ranked_se : Cond.selects M_X_ranked.1.cls M_X_ranked.1 M_X_ranked.1 ∈ ev_ws := ev_m 811 (by decide +kernel) rfl
abbrev M_X_grown : ev_M := (⟨"AlikeStore", "grown", "(JII)I"⟩, prog_1_method_29_code, 8, some .int)
set_option maxRecDepth 100000 in
theorem M_X_grown_ok : ev_ok M_X_grown 3 := ⟨ev_m 826 (by decide +kernel) rfl, ev_m 1 (by decide +kernel) rfl, by decide +kernel, ⟨by decide +kernel, by decide +kernel⟩, by decide +kernel, by decide +kernel⟩
set_option maxRecDepth 100000 in
theorem M_X_grown_in : Cond.instanceMethod M_X_grown.1 ∈ ev_ws := ev_m 824 (by decide +kernel) rfl
set_option maxRecDepth 100000 in
theorem M_X_grown_se : Cond.selects M_X_grown.1.cls M_X_grown.1 M_X_grown.1 ∈ ev_ws := ev_m 825 (by decide +kernel) rfl
abbrev M_X_apart : ev_M := (⟨"AlikeStore", "apart", "(JIII)I"⟩, prog_1_method_30_code, 6, some .int)
set_option maxRecDepth 100000 in
theorem M_X_apart_ok : ev_ok M_X_apart 4 := ⟨ev_m 832 (by decide +kernel) rfl, ev_m 1 (by decide +kernel) rfl, by decide +kernel, ⟨by decide +kernel, by decide +kernel⟩, by decide +kernel, by decide +kernel⟩
set_option maxRecDepth 100000 in
theorem M_X_apart_in : Cond.instanceMethod M_X_apart.1 ∈ ev_ws := ev_m 830 (by decide +kernel) rfl
set_option maxRecDepth 100000 in
theorem M_X_apart_se : Cond.selects M_X_apart.1.cls M_X_apart.1 M_X_apart.1 ∈ ev_ws := ev_m 831 (by decide +kernel) rfl
abbrev M_X_pairs : ev_M := (⟨"AlikeStore", "pairs", "(I)I"⟩, prog_1_method_31_code, 5, some .int)
set_option maxRecDepth 100000 in
theorem M_X_pairs_ok : ev_ok M_X_pairs 1 := ⟨ev_m 842 (by decide +kernel) rfl, ev_m 1 (by decide +kernel) rfl, by decide +kernel, ⟨by decide +kernel, by decide +kernel⟩, by decide +kernel, by decide +kernel⟩
set_option maxRecDepth 100000 in
theorem M_X_pairs_in : Cond.instanceMethod M_X_pairs.1 ∈ ev_ws := ev_m 840 (by decide +kernel) rfl
set_option maxRecDepth 100000 in
theorem M_X_pairs_se : Cond.selects M_X_pairs.1.cls M_X_pairs.1 M_X_pairs.1 ∈ ev_ws := ev_m 841 (by decide +kernel) rfl
abbrev M_X_pair : ev_M := (⟨"AlikeStore", "pair", "(III)I"⟩, prog_1_method_32_code, 5, some .int)
set_option maxRecDepth 100000 in
theorem M_X_pair_ok : ev_ok M_X_pair 3 := ⟨ev_m 850 (by decide +kernel) rfl, ev_m 1 (by decide +kernel) rfl, by decide +kernel, ⟨by decide +kernel, by decide +kernel⟩, by decide +kernel, by decide +kernel⟩
set_option maxRecDepth 100000 in
theorem M_X_pair_in : Cond.instanceMethod M_X_pair.1 ∈ ev_ws := ev_m 848 (by decide +kernel) rfl
set_option maxRecDepth 100000 in
theorem M_X_pair_se : Cond.selects M_X_pair.1.cls M_X_pair.1 M_X_pair.1 ∈ ev_ws := ev_m 849 (by decide +kernel) rfl
abbrev M_X_joined : ev_M := (⟨"AlikeStore", "joined", "(I)I"⟩, prog_1_method_33_code, 5, some .int)
set_option maxRecDepth 100000 in
theorem M_X_joined_ok : ev_ok M_X_joined 1 := ⟨ev_m 865 (by decide +kernel) rfl, ev_m 1 (by decide +kernel) rfl, by decide +kernel, ⟨by decide +kernel, by decide +kernel⟩, by decide +kernel, by decide +kernel⟩
set_option maxRecDepth 100000 in
theorem M_X_joined_in : Cond.instanceMethod M_X_joined.1 ∈ ev_ws := ev_m 863 (by decide +kernel) rfl
set_option maxRecDepth 100000 in
theorem M_X_joined_se : Cond.selects M_X_joined.1.cls M_X_joined.1 M_X_joined.1 ∈ ev_ws := ev_m 864 (by decide +kernel) rfl
abbrev M_X_closest : ev_M := (⟨"AlikeStore", "closest", "(I)I"⟩, prog_1_method_34_code, 3, some .int)
set_option maxRecDepth 100000 in
theorem M_X_closest_ok : ev_ok M_X_closest 1 := ⟨ev_m 869 (by decide +kernel) rfl, ev_m 1 (by decide +kernel) rfl, by decide +kernel, ⟨by decide +kernel, by decide +kernel⟩, by decide +kernel, by decide +kernel⟩
set_option maxRecDepth 100000 in
theorem M_X_closest_in : Cond.instanceMethod M_X_closest.1 ∈ ev_ws := ev_m 867 (by decide +kernel) rfl
set_option maxRecDepth 100000 in
theorem M_X_closest_se : Cond.selects M_X_closest.1.cls M_X_closest.1 M_X_closest.1 ∈ ev_ws := ev_m 868 (by decide +kernel) rfl
abbrev M_X_clusters : ev_M := (⟨"AlikeStore", "clusters", "(II)I"⟩, prog_1_method_35_code, 9, some .int)
set_option maxRecDepth 100000 in
theorem M_X_clusters_ok : ev_ok M_X_clusters 2 := ⟨ev_m 877 (by decide +kernel) rfl, ev_m 1 (by decide +kernel) rfl, by decide +kernel, ⟨by decide +kernel, by decide +kernel⟩, by decide +kernel, by decide +kernel⟩
set_option maxRecDepth 100000 in
theorem M_X_clusters_in : Cond.instanceMethod M_X_clusters.1 ∈ ev_ws := ev_m 875 (by decide +kernel) rfl
set_option maxRecDepth 100000 in
theorem M_X_clusters_se : Cond.selects M_X_clusters.1.cls M_X_clusters.1 M_X_clusters.1 ∈ ev_ws := ev_m 876 (by decide +kernel) rfl
abbrev M_X_cluster : ev_M := (⟨"AlikeStore", "cluster", "(III)I"⟩, prog_1_method_36_code, 6, some .int)
set_option maxRecDepth 100000 in
theorem M_X_cluster_ok : ev_ok M_X_cluster 3 := ⟨ev_m 888 (by decide +kernel) rfl, ev_m 1 (by decide +kernel) rfl, by decide +kernel, ⟨by decide +kernel, by decide +kernel⟩, by decide +kernel, by decide +kernel⟩
set_option maxRecDepth 100000 in
theorem M_X_cluster_in : Cond.instanceMethod M_X_cluster.1 ∈ ev_ws := ev_m 886 (by decide +kernel) rfl
set_option maxRecDepth 100000 in
theorem M_X_cluster_se : Cond.selects M_X_cluster.1.cls M_X_cluster.1 M_X_cluster.1 ∈ ev_ws := ev_m 887 (by decide +kernel) rfl
abbrev M_X_vote : ev_M := (⟨"AlikeStore", "vote", "(I)J"⟩, prog_1_method_37_code, 6, some .long)
set_option maxRecDepth 100000 in
theorem M_X_vote_ok : ev_ok M_X_vote 1 := ⟨ev_m 900 (by decide +kernel) rfl, ev_m 1 (by decide +kernel) rfl, by decide +kernel, ⟨by decide +kernel, by decide +kernel⟩, by decide +kernel, by decide +kernel⟩
set_option maxRecDepth 100000 in
theorem M_X_vote_in : Cond.instanceMethod M_X_vote.1 ∈ ev_ws := ev_m 898 (by decide +kernel) rfl
set_option maxRecDepth 100000 in
theorem M_X_vote_se : Cond.selects M_X_vote.1.cls M_X_vote.1 M_X_vote.1 ∈ ev_ws := ev_m 899 (by decide +kernel) rfl
abbrev M_X_like : ev_M := (⟨"AlikeStore", "like", "(JJ)I"⟩, prog_1_method_38_code, 8, some .int)
set_option maxRecDepth 100000 in
theorem M_X_like_ok : ev_ok M_X_like 2 := ⟨ev_m 909 (by decide +kernel) rfl, ev_m 1 (by decide +kernel) rfl, by decide +kernel, ⟨by decide +kernel, by decide +kernel⟩, by decide +kernel, by decide +kernel⟩
set_option maxRecDepth 100000 in
theorem M_X_like_in : Cond.instanceMethod M_X_like.1 ∈ ev_ws := ev_m 907 (by decide +kernel) rfl
set_option maxRecDepth 100000 in
theorem M_X_like_se : Cond.selects M_X_like.1.cls M_X_like.1 M_X_like.1 ∈ ev_ws := ev_m 908 (by decide +kernel) rfl
abbrev M_X_ones : ev_M := (⟨"AlikeStore", "ones", "(I)I"⟩, prog_1_method_39_code, 2, some .int)
set_option maxRecDepth 100000 in
theorem M_X_ones_ok : ev_ok M_X_ones 1 := ⟨ev_m 913 (by decide +kernel) rfl, ev_m 1 (by decide +kernel) rfl, by decide +kernel, ⟨by decide +kernel, by decide +kernel⟩, by decide +kernel, by decide +kernel⟩
set_option maxRecDepth 100000 in
theorem M_X_ones_in : Cond.instanceMethod M_X_ones.1 ∈ ev_ws := ev_m 911 (by decide +kernel) rfl
set_option maxRecDepth 100000 in
theorem M_X_ones_se : Cond.selects M_X_ones.1.cls M_X_ones.1 M_X_ones.1 ∈ ev_ws := ev_m 912 (by decide +kernel) rfl
abbrev M_X_telling : ev_M := (⟨"AlikeStore", "telling", "()I"⟩, prog_1_method_40_code, 7, some .int)
set_option maxRecDepth 100000 in
theorem M_X_telling_ok : ev_ok M_X_telling 0 := ⟨ev_m 917 (by decide +kernel) rfl, ev_m 1 (by decide +kernel) rfl, by decide +kernel, ⟨by decide +kernel, by decide +kernel⟩, by decide +kernel, by decide +kernel⟩
set_option maxRecDepth 100000 in
theorem M_X_telling_in : Cond.instanceMethod M_X_telling.1 ∈ ev_ws := ev_m 915 (by decide +kernel) rfl
set_option maxRecDepth 100000 in
theorem M_X_telling_se : Cond.selects M_X_telling.1.cls M_X_telling.1 M_X_telling.1 ∈ ev_ws := ev_m 916 (by decide +kernel) rfl
abbrev M_X_alike : ev_M := (⟨"AlikeStore", "alike", "(II)I"⟩, prog_1_method_41_code, 6, some .int)
set_option maxRecDepth 100000 in
theorem M_X_alike_ok : ev_ok M_X_alike 2 := ⟨ev_m 924 (by decide +kernel) rfl, ev_m 1 (by decide +kernel) rfl, by decide +kernel, ⟨by decide +kernel, by decide +kernel⟩, by decide +kernel, by decide +kernel⟩
set_option maxRecDepth 100000 in
theorem M_X_alike_in : Cond.instanceMethod M_X_alike.1 ∈ ev_ws := ev_m 922 (by decide +kernel) rfl
set_option maxRecDepth 100000 in
theorem M_X_alike_se : Cond.selects M_X_alike.1.cls M_X_alike.1 M_X_alike.1 ∈ ev_ws := ev_m 923 (by decide +kernel) rfl
abbrev M_X_spread : ev_M := (⟨"AlikeStore", "spread", "(II)I"⟩, prog_1_method_42_code, 8, some .int)
set_option maxRecDepth 100000 in
theorem M_X_spread_ok : ev_ok M_X_spread 2 := ⟨ev_m 928 (by decide +kernel) rfl, ev_m 1 (by decide +kernel) rfl, by decide +kernel, ⟨by decide +kernel, by decide +kernel⟩, by decide +kernel, by decide +kernel⟩
set_option maxRecDepth 100000 in
theorem M_X_spread_in : Cond.instanceMethod M_X_spread.1 ∈ ev_ws := ev_m 926 (by decide +kernel) rfl
set_option maxRecDepth 100000 in
theorem M_X_spread_se : Cond.selects M_X_spread.1.cls M_X_spread.1 M_X_spread.1 ∈ ev_ws := ev_m 927 (by decide +kernel) rfl
abbrev M_X_parted : ev_M := (⟨"AlikeStore", "parted", "(II)I"⟩, prog_1_method_43_code, 3, some .int)
set_option maxRecDepth 100000 in
theorem M_X_parted_ok : ev_ok M_X_parted 2 := ⟨ev_m 937 (by decide +kernel) rfl, ev_m 1 (by decide +kernel) rfl, by decide +kernel, ⟨by decide +kernel, by decide +kernel⟩, by decide +kernel, by decide +kernel⟩
set_option maxRecDepth 100000 in
theorem M_X_parted_in : Cond.instanceMethod M_X_parted.1 ∈ ev_ws := ev_m 935 (by decide +kernel) rfl
set_option maxRecDepth 100000 in
theorem M_X_parted_se : Cond.selects M_X_parted.1.cls M_X_parted.1 M_X_parted.1 ∈ ev_ws := ev_m 936 (by decide +kernel) rfl
abbrev M_X_bestPart : ev_M := (⟨"AlikeStore", "bestPart", "(I)I"⟩, prog_1_method_44_code, 7, some .int)
set_option maxRecDepth 100000 in
theorem M_X_bestPart_ok : ev_ok M_X_bestPart 1 := ⟨ev_m 952 (by decide +kernel) rfl, ev_m 1 (by decide +kernel) rfl, by decide +kernel, ⟨by decide +kernel, by decide +kernel⟩, by decide +kernel, by decide +kernel⟩
set_option maxRecDepth 100000 in
theorem M_X_bestPart_in : Cond.instanceMethod M_X_bestPart.1 ∈ ev_ws := ev_m 950 (by decide +kernel) rfl
set_option maxRecDepth 100000 in
theorem M_X_bestPart_se : Cond.selects M_X_bestPart.1.cls M_X_bestPart.1 M_X_bestPart.1 ∈ ev_ws := ev_m 951 (by decide +kernel) rfl
abbrev M_X_refuse : ev_M := (⟨"AlikeStore", "refuse", "(I)I"⟩, prog_1_method_45_code, 2, some .int)
set_option maxRecDepth 100000 in
theorem M_X_refuse_ok : ev_ok M_X_refuse 1 := ⟨ev_m 281 (by decide +kernel) rfl, ev_m 1 (by decide +kernel) rfl, by decide +kernel, ⟨by decide +kernel, by decide +kernel⟩, by decide +kernel, by decide +kernel⟩
set_option maxRecDepth 100000 in
theorem M_X_refuse_in : Cond.instanceMethod M_X_refuse.1 ∈ ev_ws := ev_m 280 (by decide +kernel) rfl
set_option maxRecDepth 100000 in
theorem M_X_refuse_se : Cond.selects M_X_refuse.1.cls M_X_refuse.1 M_X_refuse.1 ∈ ev_ws := ev_mp 0 (by decide +kernel) rfl
abbrev M_X_answer : ev_M := (⟨"AlikeStore", "answer", "(I)I"⟩, prog_1_method_46_code, 2, some .int)
set_option maxRecDepth 100000 in
theorem M_X_answer_ok : ev_ok M_X_answer 1 := ⟨ev_m 550 (by decide +kernel) rfl, ev_m 1 (by decide +kernel) rfl, by decide +kernel, ⟨by decide +kernel, by decide +kernel⟩, by decide +kernel, by decide +kernel⟩
set_option maxRecDepth 100000 in
theorem M_X_answer_in : Cond.instanceMethod M_X_answer.1 ∈ ev_ws := ev_m 549 (by decide +kernel) rfl
set_option maxRecDepth 100000 in
theorem M_X_answer_se : Cond.selects M_X_answer.1.cls M_X_answer.1 M_X_answer.1 ∈ ev_ws := ev_mp 15 (by decide +kernel) rfl
abbrev M_X_answerLong : ev_M := (⟨"AlikeStore", "answerLong", "(J)J"⟩, prog_1_method_47_code, 3, some .long)
set_option maxRecDepth 100000 in
theorem M_X_answerLong_ok : ev_ok M_X_answerLong 1 := ⟨ev_m 613 (by decide +kernel) rfl, ev_m 1 (by decide +kernel) rfl, by decide +kernel, ⟨by decide +kernel, by decide +kernel⟩, by decide +kernel, by decide +kernel⟩
set_option maxRecDepth 100000 in
theorem M_X_answerLong_in : Cond.instanceMethod M_X_answerLong.1 ∈ ev_ws := ev_m 612 (by decide +kernel) rfl
set_option maxRecDepth 100000 in
theorem M_X_answerLong_se : Cond.selects M_X_answerLong.1.cls M_X_answerLong.1 M_X_answerLong.1 ∈ ev_ws := ev_mp 19 (by decide +kernel) rfl
abbrev M_X_isNumber : ev_M := (⟨"AlikeStore", "isNumber", "(J)Z"⟩, prog_1_method_48_code, 3, some .boolean)
set_option maxRecDepth 100000 in
theorem M_X_isNumber_ok : ev_ok M_X_isNumber 1 := ⟨ev_m 638 (by decide +kernel) rfl, ev_m 1 (by decide +kernel) rfl, by decide +kernel, ⟨by decide +kernel, by decide +kernel⟩, by decide +kernel, by decide +kernel⟩
set_option maxRecDepth 100000 in
theorem M_X_isNumber_in : Cond.instanceMethod M_X_isNumber.1 ∈ ev_ws := ev_m 637 (by decide +kernel) rfl
set_option maxRecDepth 100000 in
theorem M_X_isNumber_se : Cond.selects M_X_isNumber.1.cls M_X_isNumber.1 M_X_isNumber.1 ∈ ev_ws := ev_mp 21 (by decide +kernel) rfl
abbrev M_X_isRadius : ev_M := (⟨"AlikeStore", "isRadius", "(I)Z"⟩, prog_1_method_49_code, 2, some .boolean)
set_option maxRecDepth 100000 in
theorem M_X_isRadius_ok : ev_ok M_X_isRadius 1 := ⟨ev_m 751 (by decide +kernel) rfl, ev_m 1 (by decide +kernel) rfl, by decide +kernel, ⟨by decide +kernel, by decide +kernel⟩, by decide +kernel, by decide +kernel⟩
set_option maxRecDepth 100000 in
theorem M_X_isRadius_in : Cond.instanceMethod M_X_isRadius.1 ∈ ev_ws := ev_m 750 (by decide +kernel) rfl
set_option maxRecDepth 100000 in
theorem M_X_isRadius_se : Cond.selects M_X_isRadius.1.cls M_X_isRadius.1 M_X_isRadius.1 ∈ ev_ws := ev_mp 23 (by decide +kernel) rfl
abbrev M_X_isBit : ev_M := (⟨"AlikeStore", "isBit", "(I)Z"⟩, prog_1_method_50_code, 2, some .boolean)
set_option maxRecDepth 100000 in
theorem M_X_isBit_ok : ev_ok M_X_isBit 1 := ⟨ev_m 685 (by decide +kernel) rfl, ev_m 1 (by decide +kernel) rfl, by decide +kernel, ⟨by decide +kernel, by decide +kernel⟩, by decide +kernel, by decide +kernel⟩
set_option maxRecDepth 100000 in
theorem M_X_isBit_in : Cond.instanceMethod M_X_isBit.1 ∈ ev_ws := ev_m 684 (by decide +kernel) rfl
set_option maxRecDepth 100000 in
theorem M_X_isBit_se : Cond.selects M_X_isBit.1.cls M_X_isBit.1 M_X_isBit.1 ∈ ev_ws := ev_mp 22 (by decide +kernel) rfl
abbrev M_X_isCode : ev_M := (⟨"AlikeStore", "isCode", "(I)Z"⟩, prog_1_method_51_code, 2, some .boolean)
set_option maxRecDepth 100000 in
theorem M_X_isCode_ok : ev_ok M_X_isCode 1 := ⟨ev_m 609 (by decide +kernel) rfl, ev_m 1 (by decide +kernel) rfl, by decide +kernel, ⟨by decide +kernel, by decide +kernel⟩, by decide +kernel, by decide +kernel⟩
set_option maxRecDepth 100000 in
theorem M_X_isCode_in : Cond.instanceMethod M_X_isCode.1 ∈ ev_ws := ev_m 608 (by decide +kernel) rfl
set_option maxRecDepth 100000 in
theorem M_X_isCode_se : Cond.selects M_X_isCode.1.cls M_X_isCode.1 M_X_isCode.1 ∈ ev_ws := ev_mp 18 (by decide +kernel) rfl
abbrev M_X_isPart : ev_M := (⟨"AlikeStore", "isPart", "(I)Z"⟩, prog_1_method_52_code, 2, some .boolean)
set_option maxRecDepth 100000 in
theorem M_X_isPart_ok : ev_ok M_X_isPart 1 := ⟨ev_m 625 (by decide +kernel) rfl, ev_m 1 (by decide +kernel) rfl, by decide +kernel, ⟨by decide +kernel, by decide +kernel⟩, by decide +kernel, by decide +kernel⟩
set_option maxRecDepth 100000 in
theorem M_X_isPart_in : Cond.instanceMethod M_X_isPart.1 ∈ ev_ws := ev_m 624 (by decide +kernel) rfl
set_option maxRecDepth 100000 in
theorem M_X_isPart_se : Cond.selects M_X_isPart.1.cls M_X_isPart.1 M_X_isPart.1 ∈ ev_ws := ev_mp 20 (by decide +kernel) rfl
abbrev M_X_isUpper : ev_M := (⟨"AlikeStore", "isUpper", "(I)Z"⟩, prog_1_method_53_code, 1, some .boolean)
set_option maxRecDepth 100000 in
theorem M_X_isUpper_ok : ev_ok M_X_isUpper 1 := ⟨ev_m 940 (by decide +kernel) rfl, ev_m 1 (by decide +kernel) rfl, by decide +kernel, ⟨by decide +kernel, by decide +kernel⟩, by decide +kernel, by decide +kernel⟩
set_option maxRecDepth 100000 in
theorem M_X_isUpper_st : Cond.static M_X_isUpper.1 ∈ ev_ws := ev_m 939 (by decide +kernel) rfl
abbrev M_X_isBelow : ev_M := (⟨"AlikeStore", "isBelow", "(II)Z"⟩, prog_1_method_54_code, 2, some .boolean)
set_option maxRecDepth 100000 in
theorem M_X_isBelow_ok : ev_ok M_X_isBelow 2 := ⟨ev_m 646 (by decide +kernel) rfl, ev_m 1 (by decide +kernel) rfl, by decide +kernel, ⟨by decide +kernel, by decide +kernel⟩, by decide +kernel, by decide +kernel⟩
set_option maxRecDepth 100000 in
theorem M_X_isBelow_st : Cond.static M_X_isBelow.1 ∈ ev_ws := ev_m 645 (by decide +kernel) rfl
abbrev M_X_isIn : ev_M := (⟨"AlikeStore", "isIn", "(II)Z"⟩, prog_1_method_55_code, 2, some .boolean)
set_option maxRecDepth 100000 in
theorem M_X_isIn_ok : ev_ok M_X_isIn 2 := ⟨ev_m 770 (by decide +kernel) rfl, ev_m 1 (by decide +kernel) rfl, by decide +kernel, ⟨by decide +kernel, by decide +kernel⟩, by decide +kernel, by decide +kernel⟩
set_option maxRecDepth 100000 in
theorem M_X_isIn_st : Cond.static M_X_isIn.1 ∈ ev_ws := ev_m 769 (by decide +kernel) rfl
abbrev M_X_above : ev_M := (⟨"AlikeStore", "above", "(I)I"⟩, prog_1_method_56_code, 1, some .int)
set_option maxRecDepth 100000 in
theorem M_X_above_ok : ev_ok M_X_above 1 := ⟨ev_m 846 (by decide +kernel) rfl, ev_m 1 (by decide +kernel) rfl, by decide +kernel, ⟨by decide +kernel, by decide +kernel⟩, by decide +kernel, by decide +kernel⟩
set_option maxRecDepth 100000 in
theorem M_X_above_st : Cond.static M_X_above.1 ∈ ev_ws := ev_m 845 (by decide +kernel) rfl
abbrev M_X_leastOf : ev_M := (⟨"AlikeStore", "leastOf", "(I)I"⟩, prog_1_method_57_code, 2, some .int)
set_option maxRecDepth 100000 in
theorem M_X_leastOf_ok : ev_ok M_X_leastOf 1 := ⟨ev_m 884 (by decide +kernel) rfl, ev_m 1 (by decide +kernel) rfl, by decide +kernel, ⟨by decide +kernel, by decide +kernel⟩, by decide +kernel, by decide +kernel⟩
set_option maxRecDepth 100000 in
theorem M_X_leastOf_st : Cond.static M_X_leastOf.1 ∈ ev_ws := ev_m 883 (by decide +kernel) rfl
abbrev M_X_unlike : ev_M := (⟨"AlikeStore", "unlike", "(JJ)I"⟩, prog_1_method_58_code, 4, some .int)
set_option maxRecDepth 100000 in
theorem M_X_unlike_ok : ev_ok M_X_unlike 2 := ⟨ev_m 594 (by decide +kernel) rfl, ev_m 1 (by decide +kernel) rfl, by decide +kernel, ⟨by decide +kernel, by decide +kernel⟩, by decide +kernel, by decide +kernel⟩
set_option maxRecDepth 100000 in
theorem M_X_unlike_st : Cond.static M_X_unlike.1 ∈ ev_ws := ev_m 593 (by decide +kernel) rfl
abbrev M_X_bitOf : ev_M := (⟨"AlikeStore", "bitOf", "(JI)I"⟩, prog_1_method_59_code, 3, some .int)
set_option maxRecDepth 100000 in
theorem M_X_bitOf_ok : ev_ok M_X_bitOf 2 := ⟨ev_m 587 (by decide +kernel) rfl, ev_m 1 (by decide +kernel) rfl, by decide +kernel, ⟨by decide +kernel, by decide +kernel⟩, by decide +kernel, by decide +kernel⟩
set_option maxRecDepth 100000 in
theorem M_X_bitOf_st : Cond.static M_X_bitOf.1 ∈ ev_ws := ev_m 586 (by decide +kernel) rfl
abbrev M_X_measureOf : ev_M := (⟨"AlikeStore", "measureOf", "(JI)I"⟩, prog_1_method_60_code, 3, some .int)
set_option maxRecDepth 100000 in
theorem M_X_measureOf_ok : ev_ok M_X_measureOf 2 := ⟨ev_m 649 (by decide +kernel) rfl, ev_m 1 (by decide +kernel) rfl, by decide +kernel, ⟨by decide +kernel, by decide +kernel⟩, by decide +kernel, by decide +kernel⟩
set_option maxRecDepth 100000 in
theorem M_X_measureOf_st : Cond.static M_X_measureOf.1 ∈ ev_ws := ev_m 648 (by decide +kernel) rfl
abbrev M_X_reachOf : ev_M := (⟨"AlikeStore", "reachOf", "(J)I"⟩, prog_1_method_61_code, 5, some .int)
set_option maxRecDepth 100000 in
theorem M_X_reachOf_ok : ev_ok M_X_reachOf 1 := ⟨ev_m 653 (by decide +kernel) rfl, ev_m 1 (by decide +kernel) rfl, by decide +kernel, ⟨by decide +kernel, by decide +kernel⟩, by decide +kernel, by decide +kernel⟩
set_option maxRecDepth 100000 in
theorem M_X_reachOf_st : Cond.static M_X_reachOf.1 ∈ ev_ws := ev_m 652 (by decide +kernel) rfl
abbrev M_X_longestRun : ev_M := (⟨"AlikeStore", "longestRun", "(J)I"⟩, prog_1_method_62_code, 5, some .int)
set_option maxRecDepth 100000 in
theorem M_X_longestRun_ok : ev_ok M_X_longestRun 1 := ⟨ev_m 658 (by decide +kernel) rfl, ev_m 1 (by decide +kernel) rfl, by decide +kernel, ⟨by decide +kernel, by decide +kernel⟩, by decide +kernel, by decide +kernel⟩
set_option maxRecDepth 100000 in
theorem M_X_longestRun_st : Cond.static M_X_longestRun.1 ∈ ev_ws := ev_m 657 (by decide +kernel) rfl
abbrev M_X_packPair : ev_M := (⟨"AlikeStore", "packPair", "(II)I"⟩, prog_1_method_63_code, 3, some .int)
set_option maxRecDepth 100000 in
theorem M_X_packPair_ok : ev_ok M_X_packPair 2 := ⟨ev_m 858 (by decide +kernel) rfl, ev_m 1 (by decide +kernel) rfl, by decide +kernel, ⟨by decide +kernel, by decide +kernel⟩, by decide +kernel, by decide +kernel⟩
set_option maxRecDepth 100000 in
theorem M_X_packPair_in : Cond.instanceMethod M_X_packPair.1 ∈ ev_ws := ev_m 857 (by decide +kernel) rfl
set_option maxRecDepth 100000 in
theorem M_X_packPair_se : Cond.selects M_X_packPair.1.cls M_X_packPair.1 M_X_packPair.1 ∈ ev_ws := ev_mp 28 (by decide +kernel) rfl
abbrev M_X_ofPacked : ev_M := (⟨"AlikeStore", "ofPacked", "(II)I"⟩, prog_1_method_64_code, 2, some .int)
set_option maxRecDepth 100000 in
theorem M_X_ofPacked_ok : ev_ok M_X_ofPacked 2 := ⟨ev_m 861 (by decide +kernel) rfl, ev_m 1 (by decide +kernel) rfl, by decide +kernel, ⟨by decide +kernel, by decide +kernel⟩, by decide +kernel, by decide +kernel⟩
set_option maxRecDepth 100000 in
theorem M_X_ofPacked_st : Cond.static M_X_ofPacked.1 ∈ ev_ws := ev_m 860 (by decide +kernel) rfl
abbrev M_X_pairAt : ev_M := (⟨"AlikeStore", "pairAt", "(III)I"⟩, prog_1_method_65_code, 8, some .int)
set_option maxRecDepth 100000 in
theorem M_X_pairAt_ok : ev_ok M_X_pairAt 3 := ⟨ev_m 854 (by decide +kernel) rfl, ev_m 1 (by decide +kernel) rfl, by decide +kernel, ⟨by decide +kernel, by decide +kernel⟩, by decide +kernel, by decide +kernel⟩
set_option maxRecDepth 100000 in
theorem M_X_pairAt_in : Cond.instanceMethod M_X_pairAt.1 ∈ ev_ws := ev_m 853 (by decide +kernel) rfl
set_option maxRecDepth 100000 in
theorem M_X_pairAt_se : Cond.selects M_X_pairAt.1.cls M_X_pairAt.1 M_X_pairAt.1 ∈ ev_ws := ev_mp 27 (by decide +kernel) rfl
abbrev M_X_closestPair : ev_M := (⟨"AlikeStore", "closestPair", "(I)I"⟩, prog_1_method_66_code, 6, some .int)
set_option maxRecDepth 100000 in
theorem M_X_closestPair_ok : ev_ok M_X_closestPair 1 := ⟨ev_m 873 (by decide +kernel) rfl, ev_m 1 (by decide +kernel) rfl, by decide +kernel, ⟨by decide +kernel, by decide +kernel⟩, by decide +kernel, by decide +kernel⟩
set_option maxRecDepth 100000 in
theorem M_X_closestPair_in : Cond.instanceMethod M_X_closestPair.1 ∈ ev_ws := ev_m 872 (by decide +kernel) rfl
set_option maxRecDepth 100000 in
theorem M_X_closestPair_se : Cond.selects M_X_closestPair.1.cls M_X_closestPair.1 M_X_closestPair.1 ∈ ev_ws := ev_mp 29 (by decide +kernel) rfl
abbrev M_X_clusterWith : ev_M := (⟨"AlikeStore", "clusterWith", "(III)I"⟩, prog_1_method_67_code, 9, some .int)
set_option maxRecDepth 100000 in
theorem M_X_clusterWith_ok : ev_ok M_X_clusterWith 3 := ⟨ev_m 881 (by decide +kernel) rfl, ev_m 1 (by decide +kernel) rfl, by decide +kernel, ⟨by decide +kernel, by decide +kernel⟩, by decide +kernel, by decide +kernel⟩
set_option maxRecDepth 100000 in
theorem M_X_clusterWith_in : Cond.instanceMethod M_X_clusterWith.1 ∈ ev_ws := ev_m 880 (by decide +kernel) rfl
set_option maxRecDepth 100000 in
theorem M_X_clusterWith_se : Cond.selects M_X_clusterWith.1.cls M_X_clusterWith.1 M_X_clusterWith.1 ∈ ev_ws := ev_mp 30 (by decide +kernel) rfl
abbrev M_X_middleOf : ev_M := (⟨"AlikeStore", "middleOf", "(I)I"⟩, prog_1_method_68_code, 6, some .int)
set_option maxRecDepth 100000 in
theorem M_X_middleOf_ok : ev_ok M_X_middleOf 1 := ⟨ev_m 892 (by decide +kernel) rfl, ev_m 1 (by decide +kernel) rfl, by decide +kernel, ⟨by decide +kernel, by decide +kernel⟩, by decide +kernel, by decide +kernel⟩
set_option maxRecDepth 100000 in
theorem M_X_middleOf_in : Cond.instanceMethod M_X_middleOf.1 ∈ ev_ws := ev_m 891 (by decide +kernel) rfl
set_option maxRecDepth 100000 in
theorem M_X_middleOf_se : Cond.selects M_X_middleOf.1.cls M_X_middleOf.1 M_X_middleOf.1 ∈ ev_ws := ev_mp 31 (by decide +kernel) rfl
abbrev M_X_costParted : ev_M := (⟨"AlikeStore", "costParted", "(III)I"⟩, prog_1_method_69_code, 6, some .int)
set_option maxRecDepth 100000 in
theorem M_X_costParted_ok : ev_ok M_X_costParted 3 := ⟨ev_m 944 (by decide +kernel) rfl, ev_m 1 (by decide +kernel) rfl, by decide +kernel, ⟨by decide +kernel, by decide +kernel⟩, by decide +kernel, by decide +kernel⟩
set_option maxRecDepth 100000 in
theorem M_X_costParted_in : Cond.instanceMethod M_X_costParted.1 ∈ ev_ws := ev_m 943 (by decide +kernel) rfl
set_option maxRecDepth 100000 in
theorem M_X_costParted_se : Cond.selects M_X_costParted.1.cls M_X_costParted.1 M_X_costParted.1 ∈ ev_ws := ev_mp 32 (by decide +kernel) rfl
abbrev M_Mo_init : ev_M := (⟨"AlikeStoreModel", "<init>", "()V"⟩, prog_11_method_1_code, 1, none)
set_option maxRecDepth 100000 in
theorem M_Mo_init_ok : ev_ok M_Mo_init 0 := ⟨ev_m 957 (by decide +kernel) rfl, ev_m 9 (by decide +kernel) rfl, by decide +kernel, ⟨by decide +kernel, by decide +kernel⟩, by decide +kernel, by decide +kernel⟩
set_option maxRecDepth 100000 in
theorem M_Mo_init_in : Cond.instanceMethod M_Mo_init.1 ∈ ev_ws := ev_m 956 (by decide +kernel) rfl
abbrev M_Mo_status : ev_M := (⟨"AlikeStoreModel", "status", "()I"⟩, prog_11_method_2_code, 1, some .int)
set_option maxRecDepth 100000 in
theorem M_Mo_status_ok : ev_ok M_Mo_status 0 := ⟨ev_m 1053 (by decide +kernel) rfl, ev_m 9 (by decide +kernel) rfl, by decide +kernel, ⟨by decide +kernel, by decide +kernel⟩, by decide +kernel, by decide +kernel⟩
set_option maxRecDepth 100000 in
theorem M_Mo_status_in : Cond.instanceMethod M_Mo_status.1 ∈ ev_ws := ev_m 1051 (by decide +kernel) rfl
set_option maxRecDepth 100000 in
theorem M_Mo_status_se : Cond.selects M_Mo_status.1.cls M_Mo_status.1 M_Mo_status.1 ∈ ev_ws := ev_m 1052 (by decide +kernel) rfl
abbrev M_Mo_refuse : ev_M := (⟨"AlikeStoreModel", "refuse", "(I)I"⟩, prog_11_method_3_code, 2, some .int)
set_option maxRecDepth 100000 in
theorem M_Mo_refuse_ok : ev_ok M_Mo_refuse 1 := ⟨ev_m 1072 (by decide +kernel) rfl, ev_m 9 (by decide +kernel) rfl, by decide +kernel, ⟨by decide +kernel, by decide +kernel⟩, by decide +kernel, by decide +kernel⟩
set_option maxRecDepth 100000 in
theorem M_Mo_refuse_in : Cond.instanceMethod M_Mo_refuse.1 ∈ ev_ws := ev_m 1071 (by decide +kernel) rfl
set_option maxRecDepth 100000 in
theorem M_Mo_refuse_se : Cond.selects M_Mo_refuse.1.cls M_Mo_refuse.1 M_Mo_refuse.1 ∈ ev_ws := ev_mp 38 (by decide +kernel) rfl
abbrev M_Mo_gives_I : ev_M := (⟨"AlikeStoreModel", "gives", "(I)I"⟩, prog_11_method_4_code, 2, some .int)
set_option maxRecDepth 100000 in
theorem M_Mo_gives_I_ok : ev_ok M_Mo_gives_I 1 := ⟨ev_m 1204 (by decide +kernel) rfl, ev_m 9 (by decide +kernel) rfl, by decide +kernel, ⟨by decide +kernel, by decide +kernel⟩, by decide +kernel, by decide +kernel⟩
set_option maxRecDepth 100000 in
theorem M_Mo_gives_I_in : Cond.instanceMethod M_Mo_gives_I.1 ∈ ev_ws := ev_m 1203 (by decide +kernel) rfl
set_option maxRecDepth 100000 in
theorem M_Mo_gives_I_se : Cond.selects M_Mo_gives_I.1.cls M_Mo_gives_I.1 M_Mo_gives_I.1 ∈ ev_ws := ev_mp 68 (by decide +kernel) rfl
abbrev M_Mo_gives_J : ev_M := (⟨"AlikeStoreModel", "gives", "(J)J"⟩, prog_11_method_5_code, 3, some .long)
set_option maxRecDepth 100000 in
theorem M_Mo_gives_J_ok : ev_ok M_Mo_gives_J 1 := ⟨ev_m 1251 (by decide +kernel) rfl, ev_m 9 (by decide +kernel) rfl, by decide +kernel, ⟨by decide +kernel, by decide +kernel⟩, by decide +kernel, by decide +kernel⟩
set_option maxRecDepth 100000 in
theorem M_Mo_gives_J_in : Cond.instanceMethod M_Mo_gives_J.1 ∈ ev_ws := ev_m 1250 (by decide +kernel) rfl
set_option maxRecDepth 100000 in
theorem M_Mo_gives_J_se : Cond.selects M_Mo_gives_J.1.cls M_Mo_gives_J.1 M_Mo_gives_J.1 ∈ ev_ws := ev_mp 75 (by decide +kernel) rfl
abbrev M_Mo_isFrom : ev_M := (⟨"AlikeStoreModel", "isFrom", "(JJJ)Z"⟩, prog_11_method_6_code, 6, some .boolean)
set_option maxRecDepth 100000 in
theorem M_Mo_isFrom_ok : ev_ok M_Mo_isFrom 3 := ⟨ev_m 1068 (by decide +kernel) rfl, ev_m 9 (by decide +kernel) rfl, by decide +kernel, ⟨by decide +kernel, by decide +kernel⟩, by decide +kernel, by decide +kernel⟩
set_option maxRecDepth 100000 in
theorem M_Mo_isFrom_st : Cond.static M_Mo_isFrom.1 ∈ ev_ws := ev_m 1067 (by decide +kernel) rfl
abbrev M_Mo_has : ev_M := (⟨"AlikeStoreModel", "has", "(JI)Z"⟩, prog_11_method_7_code, 3, some .boolean)
set_option maxRecDepth 100000 in
theorem M_Mo_has_ok : ev_ok M_Mo_has 2 := ⟨ev_m 1286 (by decide +kernel) rfl, ev_m 9 (by decide +kernel) rfl, by decide +kernel, ⟨by decide +kernel, by decide +kernel⟩, by decide +kernel, by decide +kernel⟩
set_option maxRecDepth 100000 in
theorem M_Mo_has_st : Cond.static M_Mo_has.1 ∈ ev_ws := ev_m 1285 (by decide +kernel) rfl
abbrev M_Mo_ones_J : ev_M := (⟨"AlikeStoreModel", "ones", "(J)I"⟩, prog_11_method_8_code, 5, some .int)
set_option maxRecDepth 100000 in
theorem M_Mo_ones_J_ok : ev_ok M_Mo_ones_J 1 := ⟨ev_m 1228 (by decide +kernel) rfl, ev_m 9 (by decide +kernel) rfl, by decide +kernel, ⟨by decide +kernel, by decide +kernel⟩, by decide +kernel, by decide +kernel⟩
set_option maxRecDepth 100000 in
theorem M_Mo_ones_J_st : Cond.static M_Mo_ones_J.1 ∈ ev_ws := ev_m 1227 (by decide +kernel) rfl
abbrev M_Mo_of : ev_M := (⟨"AlikeStoreModel", "of", "(I)J"⟩, prog_11_method_9_code, 2, some .long)
set_option maxRecDepth 100000 in
theorem M_Mo_of_ok : ev_ok M_Mo_of 1 := ⟨ev_m 976 (by decide +kernel) rfl, ev_m 9 (by decide +kernel) rfl, by decide +kernel, ⟨by decide +kernel, by decide +kernel⟩, by decide +kernel, by decide +kernel⟩
set_option maxRecDepth 100000 in
theorem M_Mo_of_in : Cond.instanceMethod M_Mo_of.1 ∈ ev_ws := ev_m 975 (by decide +kernel) rfl
set_option maxRecDepth 100000 in
theorem M_Mo_of_se : Cond.selects M_Mo_of.1.cls M_Mo_of.1 M_Mo_of.1 ∈ ev_ws := ev_mp 36 (by decide +kernel) rfl
abbrev M_Mo_puts : ev_M := (⟨"AlikeStoreModel", "puts", "(IJ)V"⟩, prog_11_method_10_code, 4, none)
set_option maxRecDepth 100000 in
theorem M_Mo_puts_ok : ev_ok M_Mo_puts 2 := ⟨ev_m 967 (by decide +kernel) rfl, ev_m 9 (by decide +kernel) rfl, by decide +kernel, ⟨by decide +kernel, by decide +kernel⟩, by decide +kernel, by decide +kernel⟩
set_option maxRecDepth 100000 in
theorem M_Mo_puts_in : Cond.instanceMethod M_Mo_puts.1 ∈ ev_ws := ev_m 966 (by decide +kernel) rfl
set_option maxRecDepth 100000 in
theorem M_Mo_puts_se : Cond.selects M_Mo_puts.1.cls M_Mo_puts.1 M_Mo_puts.1 ∈ ev_ws := ev_mp 34 (by decide +kernel) rfl
abbrev M_Mo_copies : ev_M := (⟨"AlikeStoreModel", "copies", "(II)V"⟩, prog_11_method_11_code, 4, none)
set_option maxRecDepth 100000 in
theorem M_Mo_copies_ok : ev_ok M_Mo_copies 2 := ⟨ev_m 1076 (by decide +kernel) rfl, ev_m 9 (by decide +kernel) rfl, by decide +kernel, ⟨by decide +kernel, by decide +kernel⟩, by decide +kernel, by decide +kernel⟩
set_option maxRecDepth 100000 in
theorem M_Mo_copies_in : Cond.instanceMethod M_Mo_copies.1 ∈ ev_ws := ev_m 1075 (by decide +kernel) rfl
set_option maxRecDepth 100000 in
theorem M_Mo_copies_se : Cond.selects M_Mo_copies.1.cls M_Mo_copies.1 M_Mo_copies.1 ∈ ev_ws := ev_mp 39 (by decide +kernel) rfl
abbrev M_Mo_halves : ev_M := (⟨"AlikeStoreModel", "halves", "()V"⟩, prog_11_method_12_code, 1, none)
set_option maxRecDepth 100000 in
theorem M_Mo_halves_ok : ev_ok M_Mo_halves 0 := ⟨ev_m 971 (by decide +kernel) rfl, ev_m 9 (by decide +kernel) rfl, by decide +kernel, ⟨by decide +kernel, by decide +kernel⟩, by decide +kernel, by decide +kernel⟩
set_option maxRecDepth 100000 in
theorem M_Mo_halves_in : Cond.instanceMethod M_Mo_halves.1 ∈ ev_ws := ev_m 970 (by decide +kernel) rfl
set_option maxRecDepth 100000 in
theorem M_Mo_halves_se : Cond.selects M_Mo_halves.1.cls M_Mo_halves.1 M_Mo_halves.1 ∈ ev_ws := ev_mp 35 (by decide +kernel) rfl
abbrev M_Mo_begins : ev_M := (⟨"AlikeStoreModel", "begins", "(I)V"⟩, prog_11_method_13_code, 3, none)
set_option maxRecDepth 100000 in
theorem M_Mo_begins_ok : ev_ok M_Mo_begins 1 := ⟨ev_m 963 (by decide +kernel) rfl, ev_m 9 (by decide +kernel) rfl, by decide +kernel, ⟨by decide +kernel, by decide +kernel⟩, by decide +kernel, by decide +kernel⟩
set_option maxRecDepth 100000 in
theorem M_Mo_begins_in : Cond.instanceMethod M_Mo_begins.1 ∈ ev_ws := ev_m 962 (by decide +kernel) rfl
set_option maxRecDepth 100000 in
theorem M_Mo_begins_se : Cond.selects M_Mo_begins.1.cls M_Mo_begins.1 M_Mo_begins.1 ∈ ev_ws := ev_mp 33 (by decide +kernel) rfl
abbrev M_Mo_bits : ev_M := (⟨"AlikeStoreModel", "bits", "()I"⟩, prog_11_method_14_code, 1, some .int)
set_option maxRecDepth 100000 in
theorem M_Mo_bits_ok : ev_ok M_Mo_bits 0 := ⟨ev_m 1135 (by decide +kernel) rfl, ev_m 9 (by decide +kernel) rfl, by decide +kernel, ⟨by decide +kernel, by decide +kernel⟩, by decide +kernel, by decide +kernel⟩
set_option maxRecDepth 100000 in
theorem M_Mo_bits_in : Cond.instanceMethod M_Mo_bits.1 ∈ ev_ws := ev_m 1134 (by decide +kernel) rfl
set_option maxRecDepth 100000 in
theorem M_Mo_bits_se : Cond.selects M_Mo_bits.1.cls M_Mo_bits.1 M_Mo_bits.1 ∈ ev_ws := ev_mp 51 (by decide +kernel) rfl
abbrev M_Mo_parts : ev_M := (⟨"AlikeStoreModel", "parts", "()I"⟩, prog_11_method_15_code, 1, some .int)
set_option maxRecDepth 100000 in
theorem M_Mo_parts_ok : ev_ok M_Mo_parts 0 := ⟨ev_m 1131 (by decide +kernel) rfl, ev_m 9 (by decide +kernel) rfl, by decide +kernel, ⟨by decide +kernel, by decide +kernel⟩, by decide +kernel, by decide +kernel⟩
set_option maxRecDepth 100000 in
theorem M_Mo_parts_in : Cond.instanceMethod M_Mo_parts.1 ∈ ev_ws := ev_m 1130 (by decide +kernel) rfl
set_option maxRecDepth 100000 in
theorem M_Mo_parts_se : Cond.selects M_Mo_parts.1.cls M_Mo_parts.1 M_Mo_parts.1 ∈ ev_ws := ev_mp 50 (by decide +kernel) rfl
abbrev M_Mo_many_0 : ev_M := (⟨"AlikeStoreModel", "many", "()I"⟩, prog_11_method_16_code, 1, some .int)
set_option maxRecDepth 100000 in
theorem M_Mo_many_0_ok : ev_ok M_Mo_many_0 0 := ⟨ev_m 1147 (by decide +kernel) rfl, ev_m 9 (by decide +kernel) rfl, by decide +kernel, ⟨by decide +kernel, by decide +kernel⟩, by decide +kernel, by decide +kernel⟩
set_option maxRecDepth 100000 in
theorem M_Mo_many_0_in : Cond.instanceMethod M_Mo_many_0.1 ∈ ev_ws := ev_m 1146 (by decide +kernel) rfl
set_option maxRecDepth 100000 in
theorem M_Mo_many_0_se : Cond.selects M_Mo_many_0.1.cls M_Mo_many_0.1 M_Mo_many_0.1 ∈ ev_ws := ev_mp 54 (by decide +kernel) rfl
abbrev M_Mo_breadthOf : ev_M := (⟨"AlikeStoreModel", "breadthOf", "(I)I"⟩, prog_11_method_17_code, 2, some .int)
set_option maxRecDepth 100000 in
theorem M_Mo_breadthOf_ok : ev_ok M_Mo_breadthOf 1 := ⟨ev_m 1236 (by decide +kernel) rfl, ev_m 9 (by decide +kernel) rfl, by decide +kernel, ⟨by decide +kernel, by decide +kernel⟩, by decide +kernel, by decide +kernel⟩
set_option maxRecDepth 100000 in
theorem M_Mo_breadthOf_in : Cond.instanceMethod M_Mo_breadthOf.1 ∈ ev_ws := ev_m 1235 (by decide +kernel) rfl
set_option maxRecDepth 100000 in
theorem M_Mo_breadthOf_se : Cond.selects M_Mo_breadthOf.1.cls M_Mo_breadthOf.1 M_Mo_breadthOf.1 ∈ ev_ws := ev_mp 73 (by decide +kernel) rfl
abbrev M_Mo_isCode : ev_M := (⟨"AlikeStoreModel", "isCode", "(I)Z"⟩, prog_11_method_18_code, 2, some .boolean)
set_option maxRecDepth 100000 in
theorem M_Mo_isCode_ok : ev_ok M_Mo_isCode 1 := ⟨ev_m 1247 (by decide +kernel) rfl, ev_m 9 (by decide +kernel) rfl, by decide +kernel, ⟨by decide +kernel, by decide +kernel⟩, by decide +kernel, by decide +kernel⟩
set_option maxRecDepth 100000 in
theorem M_Mo_isCode_in : Cond.instanceMethod M_Mo_isCode.1 ∈ ev_ws := ev_m 1246 (by decide +kernel) rfl
set_option maxRecDepth 100000 in
theorem M_Mo_isCode_se : Cond.selects M_Mo_isCode.1.cls M_Mo_isCode.1 M_Mo_isCode.1 ∈ ev_ws := ev_mp 74 (by decide +kernel) rfl
abbrev M_Mo_isPart : ev_M := (⟨"AlikeStoreModel", "isPart", "(I)Z"⟩, prog_11_method_19_code, 2, some .boolean)
set_option maxRecDepth 100000 in
theorem M_Mo_isPart_ok : ev_ok M_Mo_isPart 1 := ⟨ev_m 1263 (by decide +kernel) rfl, ev_m 9 (by decide +kernel) rfl, by decide +kernel, ⟨by decide +kernel, by decide +kernel⟩, by decide +kernel, by decide +kernel⟩
set_option maxRecDepth 100000 in
theorem M_Mo_isPart_in : Cond.instanceMethod M_Mo_isPart.1 ∈ ev_ws := ev_m 1262 (by decide +kernel) rfl
set_option maxRecDepth 100000 in
theorem M_Mo_isPart_se : Cond.selects M_Mo_isPart.1.cls M_Mo_isPart.1 M_Mo_isPart.1 ∈ ev_ws := ev_mp 76 (by decide +kernel) rfl
abbrev M_Mo_isNumber : ev_M := (⟨"AlikeStoreModel", "isNumber", "(J)Z"⟩, prog_11_method_20_code, 3, some .boolean)
set_option maxRecDepth 100000 in
theorem M_Mo_isNumber_ok : ev_ok M_Mo_isNumber 1 := ⟨ev_m 1275 (by decide +kernel) rfl, ev_m 9 (by decide +kernel) rfl, by decide +kernel, ⟨by decide +kernel, by decide +kernel⟩, by decide +kernel, by decide +kernel⟩
set_option maxRecDepth 100000 in
theorem M_Mo_isNumber_in : Cond.instanceMethod M_Mo_isNumber.1 ∈ ev_ws := ev_m 1274 (by decide +kernel) rfl
set_option maxRecDepth 100000 in
theorem M_Mo_isNumber_se : Cond.selects M_Mo_isNumber.1.cls M_Mo_isNumber.1 M_Mo_isNumber.1 ∈ ev_ws := ev_mp 77 (by decide +kernel) rfl
abbrev M_Mo_isBit : ev_M := (⟨"AlikeStoreModel", "isBit", "(I)Z"⟩, prog_11_method_21_code, 2, some .boolean)
set_option maxRecDepth 100000 in
theorem M_Mo_isBit_ok : ev_ok M_Mo_isBit 1 := ⟨ev_m 1310 (by decide +kernel) rfl, ev_m 9 (by decide +kernel) rfl, by decide +kernel, ⟨by decide +kernel, by decide +kernel⟩, by decide +kernel, by decide +kernel⟩
set_option maxRecDepth 100000 in
theorem M_Mo_isBit_in : Cond.instanceMethod M_Mo_isBit.1 ∈ ev_ws := ev_m 1309 (by decide +kernel) rfl
set_option maxRecDepth 100000 in
theorem M_Mo_isBit_se : Cond.selects M_Mo_isBit.1.cls M_Mo_isBit.1 M_Mo_isBit.1 ∈ ev_ws := ev_mp 78 (by decide +kernel) rfl
abbrev M_Mo_isRadius : ev_M := (⟨"AlikeStoreModel", "isRadius", "(I)Z"⟩, prog_11_method_22_code, 2, some .boolean)
set_option maxRecDepth 100000 in
theorem M_Mo_isRadius_ok : ev_ok M_Mo_isRadius 1 := ⟨ev_m 1351 (by decide +kernel) rfl, ev_m 9 (by decide +kernel) rfl, by decide +kernel, ⟨by decide +kernel, by decide +kernel⟩, by decide +kernel, by decide +kernel⟩
set_option maxRecDepth 100000 in
theorem M_Mo_isRadius_in : Cond.instanceMethod M_Mo_isRadius.1 ∈ ev_ws := ev_m 1350 (by decide +kernel) rfl
set_option maxRecDepth 100000 in
theorem M_Mo_isRadius_se : Cond.selects M_Mo_isRadius.1.cls M_Mo_isRadius.1 M_Mo_isRadius.1 ∈ ev_ws := ev_mp 79 (by decide +kernel) rfl
abbrev M_Mo_codeOf : ev_M := (⟨"AlikeStoreModel", "codeOf", "(I)J"⟩, prog_11_method_23_code, 2, some .long)
set_option maxRecDepth 100000 in
theorem M_Mo_codeOf_ok : ev_ok M_Mo_codeOf 1 := ⟨ev_m 1159 (by decide +kernel) rfl, ev_m 9 (by decide +kernel) rfl, by decide +kernel, ⟨by decide +kernel, by decide +kernel⟩, by decide +kernel, by decide +kernel⟩
set_option maxRecDepth 100000 in
theorem M_Mo_codeOf_in : Cond.instanceMethod M_Mo_codeOf.1 ∈ ev_ws := ev_m 1158 (by decide +kernel) rfl
set_option maxRecDepth 100000 in
theorem M_Mo_codeOf_se : Cond.selects M_Mo_codeOf.1.cls M_Mo_codeOf.1 M_Mo_codeOf.1 ∈ ev_ws := ev_mp 57 (by decide +kernel) rfl
abbrev M_Mo_keyOf : ev_M := (⟨"AlikeStoreModel", "keyOf", "(JI)J"⟩, prog_11_method_24_code, 6, some .long)
set_option maxRecDepth 100000 in
theorem M_Mo_keyOf_ok : ev_ok M_Mo_keyOf 2 := ⟨ev_m 1232 (by decide +kernel) rfl, ev_m 9 (by decide +kernel) rfl, by decide +kernel, ⟨by decide +kernel, by decide +kernel⟩, by decide +kernel, by decide +kernel⟩
set_option maxRecDepth 100000 in
theorem M_Mo_keyOf_in : Cond.instanceMethod M_Mo_keyOf.1 ∈ ev_ws := ev_m 1231 (by decide +kernel) rfl
set_option maxRecDepth 100000 in
theorem M_Mo_keyOf_se : Cond.selects M_Mo_keyOf.1.cls M_Mo_keyOf.1 M_Mo_keyOf.1 ∈ ev_ws := ev_mp 72 (by decide +kernel) rfl
abbrev M_Mo_valueOf : ev_M := (⟨"AlikeStoreModel", "valueOf", "(IIJ)J"⟩, prog_11_method_25_code, 5, some .long)
set_option maxRecDepth 100000 in
theorem M_Mo_valueOf_ok : ev_ok M_Mo_valueOf 3 := ⟨ev_m 1225 (by decide +kernel) rfl, ev_m 9 (by decide +kernel) rfl, by decide +kernel, ⟨by decide +kernel, by decide +kernel⟩, by decide +kernel, by decide +kernel⟩
set_option maxRecDepth 100000 in
theorem M_Mo_valueOf_in : Cond.instanceMethod M_Mo_valueOf.1 ∈ ev_ws := ev_m 1224 (by decide +kernel) rfl
set_option maxRecDepth 100000 in
theorem M_Mo_valueOf_se : Cond.selects M_Mo_valueOf.1.cls M_Mo_valueOf.1 M_Mo_valueOf.1 ∈ ev_ws := ev_mp 71 (by decide +kernel) rfl
abbrev M_Mo_two : ev_M := (⟨"AlikeStoreModel", "two", "(IJJ)J"⟩, prog_11_method_26_code, 5, some .long)
set_option maxRecDepth 100000 in
theorem M_Mo_two_ok : ev_ok M_Mo_two 3 := ⟨ev_m 1239 (by decide +kernel) rfl, ev_m 9 (by decide +kernel) rfl, by decide +kernel, ⟨by decide +kernel, by decide +kernel⟩, by decide +kernel, by decide +kernel⟩
set_option maxRecDepth 100000 in
theorem M_Mo_two_st : Cond.static M_Mo_two.1 ∈ ev_ws := ev_m 1238 (by decide +kernel) rfl
abbrev M_Mo_isCounting : ev_M := (⟨"AlikeStoreModel", "isCounting", "(I)Z"⟩, prog_11_method_27_code, 5, some .boolean)
set_option maxRecDepth 100000 in
theorem M_Mo_isCounting_ok : ev_ok M_Mo_isCounting 1 := ⟨ev_m 1220 (by decide +kernel) rfl, ev_m 9 (by decide +kernel) rfl, by decide +kernel, ⟨by decide +kernel, by decide +kernel⟩, by decide +kernel, by decide +kernel⟩
set_option maxRecDepth 100000 in
theorem M_Mo_isCounting_in : Cond.instanceMethod M_Mo_isCounting.1 ∈ ev_ws := ev_m 1219 (by decide +kernel) rfl
set_option maxRecDepth 100000 in
theorem M_Mo_isCounting_se : Cond.selects M_Mo_isCounting.1.cls M_Mo_isCounting.1 M_Mo_isCounting.1 ∈ ev_ws := ev_mp 70 (by decide +kernel) rfl
abbrev M_Mo_counting : ev_M := (⟨"AlikeStoreModel", "counting", "()J"⟩, prog_11_method_28_code, 4, some .long)
set_option maxRecDepth 100000 in
theorem M_Mo_counting_ok : ev_ok M_Mo_counting 0 := ⟨ev_m 1216 (by decide +kernel) rfl, ev_m 9 (by decide +kernel) rfl, by decide +kernel, ⟨by decide +kernel, by decide +kernel⟩, by decide +kernel, by decide +kernel⟩
set_option maxRecDepth 100000 in
theorem M_Mo_counting_in : Cond.instanceMethod M_Mo_counting.1 ∈ ev_ws := ev_m 1215 (by decide +kernel) rfl
set_option maxRecDepth 100000 in
theorem M_Mo_counting_se : Cond.selects M_Mo_counting.1.cls M_Mo_counting.1 M_Mo_counting.1 ∈ ev_ws := ev_mp 69 (by decide +kernel) rfl
abbrev M_Mo_feed : ev_M := (⟨"AlikeStoreModel", "feed", "(IIIII)I"⟩, prog_11_method_29_code, 6, some .int)
set_option maxRecDepth 100000 in
theorem M_Mo_feed_ok : ev_ok M_Mo_feed 5 := ⟨ev_m 1057 (by decide +kernel) rfl, ev_m 9 (by decide +kernel) rfl, by decide +kernel, ⟨by decide +kernel, by decide +kernel⟩, by decide +kernel, by decide +kernel⟩
set_option maxRecDepth 100000 in
theorem M_Mo_feed_in : Cond.instanceMethod M_Mo_feed.1 ∈ ev_ws := ev_m 1055 (by decide +kernel) rfl
set_option maxRecDepth 100000 in
theorem M_Mo_feed_se : Cond.selects M_Mo_feed.1.cls M_Mo_feed.1 M_Mo_feed.1 ∈ ev_ws := ev_m 1056 (by decide +kernel) rfl
abbrev M_Mo_four : ev_M := (⟨"AlikeStoreModel", "four", "(I)V"⟩, prog_11_method_30_code, 3, none)
set_option maxRecDepth 100000 in
theorem M_Mo_four_ok : ev_ok M_Mo_four 1 := ⟨ev_m 1061 (by decide +kernel) rfl, ev_m 9 (by decide +kernel) rfl, by decide +kernel, ⟨by decide +kernel, by decide +kernel⟩, by decide +kernel, by decide +kernel⟩
set_option maxRecDepth 100000 in
theorem M_Mo_four_in : Cond.instanceMethod M_Mo_four.1 ∈ ev_ws := ev_m 1060 (by decide +kernel) rfl
set_option maxRecDepth 100000 in
theorem M_Mo_four_se : Cond.selects M_Mo_four.1.cls M_Mo_four.1 M_Mo_four.1 ∈ ev_ws := ev_mp 37 (by decide +kernel) rfl
abbrev M_Mo_byteAt : ev_M := (⟨"AlikeStoreModel", "byteAt", "(I)I"⟩, prog_11_method_31_code, 2, some .int)
set_option maxRecDepth 100000 in
theorem M_Mo_byteAt_ok : ev_ok M_Mo_byteAt 1 := ⟨ev_m 1084 (by decide +kernel) rfl, ev_m 9 (by decide +kernel) rfl, by decide +kernel, ⟨by decide +kernel, by decide +kernel⟩, by decide +kernel, by decide +kernel⟩
set_option maxRecDepth 100000 in
theorem M_Mo_byteAt_in : Cond.instanceMethod M_Mo_byteAt.1 ∈ ev_ws := ev_m 1083 (by decide +kernel) rfl
set_option maxRecDepth 100000 in
theorem M_Mo_byteAt_se : Cond.selects M_Mo_byteAt.1.cls M_Mo_byteAt.1 M_Mo_byteAt.1 ∈ ev_ws := ev_mp 41 (by decide +kernel) rfl
abbrev M_Mo_isSmall : ev_M := (⟨"AlikeStoreModel", "isSmall", "(I)Z"⟩, prog_11_method_32_code, 1, some .boolean)
set_option maxRecDepth 100000 in
theorem M_Mo_isSmall_ok : ev_ok M_Mo_isSmall 1 := ⟨ev_m 1087 (by decide +kernel) rfl, ev_m 9 (by decide +kernel) rfl, by decide +kernel, ⟨by decide +kernel, by decide +kernel⟩, by decide +kernel, by decide +kernel⟩
set_option maxRecDepth 100000 in
theorem M_Mo_isSmall_st : Cond.static M_Mo_isSmall.1 ∈ ev_ws := ev_m 1086 (by decide +kernel) rfl
abbrev M_Mo_isDigit : ev_M := (⟨"AlikeStoreModel", "isDigit", "(I)Z"⟩, prog_11_method_33_code, 1, some .boolean)
set_option maxRecDepth 100000 in
theorem M_Mo_isDigit_ok : ev_ok M_Mo_isDigit 1 := ⟨ev_m 1090 (by decide +kernel) rfl, ev_m 9 (by decide +kernel) rfl, by decide +kernel, ⟨by decide +kernel, by decide +kernel⟩, by decide +kernel, by decide +kernel⟩
set_option maxRecDepth 100000 in
theorem M_Mo_isDigit_st : Cond.static M_Mo_isDigit.1 ∈ ev_ws := ev_m 1089 (by decide +kernel) rfl
abbrev M_Mo_ahead : ev_M := (⟨"AlikeStoreModel", "ahead", "()V"⟩, prog_11_method_34_code, 2, none)
set_option maxRecDepth 100000 in
theorem M_Mo_ahead_ok : ev_ok M_Mo_ahead 0 := ⟨ev_m 1080 (by decide +kernel) rfl, ev_m 9 (by decide +kernel) rfl, by decide +kernel, ⟨by decide +kernel, by decide +kernel⟩, by decide +kernel, by decide +kernel⟩
set_option maxRecDepth 100000 in
theorem M_Mo_ahead_in : Cond.instanceMethod M_Mo_ahead.1 ∈ ev_ws := ev_m 1079 (by decide +kernel) rfl
set_option maxRecDepth 100000 in
theorem M_Mo_ahead_se : Cond.selects M_Mo_ahead.1.cls M_Mo_ahead.1 M_Mo_ahead.1 ∈ ev_ws := ev_mp 40 (by decide +kernel) rfl
abbrev M_Mo_key_0 : ev_M := (⟨"AlikeStoreModel", "key", "()I"⟩, prog_11_method_35_code, 6, some .int)
set_option maxRecDepth 100000 in
theorem M_Mo_key_0_ok : ev_ok M_Mo_key_0 0 := ⟨ev_m 1094 (by decide +kernel) rfl, ev_m 9 (by decide +kernel) rfl, by decide +kernel, ⟨by decide +kernel, by decide +kernel⟩, by decide +kernel, by decide +kernel⟩
set_option maxRecDepth 100000 in
theorem M_Mo_key_0_in : Cond.instanceMethod M_Mo_key_0.1 ∈ ev_ws := ev_m 1093 (by decide +kernel) rfl
set_option maxRecDepth 100000 in
theorem M_Mo_key_0_se : Cond.selects M_Mo_key_0.1.cls M_Mo_key_0.1 M_Mo_key_0.1 ∈ ev_ws := ev_mp 42 (by decide +kernel) rfl
abbrev M_Mo_fails : ev_M := (⟨"AlikeStoreModel", "fails", "(I)Z"⟩, prog_11_method_36_code, 2, some .boolean)
set_option maxRecDepth 100000 in
theorem M_Mo_fails_ok : ev_ok M_Mo_fails 1 := ⟨ev_m 1109 (by decide +kernel) rfl, ev_m 9 (by decide +kernel) rfl, by decide +kernel, ⟨by decide +kernel, by decide +kernel⟩, by decide +kernel, by decide +kernel⟩
set_option maxRecDepth 100000 in
theorem M_Mo_fails_in : Cond.instanceMethod M_Mo_fails.1 ∈ ev_ws := ev_m 1108 (by decide +kernel) rfl
set_option maxRecDepth 100000 in
theorem M_Mo_fails_se : Cond.selects M_Mo_fails.1.cls M_Mo_fails.1 M_Mo_fails.1 ∈ ev_ws := ev_mp 45 (by decide +kernel) rfl
abbrev M_Mo_takes : ev_M := (⟨"AlikeStoreModel", "takes", "()Z"⟩, prog_11_method_37_code, 1, some .boolean)
set_option maxRecDepth 100000 in
theorem M_Mo_takes_ok : ev_ok M_Mo_takes 0 := ⟨ev_m 1123 (by decide +kernel) rfl, ev_m 9 (by decide +kernel) rfl, by decide +kernel, ⟨by decide +kernel, by decide +kernel⟩, by decide +kernel, by decide +kernel⟩
set_option maxRecDepth 100000 in
theorem M_Mo_takes_in : Cond.instanceMethod M_Mo_takes.1 ∈ ev_ws := ev_m 1122 (by decide +kernel) rfl
set_option maxRecDepth 100000 in
theorem M_Mo_takes_se : Cond.selects M_Mo_takes.1.cls M_Mo_takes.1 M_Mo_takes.1 ∈ ev_ws := ev_mp 48 (by decide +kernel) rfl
abbrev M_Mo_isSign : ev_M := (⟨"AlikeStoreModel", "isSign", "(I)Z"⟩, prog_11_method_38_code, 2, some .boolean)
set_option maxRecDepth 100000 in
theorem M_Mo_isSign_ok : ev_ok M_Mo_isSign 1 := ⟨ev_m 1119 (by decide +kernel) rfl, ev_m 9 (by decide +kernel) rfl, by decide +kernel, ⟨by decide +kernel, by decide +kernel⟩, by decide +kernel, by decide +kernel⟩
set_option maxRecDepth 100000 in
theorem M_Mo_isSign_in : Cond.instanceMethod M_Mo_isSign.1 ∈ ev_ws := ev_m 1118 (by decide +kernel) rfl
set_option maxRecDepth 100000 in
theorem M_Mo_isSign_se : Cond.selects M_Mo_isSign.1.cls M_Mo_isSign.1 M_Mo_isSign.1 ∈ ev_ws := ev_mp 47 (by decide +kernel) rfl
abbrev M_Mo_takesSign : ev_M := (⟨"AlikeStoreModel", "takesSign", "(I)Z"⟩, prog_11_method_39_code, 2, some .boolean)
set_option maxRecDepth 100000 in
theorem M_Mo_takesSign_ok : ev_ok M_Mo_takesSign 1 := ⟨ev_m 1115 (by decide +kernel) rfl, ev_m 9 (by decide +kernel) rfl, by decide +kernel, ⟨by decide +kernel, by decide +kernel⟩, by decide +kernel, by decide +kernel⟩
set_option maxRecDepth 100000 in
theorem M_Mo_takesSign_in : Cond.instanceMethod M_Mo_takesSign.1 ∈ ev_ws := ev_m 1114 (by decide +kernel) rfl
set_option maxRecDepth 100000 in
theorem M_Mo_takesSign_se : Cond.selects M_Mo_takesSign.1.cls M_Mo_takesSign.1 M_Mo_takesSign.1 ∈ ev_ws := ev_mp 46 (by decide +kernel) rfl
abbrev M_Mo_isNumberHere : ev_M := (⟨"AlikeStoreModel", "isNumberHere", "(II)Z"⟩, prog_11_method_40_code, 4, some .boolean)
set_option maxRecDepth 100000 in
theorem M_Mo_isNumberHere_ok : ev_ok M_Mo_isNumberHere 2 := ⟨ev_m 1105 (by decide +kernel) rfl, ev_m 9 (by decide +kernel) rfl, by decide +kernel, ⟨by decide +kernel, by decide +kernel⟩, by decide +kernel, by decide +kernel⟩
set_option maxRecDepth 100000 in
theorem M_Mo_isNumberHere_in : Cond.instanceMethod M_Mo_isNumberHere.1 ∈ ev_ws := ev_m 1104 (by decide +kernel) rfl
set_option maxRecDepth 100000 in
theorem M_Mo_isNumberHere_se : Cond.selects M_Mo_isNumberHere.1.cls M_Mo_isNumberHere.1 M_Mo_isNumberHere.1 ∈ ev_ws := ev_mp 44 (by decide +kernel) rfl
abbrev M_Mo_isBinaryHere : ev_M := (⟨"AlikeStoreModel", "isBinaryHere", "()Z"⟩, prog_11_method_41_code, 2, some .boolean)
set_option maxRecDepth 100000 in
theorem M_Mo_isBinaryHere_ok : ev_ok M_Mo_isBinaryHere 0 := ⟨ev_m 1151 (by decide +kernel) rfl, ev_m 9 (by decide +kernel) rfl, by decide +kernel, ⟨by decide +kernel, by decide +kernel⟩, by decide +kernel, by decide +kernel⟩
set_option maxRecDepth 100000 in
theorem M_Mo_isBinaryHere_in : Cond.instanceMethod M_Mo_isBinaryHere.1 ∈ ev_ws := ev_m 1150 (by decide +kernel) rfl
set_option maxRecDepth 100000 in
theorem M_Mo_isBinaryHere_se : Cond.selects M_Mo_isBinaryHere.1.cls M_Mo_isBinaryHere.1 M_Mo_isBinaryHere.1 ∈ ev_ws := ev_mp 55 (by decide +kernel) rfl
abbrev M_Mo_emits : ev_M := (⟨"AlikeStoreModel", "emits", "(IJ)V"⟩, prog_11_method_42_code, 4, none)
set_option maxRecDepth 100000 in
theorem M_Mo_emits_ok : ev_ok M_Mo_emits 2 := ⟨ev_m 1187 (by decide +kernel) rfl, ev_m 9 (by decide +kernel) rfl, by decide +kernel, ⟨by decide +kernel, by decide +kernel⟩, by decide +kernel, by decide +kernel⟩
set_option maxRecDepth 100000 in
theorem M_Mo_emits_in : Cond.instanceMethod M_Mo_emits.1 ∈ ev_ws := ev_m 1186 (by decide +kernel) rfl
set_option maxRecDepth 100000 in
theorem M_Mo_emits_se : Cond.selects M_Mo_emits.1.cls M_Mo_emits.1 M_Mo_emits.1 ∈ ev_ws := ev_mp 64 (by decide +kernel) rfl
abbrev M_Mo_sinks : ev_M := (⟨"AlikeStoreModel", "sinks", "()Z"⟩, prog_11_method_43_code, 1, some .boolean)
set_option maxRecDepth 100000 in
theorem M_Mo_sinks_ok : ev_ok M_Mo_sinks 0 := ⟨ev_m 1179 (by decide +kernel) rfl, ev_m 9 (by decide +kernel) rfl, by decide +kernel, ⟨by decide +kernel, by decide +kernel⟩, by decide +kernel, by decide +kernel⟩
set_option maxRecDepth 100000 in
theorem M_Mo_sinks_in : Cond.instanceMethod M_Mo_sinks.1 ∈ ev_ws := ev_m 1178 (by decide +kernel) rfl
set_option maxRecDepth 100000 in
theorem M_Mo_sinks_se : Cond.selects M_Mo_sinks.1.cls M_Mo_sinks.1 M_Mo_sinks.1 ∈ ev_ws := ev_mp 62 (by decide +kernel) rfl
abbrev M_Mo_emitsNot : ev_M := (⟨"AlikeStoreModel", "emitsNot", "()Z"⟩, prog_11_method_44_code, 1, some .boolean)
set_option maxRecDepth 100000 in
theorem M_Mo_emitsNot_ok : ev_ok M_Mo_emitsNot 0 := ⟨ev_m 1183 (by decide +kernel) rfl, ev_m 9 (by decide +kernel) rfl, by decide +kernel, ⟨by decide +kernel, by decide +kernel⟩, by decide +kernel, by decide +kernel⟩
set_option maxRecDepth 100000 in
theorem M_Mo_emitsNot_in : Cond.instanceMethod M_Mo_emitsNot.1 ∈ ev_ws := ev_m 1182 (by decide +kernel) rfl
set_option maxRecDepth 100000 in
theorem M_Mo_emitsNot_se : Cond.selects M_Mo_emitsNot.1.cls M_Mo_emitsNot.1 M_Mo_emitsNot.1 ∈ ev_ws := ev_mp 63 (by decide +kernel) rfl
abbrev M_Mo_rises : ev_M := (⟨"AlikeStoreModel", "rises", "()Z"⟩, prog_11_method_45_code, 1, some .boolean)
set_option maxRecDepth 100000 in
theorem M_Mo_rises_ok : ev_ok M_Mo_rises 0 := ⟨ev_m 1191 (by decide +kernel) rfl, ev_m 9 (by decide +kernel) rfl, by decide +kernel, ⟨by decide +kernel, by decide +kernel⟩, by decide +kernel, by decide +kernel⟩
set_option maxRecDepth 100000 in
theorem M_Mo_rises_in : Cond.instanceMethod M_Mo_rises.1 ∈ ev_ws := ev_m 1190 (by decide +kernel) rfl
set_option maxRecDepth 100000 in
theorem M_Mo_rises_se : Cond.selects M_Mo_rises.1.cls M_Mo_rises.1 M_Mo_rises.1 ∈ ev_ws := ev_mp 65 (by decide +kernel) rfl
abbrev M_Mo_test : ev_M := (⟨"AlikeStoreModel", "test", "()Z"⟩, prog_11_method_46_code, 1, some .boolean)
set_option maxRecDepth 100000 in
theorem M_Mo_test_ok : ev_ok M_Mo_test 0 := ⟨ev_m 1167 (by decide +kernel) rfl, ev_m 9 (by decide +kernel) rfl, by decide +kernel, ⟨by decide +kernel, by decide +kernel⟩, by decide +kernel, by decide +kernel⟩
set_option maxRecDepth 100000 in
theorem M_Mo_test_in : Cond.instanceMethod M_Mo_test.1 ∈ ev_ws := ev_m 1166 (by decide +kernel) rfl
set_option maxRecDepth 100000 in
theorem M_Mo_test_se : Cond.selects M_Mo_test.1.cls M_Mo_test.1 M_Mo_test.1 ∈ ev_ws := ev_mp 59 (by decide +kernel) rfl
abbrev M_Mo_side : ev_M := (⟨"AlikeStoreModel", "side", "()Z"⟩, prog_11_method_47_code, 1, some .boolean)
set_option maxRecDepth 100000 in
theorem M_Mo_side_ok : ev_ok M_Mo_side 0 := ⟨ev_m 1171 (by decide +kernel) rfl, ev_m 9 (by decide +kernel) rfl, by decide +kernel, ⟨by decide +kernel, by decide +kernel⟩, by decide +kernel, by decide +kernel⟩
set_option maxRecDepth 100000 in
theorem M_Mo_side_in : Cond.instanceMethod M_Mo_side.1 ∈ ev_ws := ev_m 1170 (by decide +kernel) rfl
set_option maxRecDepth 100000 in
theorem M_Mo_side_se : Cond.selects M_Mo_side.1.cls M_Mo_side.1 M_Mo_side.1 ∈ ev_ws := ev_mp 60 (by decide +kernel) rfl
abbrev M_Mo_valueHere : ev_M := (⟨"AlikeStoreModel", "valueHere", "()Z"⟩, prog_11_method_48_code, 3, some .boolean)
set_option maxRecDepth 100000 in
theorem M_Mo_valueHere_ok : ev_ok M_Mo_valueHere 0 := ⟨ev_m 1195 (by decide +kernel) rfl, ev_m 9 (by decide +kernel) rfl, by decide +kernel, ⟨by decide +kernel, by decide +kernel⟩, by decide +kernel, by decide +kernel⟩
set_option maxRecDepth 100000 in
theorem M_Mo_valueHere_in : Cond.instanceMethod M_Mo_valueHere.1 ∈ ev_ws := ev_m 1194 (by decide +kernel) rfl
set_option maxRecDepth 100000 in
theorem M_Mo_valueHere_se : Cond.selects M_Mo_valueHere.1.cls M_Mo_valueHere.1 M_Mo_valueHere.1 ∈ ev_ws := ev_mp 66 (by decide +kernel) rfl
abbrev M_Mo_fact : ev_M := (⟨"AlikeStoreModel", "fact", "()Z"⟩, prog_11_method_49_code, 2, some .boolean)
set_option maxRecDepth 100000 in
theorem M_Mo_fact_ok : ev_ok M_Mo_fact 0 := ⟨ev_m 1175 (by decide +kernel) rfl, ev_m 9 (by decide +kernel) rfl, by decide +kernel, ⟨by decide +kernel, by decide +kernel⟩, by decide +kernel, by decide +kernel⟩
set_option maxRecDepth 100000 in
theorem M_Mo_fact_in : Cond.instanceMethod M_Mo_fact.1 ∈ ev_ws := ev_m 1174 (by decide +kernel) rfl
set_option maxRecDepth 100000 in
theorem M_Mo_fact_se : Cond.selects M_Mo_fact.1.cls M_Mo_fact.1 M_Mo_fact.1 ∈ ev_ws := ev_mp 61 (by decide +kernel) rfl
abbrev M_Mo_aFilter : ev_M := (⟨"AlikeStoreModel", "aFilter", "()Z"⟩, prog_11_method_50_code, 1, some .boolean)
set_option maxRecDepth 100000 in
theorem M_Mo_aFilter_ok : ev_ok M_Mo_aFilter 0 := ⟨ev_m 1163 (by decide +kernel) rfl, ev_m 9 (by decide +kernel) rfl, by decide +kernel, ⟨by decide +kernel, by decide +kernel⟩, by decide +kernel, by decide +kernel⟩
set_option maxRecDepth 100000 in
theorem M_Mo_aFilter_in : Cond.instanceMethod M_Mo_aFilter.1 ∈ ev_ws := ev_m 1162 (by decide +kernel) rfl
set_option maxRecDepth 100000 in
theorem M_Mo_aFilter_se : Cond.selects M_Mo_aFilter.1.cls M_Mo_aFilter.1 M_Mo_aFilter.1 ∈ ev_ws := ev_mp 58 (by decide +kernel) rfl
abbrev M_Mo_found : ev_M := (⟨"AlikeStoreModel", "found", "(J)I"⟩, prog_11_method_51_code, 4, some .int)
set_option maxRecDepth 100000 in
theorem M_Mo_found_ok : ev_ok M_Mo_found 1 := ⟨ev_m 1155 (by decide +kernel) rfl, ev_m 9 (by decide +kernel) rfl, by decide +kernel, ⟨by decide +kernel, by decide +kernel⟩, by decide +kernel, by decide +kernel⟩
set_option maxRecDepth 100000 in
theorem M_Mo_found_in : Cond.instanceMethod M_Mo_found.1 ∈ ev_ws := ev_m 1154 (by decide +kernel) rfl
set_option maxRecDepth 100000 in
theorem M_Mo_found_se : Cond.selects M_Mo_found.1.cls M_Mo_found.1 M_Mo_found.1 ∈ ev_ws := ev_mp 56 (by decide +kernel) rfl
abbrev M_Mo_aCode : ev_M := (⟨"AlikeStoreModel", "aCode", "()Z"⟩, prog_11_method_52_code, 2, some .boolean)
set_option maxRecDepth 100000 in
theorem M_Mo_aCode_ok : ev_ok M_Mo_aCode 0 := ⟨ev_m 1143 (by decide +kernel) rfl, ev_m 9 (by decide +kernel) rfl, by decide +kernel, ⟨by decide +kernel, by decide +kernel⟩, by decide +kernel, by decide +kernel⟩
set_option maxRecDepth 100000 in
theorem M_Mo_aCode_in : Cond.instanceMethod M_Mo_aCode.1 ∈ ev_ws := ev_m 1142 (by decide +kernel) rfl
set_option maxRecDepth 100000 in
theorem M_Mo_aCode_se : Cond.selects M_Mo_aCode.1.cls M_Mo_aCode.1 M_Mo_aCode.1 ∈ ev_ws := ev_mp 53 (by decide +kernel) rfl
abbrev M_Mo_theBits : ev_M := (⟨"AlikeStoreModel", "theBits", "()Z"⟩, prog_11_method_53_code, 1, some .boolean)
set_option maxRecDepth 100000 in
theorem M_Mo_theBits_ok : ev_ok M_Mo_theBits 0 := ⟨ev_m 1101 (by decide +kernel) rfl, ev_m 9 (by decide +kernel) rfl, by decide +kernel, ⟨by decide +kernel, by decide +kernel⟩, by decide +kernel, by decide +kernel⟩
set_option maxRecDepth 100000 in
theorem M_Mo_theBits_in : Cond.instanceMethod M_Mo_theBits.1 ∈ ev_ws := ev_m 1100 (by decide +kernel) rfl
set_option maxRecDepth 100000 in
theorem M_Mo_theBits_se : Cond.selects M_Mo_theBits.1.cls M_Mo_theBits.1 M_Mo_theBits.1 ∈ ev_ws := ev_mp 43 (by decide +kernel) rfl
abbrev M_Mo_theParts : ev_M := (⟨"AlikeStoreModel", "theParts", "()Z"⟩, prog_11_method_54_code, 2, some .boolean)
set_option maxRecDepth 100000 in
theorem M_Mo_theParts_ok : ev_ok M_Mo_theParts 0 := ⟨ev_m 1127 (by decide +kernel) rfl, ev_m 9 (by decide +kernel) rfl, by decide +kernel, ⟨by decide +kernel, by decide +kernel⟩, by decide +kernel, by decide +kernel⟩
set_option maxRecDepth 100000 in
theorem M_Mo_theParts_in : Cond.instanceMethod M_Mo_theParts.1 ∈ ev_ws := ev_m 1126 (by decide +kernel) rfl
set_option maxRecDepth 100000 in
theorem M_Mo_theParts_se : Cond.selects M_Mo_theParts.1.cls M_Mo_theParts.1 M_Mo_theParts.1 ∈ ev_ws := ev_mp 49 (by decide +kernel) rfl
abbrev M_Mo_aLine : ev_M := (⟨"AlikeStoreModel", "aLine", "()Z"⟩, prog_11_method_55_code, 3, some .boolean)
set_option maxRecDepth 100000 in
theorem M_Mo_aLine_ok : ev_ok M_Mo_aLine 0 := ⟨ev_m 1139 (by decide +kernel) rfl, ev_m 9 (by decide +kernel) rfl, by decide +kernel, ⟨by decide +kernel, by decide +kernel⟩, by decide +kernel, by decide +kernel⟩
set_option maxRecDepth 100000 in
theorem M_Mo_aLine_in : Cond.instanceMethod M_Mo_aLine.1 ∈ ev_ws := ev_m 1138 (by decide +kernel) rfl
set_option maxRecDepth 100000 in
theorem M_Mo_aLine_se : Cond.selects M_Mo_aLine.1.cls M_Mo_aLine.1 M_Mo_aLine.1 ∈ ev_ws := ev_mp 52 (by decide +kernel) rfl
abbrev M_Mo_load : ev_M := (⟨"AlikeStoreModel", "load", "(I)I"⟩, prog_11_method_56_code, 3, some .int)
set_option maxRecDepth 100000 in
theorem M_Mo_load_ok : ev_ok M_Mo_load 1 := ⟨ev_m 1065 (by decide +kernel) rfl, ev_m 9 (by decide +kernel) rfl, by decide +kernel, ⟨by decide +kernel, by decide +kernel⟩, by decide +kernel, by decide +kernel⟩
set_option maxRecDepth 100000 in
theorem M_Mo_load_in : Cond.instanceMethod M_Mo_load.1 ∈ ev_ws := ev_m 1063 (by decide +kernel) rfl
set_option maxRecDepth 100000 in
theorem M_Mo_load_se : Cond.selects M_Mo_load.1.cls M_Mo_load.1 M_Mo_load.1 ∈ ev_ws := ev_m 1064 (by decide +kernel) rfl
abbrev M_Mo_fault : ev_M := (⟨"AlikeStoreModel", "fault", "(I)I"⟩, prog_11_method_57_code, 2, some .int)
set_option maxRecDepth 100000 in
theorem M_Mo_fault_ok : ev_ok M_Mo_fault 1 := ⟨ev_m 1208 (by decide +kernel) rfl, ev_m 9 (by decide +kernel) rfl, by decide +kernel, ⟨by decide +kernel, by decide +kernel⟩, by decide +kernel, by decide +kernel⟩
set_option maxRecDepth 100000 in
theorem M_Mo_fault_in : Cond.instanceMethod M_Mo_fault.1 ∈ ev_ws := ev_m 1206 (by decide +kernel) rfl
set_option maxRecDepth 100000 in
theorem M_Mo_fault_se : Cond.selects M_Mo_fault.1.cls M_Mo_fault.1 M_Mo_fault.1 ∈ ev_ws := ev_m 1207 (by decide +kernel) rfl
abbrev M_Mo_many_I : ev_M := (⟨"AlikeStoreModel", "many", "(I)I"⟩, prog_11_method_58_code, 2, some .int)
set_option maxRecDepth 100000 in
theorem M_Mo_many_I_ok : ev_ok M_Mo_many_I 1 := ⟨ev_m 1212 (by decide +kernel) rfl, ev_m 9 (by decide +kernel) rfl, by decide +kernel, ⟨by decide +kernel, by decide +kernel⟩, by decide +kernel, by decide +kernel⟩
set_option maxRecDepth 100000 in
theorem M_Mo_many_I_in : Cond.instanceMethod M_Mo_many_I.1 ∈ ev_ws := ev_m 1210 (by decide +kernel) rfl
set_option maxRecDepth 100000 in
theorem M_Mo_many_I_se : Cond.selects M_Mo_many_I.1.cls M_Mo_many_I.1 M_Mo_many_I.1 ∈ ev_ws := ev_m 1211 (by decide +kernel) rfl
abbrev M_Mo_code : ev_M := (⟨"AlikeStoreModel", "code", "(I)J"⟩, prog_11_method_59_code, 2, some .long)
set_option maxRecDepth 100000 in
theorem M_Mo_code_ok : ev_ok M_Mo_code 1 := ⟨ev_m 1243 (by decide +kernel) rfl, ev_m 9 (by decide +kernel) rfl, by decide +kernel, ⟨by decide +kernel, by decide +kernel⟩, by decide +kernel, by decide +kernel⟩
set_option maxRecDepth 100000 in
theorem M_Mo_code_in : Cond.instanceMethod M_Mo_code.1 ∈ ev_ws := ev_m 1241 (by decide +kernel) rfl
set_option maxRecDepth 100000 in
theorem M_Mo_code_se : Cond.selects M_Mo_code.1.cls M_Mo_code.1 M_Mo_code.1 ∈ ev_ws := ev_m 1242 (by decide +kernel) rfl
abbrev M_Mo_tagOf : ev_M := (⟨"AlikeStoreModel", "tagOf", "(I)I"⟩, prog_11_method_60_code, 2, some .int)
set_option maxRecDepth 100000 in
theorem M_Mo_tagOf_ok : ev_ok M_Mo_tagOf 1 := ⟨ev_m 1255 (by decide +kernel) rfl, ev_m 9 (by decide +kernel) rfl, by decide +kernel, ⟨by decide +kernel, by decide +kernel⟩, by decide +kernel, by decide +kernel⟩
set_option maxRecDepth 100000 in
theorem M_Mo_tagOf_in : Cond.instanceMethod M_Mo_tagOf.1 ∈ ev_ws := ev_m 1253 (by decide +kernel) rfl
set_option maxRecDepth 100000 in
theorem M_Mo_tagOf_se : Cond.selects M_Mo_tagOf.1.cls M_Mo_tagOf.1 M_Mo_tagOf.1 ∈ ev_ws := ev_m 1254 (by decide +kernel) rfl
abbrev M_Mo_breadth : ev_M := (⟨"AlikeStoreModel", "breadth", "(I)I"⟩, prog_11_method_61_code, 2, some .int)
set_option maxRecDepth 100000 in
theorem M_Mo_breadth_ok : ev_ok M_Mo_breadth 1 := ⟨ev_m 1259 (by decide +kernel) rfl, ev_m 9 (by decide +kernel) rfl, by decide +kernel, ⟨by decide +kernel, by decide +kernel⟩, by decide +kernel, by decide +kernel⟩
set_option maxRecDepth 100000 in
theorem M_Mo_breadth_in : Cond.instanceMethod M_Mo_breadth.1 ∈ ev_ws := ev_m 1257 (by decide +kernel) rfl
set_option maxRecDepth 100000 in
theorem M_Mo_breadth_se : Cond.selects M_Mo_breadth.1.cls M_Mo_breadth.1 M_Mo_breadth.1 ∈ ev_ws := ev_m 1258 (by decide +kernel) rfl
abbrev M_Mo_key_II : ev_M := (⟨"AlikeStoreModel", "key", "(II)I"⟩, prog_11_method_62_code, 3, some .int)
set_option maxRecDepth 100000 in
theorem M_Mo_key_II_ok : ev_ok M_Mo_key_II 2 := ⟨ev_m 1267 (by decide +kernel) rfl, ev_m 9 (by decide +kernel) rfl, by decide +kernel, ⟨by decide +kernel, by decide +kernel⟩, by decide +kernel, by decide +kernel⟩
set_option maxRecDepth 100000 in
theorem M_Mo_key_II_in : Cond.instanceMethod M_Mo_key_II.1 ∈ ev_ws := ev_m 1265 (by decide +kernel) rfl
set_option maxRecDepth 100000 in
theorem M_Mo_key_II_se : Cond.selects M_Mo_key_II.1.cls M_Mo_key_II.1 M_Mo_key_II.1 ∈ ev_ws := ev_m 1266 (by decide +kernel) rfl
abbrev M_Mo_far : ev_M := (⟨"AlikeStoreModel", "far", "(IJ)I"⟩, prog_11_method_63_code, 4, some .int)
set_option maxRecDepth 100000 in
theorem M_Mo_far_ok : ev_ok M_Mo_far 2 := ⟨ev_m 1271 (by decide +kernel) rfl, ev_m 9 (by decide +kernel) rfl, by decide +kernel, ⟨by decide +kernel, by decide +kernel⟩, by decide +kernel, by decide +kernel⟩
set_option maxRecDepth 100000 in
theorem M_Mo_far_in : Cond.instanceMethod M_Mo_far.1 ∈ ev_ws := ev_m 1269 (by decide +kernel) rfl
set_option maxRecDepth 100000 in
theorem M_Mo_far_se : Cond.selects M_Mo_far.1.cls M_Mo_far.1 M_Mo_far.1 ∈ ev_ws := ev_m 1270 (by decide +kernel) rfl
abbrev M_Mo_runs : ev_M := (⟨"AlikeStoreModel", "runs", "(JZ)I"⟩, prog_11_method_64_code, 7, some .int)
set_option maxRecDepth 100000 in
theorem M_Mo_runs_ok : ev_ok M_Mo_runs 2 := ⟨ev_m 1289 (by decide +kernel) rfl, ev_m 9 (by decide +kernel) rfl, by decide +kernel, ⟨by decide +kernel, by decide +kernel⟩, by decide +kernel, by decide +kernel⟩
set_option maxRecDepth 100000 in
theorem M_Mo_runs_st : Cond.static M_Mo_runs.1 ∈ ev_ws := ev_m 1288 (by decide +kernel) rfl
abbrev M_Mo_span : ev_M := (⟨"AlikeStoreModel", "span", "(J)I"⟩, prog_11_method_65_code, 4, some .int)
set_option maxRecDepth 100000 in
theorem M_Mo_span_ok : ev_ok M_Mo_span 1 := ⟨ev_m 1283 (by decide +kernel) rfl, ev_m 9 (by decide +kernel) rfl, by decide +kernel, ⟨by decide +kernel, by decide +kernel⟩, by decide +kernel, by decide +kernel⟩
set_option maxRecDepth 100000 in
theorem M_Mo_span_st : Cond.static M_Mo_span.1 ∈ ev_ws := ev_m 1282 (by decide +kernel) rfl
abbrev M_Mo_measure : ev_M := (⟨"AlikeStoreModel", "measure", "(III)I"⟩, prog_11_method_66_code, 6, some .int)
set_option maxRecDepth 100000 in
theorem M_Mo_measure_ok : ev_ok M_Mo_measure 3 := ⟨ev_m 1279 (by decide +kernel) rfl, ev_m 9 (by decide +kernel) rfl, by decide +kernel, ⟨by decide +kernel, by decide +kernel⟩, by decide +kernel, by decide +kernel⟩
set_option maxRecDepth 100000 in
theorem M_Mo_measure_in : Cond.instanceMethod M_Mo_measure.1 ∈ ev_ws := ev_m 1277 (by decide +kernel) rfl
set_option maxRecDepth 100000 in
theorem M_Mo_measure_se : Cond.selects M_Mo_measure.1.cls M_Mo_measure.1 M_Mo_measure.1 ∈ ev_ws := ev_m 1278 (by decide +kernel) rfl
abbrev M_Mo_find : ev_M := (⟨"AlikeStoreModel", "find", "(J)I"⟩, prog_11_method_67_code, 3, some .int)
set_option maxRecDepth 100000 in
theorem M_Mo_find_ok : ev_ok M_Mo_find 1 := ⟨ev_m 1294 (by decide +kernel) rfl, ev_m 9 (by decide +kernel) rfl, by decide +kernel, ⟨by decide +kernel, by decide +kernel⟩, by decide +kernel, by decide +kernel⟩
set_option maxRecDepth 100000 in
theorem M_Mo_find_in : Cond.instanceMethod M_Mo_find.1 ∈ ev_ws := ev_m 1292 (by decide +kernel) rfl
set_option maxRecDepth 100000 in
theorem M_Mo_find_se : Cond.selects M_Mo_find.1.cls M_Mo_find.1 M_Mo_find.1 ∈ ev_ws := ev_m 1293 (by decide +kernel) rfl
abbrev M_Mo_acted : ev_M := (⟨"AlikeStoreModel", "acted", "(I)V"⟩, prog_11_method_68_code, 3, none)
set_option maxRecDepth 100000 in
theorem M_Mo_acted_ok : ev_ok M_Mo_acted 1 := ⟨ev_m 1200 (by decide +kernel) rfl, ev_m 9 (by decide +kernel) rfl, by decide +kernel, ⟨by decide +kernel, by decide +kernel⟩, by decide +kernel, by decide +kernel⟩
set_option maxRecDepth 100000 in
theorem M_Mo_acted_in : Cond.instanceMethod M_Mo_acted.1 ∈ ev_ws := ev_m 1199 (by decide +kernel) rfl
set_option maxRecDepth 100000 in
theorem M_Mo_acted_se : Cond.selects M_Mo_acted.1.cls M_Mo_acted.1 M_Mo_acted.1 ∈ ev_ws := ev_mp 67 (by decide +kernel) rfl
abbrev M_Mo_add : ev_M := (⟨"AlikeStoreModel", "add", "(J)I"⟩, prog_11_method_69_code, 3, some .int)
set_option maxRecDepth 100000 in
theorem M_Mo_add_ok : ev_ok M_Mo_add 1 := ⟨ev_m 1298 (by decide +kernel) rfl, ev_m 9 (by decide +kernel) rfl, by decide +kernel, ⟨by decide +kernel, by decide +kernel⟩, by decide +kernel, by decide +kernel⟩
set_option maxRecDepth 100000 in
theorem M_Mo_add_in : Cond.instanceMethod M_Mo_add.1 ∈ ev_ws := ev_m 1296 (by decide +kernel) rfl
set_option maxRecDepth 100000 in
theorem M_Mo_add_se : Cond.selects M_Mo_add.1.cls M_Mo_add.1 M_Mo_add.1 ∈ ev_ws := ev_m 1297 (by decide +kernel) rfl
abbrev M_Mo_strike : ev_M := (⟨"AlikeStoreModel", "strike", "(I)I"⟩, prog_11_method_70_code, 3, some .int)
set_option maxRecDepth 100000 in
theorem M_Mo_strike_ok : ev_ok M_Mo_strike 1 := ⟨ev_m 1302 (by decide +kernel) rfl, ev_m 9 (by decide +kernel) rfl, by decide +kernel, ⟨by decide +kernel, by decide +kernel⟩, by decide +kernel, by decide +kernel⟩
set_option maxRecDepth 100000 in
theorem M_Mo_strike_in : Cond.instanceMethod M_Mo_strike.1 ∈ ev_ws := ev_m 1300 (by decide +kernel) rfl
set_option maxRecDepth 100000 in
theorem M_Mo_strike_se : Cond.selects M_Mo_strike.1.cls M_Mo_strike.1 M_Mo_strike.1 ∈ ev_ws := ev_m 1301 (by decide +kernel) rfl
abbrev M_Mo_flip : ev_M := (⟨"AlikeStoreModel", "flip", "(II)I"⟩, prog_11_method_71_code, 5, some .int)
set_option maxRecDepth 100000 in
theorem M_Mo_flip_ok : ev_ok M_Mo_flip 2 := ⟨ev_m 1306 (by decide +kernel) rfl, ev_m 9 (by decide +kernel) rfl, by decide +kernel, ⟨by decide +kernel, by decide +kernel⟩, by decide +kernel, by decide +kernel⟩
set_option maxRecDepth 100000 in
theorem M_Mo_flip_in : Cond.instanceMethod M_Mo_flip.1 ∈ ev_ws := ev_m 1304 (by decide +kernel) rfl
set_option maxRecDepth 100000 in
theorem M_Mo_flip_se : Cond.selects M_Mo_flip.1.cls M_Mo_flip.1 M_Mo_flip.1 ∈ ev_ws := ev_m 1305 (by decide +kernel) rfl
abbrev M_Mo_swap : ev_M := (⟨"AlikeStoreModel", "swap", "(II)I"⟩, prog_11_method_72_code, 5, some .int)
set_option maxRecDepth 100000 in
theorem M_Mo_swap_ok : ev_ok M_Mo_swap 2 := ⟨ev_m 1314 (by decide +kernel) rfl, ev_m 9 (by decide +kernel) rfl, by decide +kernel, ⟨by decide +kernel, by decide +kernel⟩, by decide +kernel, by decide +kernel⟩
set_option maxRecDepth 100000 in
theorem M_Mo_swap_in : Cond.instanceMethod M_Mo_swap.1 ∈ ev_ws := ev_m 1312 (by decide +kernel) rfl
set_option maxRecDepth 100000 in
theorem M_Mo_swap_se : Cond.selects M_Mo_swap.1.cls M_Mo_swap.1 M_Mo_swap.1 ∈ ev_ws := ev_m 1313 (by decide +kernel) rfl
abbrev M_Mo_tag : ev_M := (⟨"AlikeStoreModel", "tag", "(II)I"⟩, prog_11_method_73_code, 4, some .int)
set_option maxRecDepth 100000 in
theorem M_Mo_tag_ok : ev_ok M_Mo_tag 2 := ⟨ev_m 1318 (by decide +kernel) rfl, ev_m 9 (by decide +kernel) rfl, by decide +kernel, ⟨by decide +kernel, by decide +kernel⟩, by decide +kernel, by decide +kernel⟩
set_option maxRecDepth 100000 in
theorem M_Mo_tag_in : Cond.instanceMethod M_Mo_tag.1 ∈ ev_ws := ev_m 1316 (by decide +kernel) rfl
set_option maxRecDepth 100000 in
theorem M_Mo_tag_se : Cond.selects M_Mo_tag.1.cls M_Mo_tag.1 M_Mo_tag.1 ∈ ev_ws := ev_m 1317 (by decide +kernel) rfl
abbrev M_Mo_split : ev_M := (⟨"AlikeStoreModel", "split", "(II)I"⟩, prog_11_method_74_code, 4, some .int)
set_option maxRecDepth 100000 in
theorem M_Mo_split_ok : ev_ok M_Mo_split 2 := ⟨ev_m 1323 (by decide +kernel) rfl, ev_m 9 (by decide +kernel) rfl, by decide +kernel, ⟨by decide +kernel, by decide +kernel⟩, by decide +kernel, by decide +kernel⟩
set_option maxRecDepth 100000 in
theorem M_Mo_split_in : Cond.instanceMethod M_Mo_split.1 ∈ ev_ws := ev_m 1321 (by decide +kernel) rfl
set_option maxRecDepth 100000 in
theorem M_Mo_split_se : Cond.selects M_Mo_split.1.cls M_Mo_split.1 M_Mo_split.1 ∈ ev_ws := ev_m 1322 (by decide +kernel) rfl
abbrev M_Mo_merge : ev_M := (⟨"AlikeStoreModel", "merge", "(I)I"⟩, prog_11_method_75_code, 4, some .int)
set_option maxRecDepth 100000 in
theorem M_Mo_merge_ok : ev_ok M_Mo_merge 1 := ⟨ev_m 1327 (by decide +kernel) rfl, ev_m 9 (by decide +kernel) rfl, by decide +kernel, ⟨by decide +kernel, by decide +kernel⟩, by decide +kernel, by decide +kernel⟩
set_option maxRecDepth 100000 in
theorem M_Mo_merge_in : Cond.instanceMethod M_Mo_merge.1 ∈ ev_ws := ev_m 1325 (by decide +kernel) rfl
set_option maxRecDepth 100000 in
theorem M_Mo_merge_se : Cond.selects M_Mo_merge.1.cls M_Mo_merge.1 M_Mo_merge.1 ∈ ev_ws := ev_m 1326 (by decide +kernel) rfl
abbrev M_Mo_open : ev_M := (⟨"AlikeStoreModel", "open", "()I"⟩, prog_11_method_76_code, 1, some .int)
set_option maxRecDepth 100000 in
theorem M_Mo_open_ok : ev_ok M_Mo_open 0 := ⟨ev_m 1331 (by decide +kernel) rfl, ev_m 9 (by decide +kernel) rfl, by decide +kernel, ⟨by decide +kernel, by decide +kernel⟩, by decide +kernel, by decide +kernel⟩
set_option maxRecDepth 100000 in
theorem M_Mo_open_in : Cond.instanceMethod M_Mo_open.1 ∈ ev_ws := ev_m 1329 (by decide +kernel) rfl
set_option maxRecDepth 100000 in
theorem M_Mo_open_se : Cond.selects M_Mo_open.1.cls M_Mo_open.1 M_Mo_open.1 ∈ ev_ws := ev_m 1330 (by decide +kernel) rfl
abbrev M_Mo_undo : ev_M := (⟨"AlikeStoreModel", "undo", "()I"⟩, prog_11_method_77_code, 1, some .int)
set_option maxRecDepth 100000 in
theorem M_Mo_undo_ok : ev_ok M_Mo_undo 0 := ⟨ev_m 1335 (by decide +kernel) rfl, ev_m 9 (by decide +kernel) rfl, by decide +kernel, ⟨by decide +kernel, by decide +kernel⟩, by decide +kernel, by decide +kernel⟩
set_option maxRecDepth 100000 in
theorem M_Mo_undo_in : Cond.instanceMethod M_Mo_undo.1 ∈ ev_ws := ev_m 1333 (by decide +kernel) rfl
set_option maxRecDepth 100000 in
theorem M_Mo_undo_se : Cond.selects M_Mo_undo.1.cls M_Mo_undo.1 M_Mo_undo.1 ∈ ev_ws := ev_m 1334 (by decide +kernel) rfl
abbrev M_Mo_mark : ev_M := (⟨"AlikeStoreModel", "mark", "()I"⟩, prog_11_method_78_code, 1, some .int)
set_option maxRecDepth 100000 in
theorem M_Mo_mark_ok : ev_ok M_Mo_mark 0 := ⟨ev_m 1339 (by decide +kernel) rfl, ev_m 9 (by decide +kernel) rfl, by decide +kernel, ⟨by decide +kernel, by decide +kernel⟩, by decide +kernel, by decide +kernel⟩
set_option maxRecDepth 100000 in
theorem M_Mo_mark_in : Cond.instanceMethod M_Mo_mark.1 ∈ ev_ws := ev_m 1337 (by decide +kernel) rfl
set_option maxRecDepth 100000 in
theorem M_Mo_mark_se : Cond.selects M_Mo_mark.1.cls M_Mo_mark.1 M_Mo_mark.1 ∈ ev_ws := ev_m 1338 (by decide +kernel) rfl
abbrev M_Mo_back : ev_M := (⟨"AlikeStoreModel", "back", "()I"⟩, prog_11_method_79_code, 1, some .int)
set_option maxRecDepth 100000 in
theorem M_Mo_back_ok : ev_ok M_Mo_back 0 := ⟨ev_m 1343 (by decide +kernel) rfl, ev_m 9 (by decide +kernel) rfl, by decide +kernel, ⟨by decide +kernel, by decide +kernel⟩, by decide +kernel, by decide +kernel⟩
set_option maxRecDepth 100000 in
theorem M_Mo_back_in : Cond.instanceMethod M_Mo_back.1 ∈ ev_ws := ev_m 1341 (by decide +kernel) rfl
set_option maxRecDepth 100000 in
theorem M_Mo_back_se : Cond.selects M_Mo_back.1.cls M_Mo_back.1 M_Mo_back.1 ∈ ev_ws := ev_m 1342 (by decide +kernel) rfl
abbrev M_Mo_ownParts : ev_M := (⟨"AlikeStoreModel", "ownParts", "()V"⟩, prog_11_method_80_code, 2, none)
set_option maxRecDepth 100000 in
theorem M_Mo_ownParts_ok : ev_ok M_Mo_ownParts 0 := ⟨ev_m 1355 (by decide +kernel) rfl, ev_m 9 (by decide +kernel) rfl, by decide +kernel, ⟨by decide +kernel, by decide +kernel⟩, by decide +kernel, by decide +kernel⟩
set_option maxRecDepth 100000 in
theorem M_Mo_ownParts_in : Cond.instanceMethod M_Mo_ownParts.1 ∈ ev_ws := ev_m 1354 (by decide +kernel) rfl
set_option maxRecDepth 100000 in
theorem M_Mo_ownParts_se : Cond.selects M_Mo_ownParts.1.cls M_Mo_ownParts.1 M_Mo_ownParts.1 ∈ ev_ws := ev_mp 80 (by decide +kernel) rfl
abbrev M_Mo_keyAt : ev_M := (⟨"AlikeStoreModel", "keyAt", "(JI)J"⟩, prog_11_method_81_code, 6, some .long)
set_option maxRecDepth 100000 in
theorem M_Mo_keyAt_ok : ev_ok M_Mo_keyAt 2 := ⟨ev_m 1367 (by decide +kernel) rfl, ev_m 9 (by decide +kernel) rfl, by decide +kernel, ⟨by decide +kernel, by decide +kernel⟩, by decide +kernel, by decide +kernel⟩
set_option maxRecDepth 100000 in
theorem M_Mo_keyAt_in : Cond.instanceMethod M_Mo_keyAt.1 ∈ ev_ws := ev_m 1366 (by decide +kernel) rfl
set_option maxRecDepth 100000 in
theorem M_Mo_keyAt_se : Cond.selects M_Mo_keyAt.1.cls M_Mo_keyAt.1 M_Mo_keyAt.1 ∈ ev_ws := ev_mp 83 (by decide +kernel) rfl
abbrev M_Mo_costOf : ev_M := (⟨"AlikeStoreModel", "costOf", "(JIIJ)I"⟩, prog_11_method_82_code, 9, some .int)
set_option maxRecDepth 100000 in
theorem M_Mo_costOf_ok : ev_ok M_Mo_costOf 4 := ⟨ev_m 1363 (by decide +kernel) rfl, ev_m 9 (by decide +kernel) rfl, by decide +kernel, ⟨by decide +kernel, by decide +kernel⟩, by decide +kernel, by decide +kernel⟩
set_option maxRecDepth 100000 in
theorem M_Mo_costOf_in : Cond.instanceMethod M_Mo_costOf.1 ∈ ev_ws := ev_m 1362 (by decide +kernel) rfl
set_option maxRecDepth 100000 in
theorem M_Mo_costOf_se : Cond.selects M_Mo_costOf.1.cls M_Mo_costOf.1 M_Mo_costOf.1 ∈ ev_ws := ev_mp 82 (by decide +kernel) rfl
abbrev M_Mo_budgetsOf : ev_M := (⟨"AlikeStoreModel", "budgetsOf", "(JIJ)I"⟩, prog_11_method_83_code, 9, some .int)
set_option maxRecDepth 100000 in
theorem M_Mo_budgetsOf_ok : ev_ok M_Mo_budgetsOf 3 := ⟨ev_m 1359 (by decide +kernel) rfl, ev_m 9 (by decide +kernel) rfl, by decide +kernel, ⟨by decide +kernel, by decide +kernel⟩, by decide +kernel, by decide +kernel⟩
set_option maxRecDepth 100000 in
theorem M_Mo_budgetsOf_in : Cond.instanceMethod M_Mo_budgetsOf.1 ∈ ev_ws := ev_m 1358 (by decide +kernel) rfl
set_option maxRecDepth 100000 in
theorem M_Mo_budgetsOf_se : Cond.selects M_Mo_budgetsOf.1.cls M_Mo_budgetsOf.1 M_Mo_budgetsOf.1 ∈ ev_ws := ev_mp 81 (by decide +kernel) rfl
abbrev M_Mo_budget : ev_M := (⟨"AlikeStoreModel", "budget", "(JII)I"⟩, prog_11_method_84_code, 5, some .int)
set_option maxRecDepth 100000 in
theorem M_Mo_budget_ok : ev_ok M_Mo_budget 3 := ⟨ev_m 1347 (by decide +kernel) rfl, ev_m 9 (by decide +kernel) rfl, by decide +kernel, ⟨by decide +kernel, by decide +kernel⟩, by decide +kernel, by decide +kernel⟩
set_option maxRecDepth 100000 in
theorem M_Mo_budget_in : Cond.instanceMethod M_Mo_budget.1 ∈ ev_ws := ev_m 1345 (by decide +kernel) rfl
set_option maxRecDepth 100000 in
theorem M_Mo_budget_se : Cond.selects M_Mo_budget.1.cls M_Mo_budget.1 M_Mo_budget.1 ∈ ev_ws := ev_m 1346 (by decide +kernel) rfl
abbrev M_Mo_cost : ev_M := (⟨"AlikeStoreModel", "cost", "(JII)I"⟩, prog_11_method_85_code, 5, some .int)
set_option maxRecDepth 100000 in
theorem M_Mo_cost_ok : ev_ok M_Mo_cost 3 := ⟨ev_m 1373 (by decide +kernel) rfl, ev_m 9 (by decide +kernel) rfl, by decide +kernel, ⟨by decide +kernel, by decide +kernel⟩, by decide +kernel, by decide +kernel⟩
set_option maxRecDepth 100000 in
theorem M_Mo_cost_in : Cond.instanceMethod M_Mo_cost.1 ∈ ev_ws := ev_m 1371 (by decide +kernel) rfl
set_option maxRecDepth 100000 in
theorem M_Mo_cost_se : Cond.selects M_Mo_cost.1.cls M_Mo_cost.1 M_Mo_cost.1 ∈ ev_ws := ev_m 1372 (by decide +kernel) rfl
abbrev M_Mo_isCandidate : ev_M := (⟨"AlikeStoreModel", "isCandidate", "(IJ)Z"⟩, prog_11_method_86_code, 6, some .boolean)
set_option maxRecDepth 100000 in
theorem M_Mo_isCandidate_ok : ev_ok M_Mo_isCandidate 2 := ⟨ev_m 1382 (by decide +kernel) rfl, ev_m 9 (by decide +kernel) rfl, by decide +kernel, ⟨by decide +kernel, by decide +kernel⟩, by decide +kernel, by decide +kernel⟩
set_option maxRecDepth 100000 in
theorem M_Mo_isCandidate_in : Cond.instanceMethod M_Mo_isCandidate.1 ∈ ev_ws := ev_m 1381 (by decide +kernel) rfl
set_option maxRecDepth 100000 in
theorem M_Mo_isCandidate_se : Cond.selects M_Mo_isCandidate.1.cls M_Mo_isCandidate.1 M_Mo_isCandidate.1 ∈ ev_ws := ev_mp 84 (by decide +kernel) rfl
abbrev M_Mo_nearSet : ev_M := (⟨"AlikeStoreModel", "nearSet", "(JI)J"⟩, prog_11_method_87_code, 7, some .long)
set_option maxRecDepth 100000 in
theorem M_Mo_nearSet_ok : ev_ok M_Mo_nearSet 2 := ⟨ev_m 1386 (by decide +kernel) rfl, ev_m 9 (by decide +kernel) rfl, by decide +kernel, ⟨by decide +kernel, by decide +kernel⟩, by decide +kernel, by decide +kernel⟩
set_option maxRecDepth 100000 in
theorem M_Mo_nearSet_in : Cond.instanceMethod M_Mo_nearSet.1 ∈ ev_ws := ev_m 1385 (by decide +kernel) rfl
set_option maxRecDepth 100000 in
theorem M_Mo_nearSet_se : Cond.selects M_Mo_nearSet.1.cls M_Mo_nearSet.1 M_Mo_nearSet.1 ∈ ev_ws := ev_mp 85 (by decide +kernel) rfl
abbrev M_Mo_near : ev_M := (⟨"AlikeStoreModel", "near", "(JII)I"⟩, prog_11_method_88_code, 12, some .int)
set_option maxRecDepth 100000 in
theorem M_Mo_near_ok : ev_ok M_Mo_near 3 := ⟨ev_m 1377 (by decide +kernel) rfl, ev_m 9 (by decide +kernel) rfl, by decide +kernel, ⟨by decide +kernel, by decide +kernel⟩, by decide +kernel, by decide +kernel⟩
set_option maxRecDepth 100000 in
theorem M_Mo_near_in : Cond.instanceMethod M_Mo_near.1 ∈ ev_ws := ev_m 1375 (by decide +kernel) rfl
set_option maxRecDepth 100000 in
theorem M_Mo_near_se : Cond.selects M_Mo_near.1.cls M_Mo_near.1 M_Mo_near.1 ∈ ev_ws := ev_m 1376 (by decide +kernel) rfl
abbrev M_Mo_ranks : ev_M := (⟨"AlikeStoreModel", "ranks", "(JJ)I"⟩, prog_11_method_89_code, 8, some .int)
set_option maxRecDepth 100000 in
theorem M_Mo_ranks_ok : ev_ok M_Mo_ranks 2 := ⟨ev_m 1394 (by decide +kernel) rfl, ev_m 9 (by decide +kernel) rfl, by decide +kernel, ⟨by decide +kernel, by decide +kernel⟩, by decide +kernel, by decide +kernel⟩
set_option maxRecDepth 100000 in
theorem M_Mo_ranks_in : Cond.instanceMethod M_Mo_ranks.1 ∈ ev_ws := ev_m 1393 (by decide +kernel) rfl
set_option maxRecDepth 100000 in
theorem M_Mo_ranks_se : Cond.selects M_Mo_ranks.1.cls M_Mo_ranks.1 M_Mo_ranks.1 ∈ ev_ws := ev_mp 86 (by decide +kernel) rfl
abbrev M_Mo_ranked : ev_M := (⟨"AlikeStoreModel", "ranked", "(JI)I"⟩, prog_11_method_90_code, 4, some .int)
set_option maxRecDepth 100000 in
theorem M_Mo_ranked_ok : ev_ok M_Mo_ranked 2 := ⟨ev_m 1390 (by decide +kernel) rfl, ev_m 9 (by decide +kernel) rfl, by decide +kernel, ⟨by decide +kernel, by decide +kernel⟩, by decide +kernel, by decide +kernel⟩
set_option maxRecDepth 100000 in
theorem M_Mo_ranked_in : Cond.instanceMethod M_Mo_ranked.1 ∈ ev_ws := ev_m 1388 (by decide +kernel) rfl
set_option maxRecDepth 100000 in
theorem M_Mo_ranked_se : Cond.selects M_Mo_ranked.1.cls M_Mo_ranked.1 M_Mo_ranked.1 ∈ ev_ws := ev_m 1389 (by decide +kernel) rfl
abbrev M_Mo_grown : ev_M := (⟨"AlikeStoreModel", "grown", "(JII)I"⟩, prog_11_method_91_code, 9, some .int)
set_option maxRecDepth 100000 in
theorem M_Mo_grown_ok : ev_ok M_Mo_grown 3 := ⟨ev_m 1398 (by decide +kernel) rfl, ev_m 9 (by decide +kernel) rfl, by decide +kernel, ⟨by decide +kernel, by decide +kernel⟩, by decide +kernel, by decide +kernel⟩
set_option maxRecDepth 100000 in
theorem M_Mo_grown_in : Cond.instanceMethod M_Mo_grown.1 ∈ ev_ws := ev_m 1396 (by decide +kernel) rfl
set_option maxRecDepth 100000 in
theorem M_Mo_grown_se : Cond.selects M_Mo_grown.1.cls M_Mo_grown.1 M_Mo_grown.1 ∈ ev_ws := ev_m 1397 (by decide +kernel) rfl
abbrev M_Mo_apart : ev_M := (⟨"AlikeStoreModel", "apart", "(JIII)I"⟩, prog_11_method_92_code, 13, some .int)
set_option maxRecDepth 100000 in
theorem M_Mo_apart_ok : ev_ok M_Mo_apart 4 := ⟨ev_m 1402 (by decide +kernel) rfl, ev_m 9 (by decide +kernel) rfl, by decide +kernel, ⟨by decide +kernel, by decide +kernel⟩, by decide +kernel, by decide +kernel⟩
set_option maxRecDepth 100000 in
theorem M_Mo_apart_in : Cond.instanceMethod M_Mo_apart.1 ∈ ev_ws := ev_m 1400 (by decide +kernel) rfl
set_option maxRecDepth 100000 in
theorem M_Mo_apart_se : Cond.selects M_Mo_apart.1.cls M_Mo_apart.1 M_Mo_apart.1 ∈ ev_ws := ev_m 1401 (by decide +kernel) rfl
abbrev M_Mo_isPair : ev_M := (⟨"AlikeStoreModel", "isPair", "(IIIJ)Z"⟩, prog_11_method_93_code, 6, some .boolean)
set_option maxRecDepth 100000 in
theorem M_Mo_isPair_ok : ev_ok M_Mo_isPair 4 := ⟨ev_m 1411 (by decide +kernel) rfl, ev_m 9 (by decide +kernel) rfl, by decide +kernel, ⟨by decide +kernel, by decide +kernel⟩, by decide +kernel, by decide +kernel⟩
set_option maxRecDepth 100000 in
theorem M_Mo_isPair_in : Cond.instanceMethod M_Mo_isPair.1 ∈ ev_ws := ev_m 1410 (by decide +kernel) rfl
set_option maxRecDepth 100000 in
theorem M_Mo_isPair_se : Cond.selects M_Mo_isPair.1.cls M_Mo_isPair.1 M_Mo_isPair.1 ∈ ev_ws := ev_mp 87 (by decide +kernel) rfl
abbrev M_Mo_pairs : ev_M := (⟨"AlikeStoreModel", "pairs", "(I)I"⟩, prog_11_method_94_code, 7, some .int)
set_option maxRecDepth 100000 in
theorem M_Mo_pairs_ok : ev_ok M_Mo_pairs 1 := ⟨ev_m 1407 (by decide +kernel) rfl, ev_m 9 (by decide +kernel) rfl, by decide +kernel, ⟨by decide +kernel, by decide +kernel⟩, by decide +kernel, by decide +kernel⟩
set_option maxRecDepth 100000 in
theorem M_Mo_pairs_in : Cond.instanceMethod M_Mo_pairs.1 ∈ ev_ws := ev_m 1405 (by decide +kernel) rfl
set_option maxRecDepth 100000 in
theorem M_Mo_pairs_se : Cond.selects M_Mo_pairs.1.cls M_Mo_pairs.1 M_Mo_pairs.1 ∈ ev_ws := ev_m 1406 (by decide +kernel) rfl
abbrev M_Mo_pair : ev_M := (⟨"AlikeStoreModel", "pair", "(III)I"⟩, prog_11_method_95_code, 9, some .int)
set_option maxRecDepth 100000 in
theorem M_Mo_pair_ok : ev_ok M_Mo_pair 3 := ⟨ev_m 1415 (by decide +kernel) rfl, ev_m 9 (by decide +kernel) rfl, by decide +kernel, ⟨by decide +kernel, by decide +kernel⟩, by decide +kernel, by decide +kernel⟩
set_option maxRecDepth 100000 in
theorem M_Mo_pair_in : Cond.instanceMethod M_Mo_pair.1 ∈ ev_ws := ev_m 1413 (by decide +kernel) rfl
set_option maxRecDepth 100000 in
theorem M_Mo_pair_se : Cond.selects M_Mo_pair.1.cls M_Mo_pair.1 M_Mo_pair.1 ∈ ev_ws := ev_m 1414 (by decide +kernel) rfl
abbrev M_Mo_joined : ev_M := (⟨"AlikeStoreModel", "joined", "(I)I"⟩, prog_11_method_96_code, 6, some .int)
set_option maxRecDepth 100000 in
theorem M_Mo_joined_ok : ev_ok M_Mo_joined 1 := ⟨ev_m 1419 (by decide +kernel) rfl, ev_m 9 (by decide +kernel) rfl, by decide +kernel, ⟨by decide +kernel, by decide +kernel⟩, by decide +kernel, by decide +kernel⟩
set_option maxRecDepth 100000 in
theorem M_Mo_joined_in : Cond.instanceMethod M_Mo_joined.1 ∈ ev_ws := ev_m 1417 (by decide +kernel) rfl
set_option maxRecDepth 100000 in
theorem M_Mo_joined_se : Cond.selects M_Mo_joined.1.cls M_Mo_joined.1 M_Mo_joined.1 ∈ ev_ws := ev_m 1418 (by decide +kernel) rfl
abbrev M_Mo_closest : ev_M := (⟨"AlikeStoreModel", "closest", "(I)I"⟩, prog_11_method_97_code, 9, some .int)
set_option maxRecDepth 100000 in
theorem M_Mo_closest_ok : ev_ok M_Mo_closest 1 := ⟨ev_m 1423 (by decide +kernel) rfl, ev_m 9 (by decide +kernel) rfl, by decide +kernel, ⟨by decide +kernel, by decide +kernel⟩, by decide +kernel, by decide +kernel⟩
set_option maxRecDepth 100000 in
theorem M_Mo_closest_in : Cond.instanceMethod M_Mo_closest.1 ∈ ev_ws := ev_m 1421 (by decide +kernel) rfl
set_option maxRecDepth 100000 in
theorem M_Mo_closest_se : Cond.selects M_Mo_closest.1.cls M_Mo_closest.1 M_Mo_closest.1 ∈ ev_ws := ev_m 1422 (by decide +kernel) rfl
abbrev M_Mo_clusterOf : ev_M := (⟨"AlikeStoreModel", "clusterOf", "(IIJ)J"⟩, prog_11_method_98_code, 11, some .long)
set_option maxRecDepth 100000 in
theorem M_Mo_clusterOf_ok : ev_ok M_Mo_clusterOf 3 := ⟨ev_m 1431 (by decide +kernel) rfl, ev_m 9 (by decide +kernel) rfl, by decide +kernel, ⟨by decide +kernel, by decide +kernel⟩, by decide +kernel, by decide +kernel⟩
set_option maxRecDepth 100000 in
theorem M_Mo_clusterOf_in : Cond.instanceMethod M_Mo_clusterOf.1 ∈ ev_ws := ev_m 1430 (by decide +kernel) rfl
set_option maxRecDepth 100000 in
theorem M_Mo_clusterOf_se : Cond.selects M_Mo_clusterOf.1.cls M_Mo_clusterOf.1 M_Mo_clusterOf.1 ∈ ev_ws := ev_mp 88 (by decide +kernel) rfl
abbrev M_Mo_leastIn : ev_M := (⟨"AlikeStoreModel", "leastIn", "(J)I"⟩, prog_11_method_99_code, 3, some .int)
set_option maxRecDepth 100000 in
theorem M_Mo_leastIn_ok : ev_ok M_Mo_leastIn 1 := ⟨ev_m 1434 (by decide +kernel) rfl, ev_m 9 (by decide +kernel) rfl, by decide +kernel, ⟨by decide +kernel, by decide +kernel⟩, by decide +kernel, by decide +kernel⟩
set_option maxRecDepth 100000 in
theorem M_Mo_leastIn_st : Cond.static M_Mo_leastIn.1 ∈ ev_ws := ev_m 1433 (by decide +kernel) rfl
abbrev M_Mo_clusters : ev_M := (⟨"AlikeStoreModel", "clusters", "(II)I"⟩, prog_11_method_100_code, 11, some .int)
set_option maxRecDepth 100000 in
theorem M_Mo_clusters_ok : ev_ok M_Mo_clusters 2 := ⟨ev_m 1427 (by decide +kernel) rfl, ev_m 9 (by decide +kernel) rfl, by decide +kernel, ⟨by decide +kernel, by decide +kernel⟩, by decide +kernel, by decide +kernel⟩
set_option maxRecDepth 100000 in
theorem M_Mo_clusters_in : Cond.instanceMethod M_Mo_clusters.1 ∈ ev_ws := ev_m 1425 (by decide +kernel) rfl
set_option maxRecDepth 100000 in
theorem M_Mo_clusters_se : Cond.selects M_Mo_clusters.1.cls M_Mo_clusters.1 M_Mo_clusters.1 ∈ ev_ws := ev_m 1426 (by decide +kernel) rfl
abbrev M_Mo_middle : ev_M := (⟨"AlikeStoreModel", "middle", "(J)I"⟩, prog_11_method_101_code, 8, some .int)
set_option maxRecDepth 100000 in
theorem M_Mo_middle_ok : ev_ok M_Mo_middle 1 := ⟨ev_m 1442 (by decide +kernel) rfl, ev_m 9 (by decide +kernel) rfl, by decide +kernel, ⟨by decide +kernel, by decide +kernel⟩, by decide +kernel, by decide +kernel⟩
set_option maxRecDepth 100000 in
theorem M_Mo_middle_in : Cond.instanceMethod M_Mo_middle.1 ∈ ev_ws := ev_m 1441 (by decide +kernel) rfl
set_option maxRecDepth 100000 in
theorem M_Mo_middle_se : Cond.selects M_Mo_middle.1.cls M_Mo_middle.1 M_Mo_middle.1 ∈ ev_ws := ev_mp 89 (by decide +kernel) rfl
abbrev M_Mo_cluster : ev_M := (⟨"AlikeStoreModel", "cluster", "(III)I"⟩, prog_11_method_102_code, 8, some .int)
set_option maxRecDepth 100000 in
theorem M_Mo_cluster_ok : ev_ok M_Mo_cluster 3 := ⟨ev_m 1438 (by decide +kernel) rfl, ev_m 9 (by decide +kernel) rfl, by decide +kernel, ⟨by decide +kernel, by decide +kernel⟩, by decide +kernel, by decide +kernel⟩
set_option maxRecDepth 100000 in
theorem M_Mo_cluster_in : Cond.instanceMethod M_Mo_cluster.1 ∈ ev_ws := ev_m 1436 (by decide +kernel) rfl
set_option maxRecDepth 100000 in
theorem M_Mo_cluster_se : Cond.selects M_Mo_cluster.1.cls M_Mo_cluster.1 M_Mo_cluster.1 ∈ ev_ws := ev_m 1437 (by decide +kernel) rfl
abbrev M_Mo_vote : ev_M := (⟨"AlikeStoreModel", "vote", "(I)J"⟩, prog_11_method_103_code, 9, some .long)
set_option maxRecDepth 100000 in
theorem M_Mo_vote_ok : ev_ok M_Mo_vote 1 := ⟨ev_m 1446 (by decide +kernel) rfl, ev_m 9 (by decide +kernel) rfl, by decide +kernel, ⟨by decide +kernel, by decide +kernel⟩, by decide +kernel, by decide +kernel⟩
set_option maxRecDepth 100000 in
theorem M_Mo_vote_in : Cond.instanceMethod M_Mo_vote.1 ∈ ev_ws := ev_m 1444 (by decide +kernel) rfl
set_option maxRecDepth 100000 in
theorem M_Mo_vote_se : Cond.selects M_Mo_vote.1.cls M_Mo_vote.1 M_Mo_vote.1 ∈ ev_ws := ev_m 1445 (by decide +kernel) rfl
abbrev M_Mo_like : ev_M := (⟨"AlikeStoreModel", "like", "(JJ)I"⟩, prog_11_method_104_code, 8, some .int)
set_option maxRecDepth 100000 in
theorem M_Mo_like_ok : ev_ok M_Mo_like 2 := ⟨ev_m 1451 (by decide +kernel) rfl, ev_m 9 (by decide +kernel) rfl, by decide +kernel, ⟨by decide +kernel, by decide +kernel⟩, by decide +kernel, by decide +kernel⟩
set_option maxRecDepth 100000 in
theorem M_Mo_like_in : Cond.instanceMethod M_Mo_like.1 ∈ ev_ws := ev_m 1449 (by decide +kernel) rfl
set_option maxRecDepth 100000 in
theorem M_Mo_like_se : Cond.selects M_Mo_like.1.cls M_Mo_like.1 M_Mo_like.1 ∈ ev_ws := ev_m 1450 (by decide +kernel) rfl
abbrev M_Mo_onesAt : ev_M := (⟨"AlikeStoreModel", "onesAt", "(IJ)I"⟩, prog_11_method_105_code, 6, some .int)
set_option maxRecDepth 100000 in
theorem M_Mo_onesAt_ok : ev_ok M_Mo_onesAt 2 := ⟨ev_m 1459 (by decide +kernel) rfl, ev_m 9 (by decide +kernel) rfl, by decide +kernel, ⟨by decide +kernel, by decide +kernel⟩, by decide +kernel, by decide +kernel⟩
set_option maxRecDepth 100000 in
theorem M_Mo_onesAt_in : Cond.instanceMethod M_Mo_onesAt.1 ∈ ev_ws := ev_m 1458 (by decide +kernel) rfl
set_option maxRecDepth 100000 in
theorem M_Mo_onesAt_se : Cond.selects M_Mo_onesAt.1.cls M_Mo_onesAt.1 M_Mo_onesAt.1 ∈ ev_ws := ev_mp 90 (by decide +kernel) rfl
abbrev M_Mo_ones_I : ev_M := (⟨"AlikeStoreModel", "ones", "(I)I"⟩, prog_11_method_106_code, 2, some .int)
set_option maxRecDepth 100000 in
theorem M_Mo_ones_I_ok : ev_ok M_Mo_ones_I 1 := ⟨ev_m 1455 (by decide +kernel) rfl, ev_m 9 (by decide +kernel) rfl, by decide +kernel, ⟨by decide +kernel, by decide +kernel⟩, by decide +kernel, by decide +kernel⟩
set_option maxRecDepth 100000 in
theorem M_Mo_ones_I_in : Cond.instanceMethod M_Mo_ones_I.1 ∈ ev_ws := ev_m 1453 (by decide +kernel) rfl
set_option maxRecDepth 100000 in
theorem M_Mo_ones_I_se : Cond.selects M_Mo_ones_I.1.cls M_Mo_ones_I.1 M_Mo_ones_I.1 ∈ ev_ws := ev_m 1454 (by decide +kernel) rfl
abbrev M_Mo_telling : ev_M := (⟨"AlikeStoreModel", "telling", "()I"⟩, prog_11_method_107_code, 7, some .int)
set_option maxRecDepth 100000 in
theorem M_Mo_telling_ok : ev_ok M_Mo_telling 0 := ⟨ev_m 1463 (by decide +kernel) rfl, ev_m 9 (by decide +kernel) rfl, by decide +kernel, ⟨by decide +kernel, by decide +kernel⟩, by decide +kernel, by decide +kernel⟩
set_option maxRecDepth 100000 in
theorem M_Mo_telling_in : Cond.instanceMethod M_Mo_telling.1 ∈ ev_ws := ev_m 1461 (by decide +kernel) rfl
set_option maxRecDepth 100000 in
theorem M_Mo_telling_se : Cond.selects M_Mo_telling.1.cls M_Mo_telling.1 M_Mo_telling.1 ∈ ev_ws := ev_m 1462 (by decide +kernel) rfl
abbrev M_Mo_alike : ev_M := (⟨"AlikeStoreModel", "alike", "(II)I"⟩, prog_11_method_108_code, 5, some .int)
set_option maxRecDepth 100000 in
theorem M_Mo_alike_ok : ev_ok M_Mo_alike 2 := ⟨ev_m 1467 (by decide +kernel) rfl, ev_m 9 (by decide +kernel) rfl, by decide +kernel, ⟨by decide +kernel, by decide +kernel⟩, by decide +kernel, by decide +kernel⟩
set_option maxRecDepth 100000 in
theorem M_Mo_alike_in : Cond.instanceMethod M_Mo_alike.1 ∈ ev_ws := ev_m 1465 (by decide +kernel) rfl
set_option maxRecDepth 100000 in
theorem M_Mo_alike_se : Cond.selects M_Mo_alike.1.cls M_Mo_alike.1 M_Mo_alike.1 ∈ ev_ws := ev_m 1466 (by decide +kernel) rfl
abbrev M_Mo_spread : ev_M := (⟨"AlikeStoreModel", "spread", "(II)I"⟩, prog_11_method_109_code, 11, some .int)
set_option maxRecDepth 100000 in
theorem M_Mo_spread_ok : ev_ok M_Mo_spread 2 := ⟨ev_m 1471 (by decide +kernel) rfl, ev_m 9 (by decide +kernel) rfl, by decide +kernel, ⟨by decide +kernel, by decide +kernel⟩, by decide +kernel, by decide +kernel⟩
set_option maxRecDepth 100000 in
theorem M_Mo_spread_in : Cond.instanceMethod M_Mo_spread.1 ∈ ev_ws := ev_m 1469 (by decide +kernel) rfl
set_option maxRecDepth 100000 in
theorem M_Mo_spread_se : Cond.selects M_Mo_spread.1.cls M_Mo_spread.1 M_Mo_spread.1 ∈ ev_ws := ev_m 1470 (by decide +kernel) rfl
abbrev M_Mo_isParted : ev_M := (⟨"AlikeStoreModel", "isParted", "(I)Z"⟩, prog_11_method_110_code, 2, some .boolean)
set_option maxRecDepth 100000 in
theorem M_Mo_isParted_ok : ev_ok M_Mo_isParted 1 := ⟨ev_m 1480 (by decide +kernel) rfl, ev_m 9 (by decide +kernel) rfl, by decide +kernel, ⟨by decide +kernel, by decide +kernel⟩, by decide +kernel, by decide +kernel⟩
set_option maxRecDepth 100000 in
theorem M_Mo_isParted_in : Cond.instanceMethod M_Mo_isParted.1 ∈ ev_ws := ev_m 1479 (by decide +kernel) rfl
set_option maxRecDepth 100000 in
theorem M_Mo_isParted_se : Cond.selects M_Mo_isParted.1.cls M_Mo_isParted.1 M_Mo_isParted.1 ∈ ev_ws := ev_mp 91 (by decide +kernel) rfl
abbrev M_Mo_partedBy : ev_M := (⟨"AlikeStoreModel", "partedBy", "(II)I"⟩, prog_11_method_111_code, 7, some .int)
set_option maxRecDepth 100000 in
theorem M_Mo_partedBy_ok : ev_ok M_Mo_partedBy 2 := ⟨ev_m 1484 (by decide +kernel) rfl, ev_m 9 (by decide +kernel) rfl, by decide +kernel, ⟨by decide +kernel, by decide +kernel⟩, by decide +kernel, by decide +kernel⟩
set_option maxRecDepth 100000 in
theorem M_Mo_partedBy_in : Cond.instanceMethod M_Mo_partedBy.1 ∈ ev_ws := ev_m 1483 (by decide +kernel) rfl
set_option maxRecDepth 100000 in
theorem M_Mo_partedBy_se : Cond.selects M_Mo_partedBy.1.cls M_Mo_partedBy.1 M_Mo_partedBy.1 ∈ ev_ws := ev_mp 92 (by decide +kernel) rfl
abbrev M_Mo_parted : ev_M := (⟨"AlikeStoreModel", "parted", "(II)I"⟩, prog_11_method_112_code, 3, some .int)
set_option maxRecDepth 100000 in
theorem M_Mo_parted_ok : ev_ok M_Mo_parted 2 := ⟨ev_m 1475 (by decide +kernel) rfl, ev_m 9 (by decide +kernel) rfl, by decide +kernel, ⟨by decide +kernel, by decide +kernel⟩, by decide +kernel, by decide +kernel⟩
set_option maxRecDepth 100000 in
theorem M_Mo_parted_in : Cond.instanceMethod M_Mo_parted.1 ∈ ev_ws := ev_m 1473 (by decide +kernel) rfl
set_option maxRecDepth 100000 in
theorem M_Mo_parted_se : Cond.selects M_Mo_parted.1.cls M_Mo_parted.1 M_Mo_parted.1 ∈ ev_ws := ev_m 1474 (by decide +kernel) rfl
abbrev M_Mo_bestPart : ev_M := (⟨"AlikeStoreModel", "bestPart", "(I)I"⟩, prog_11_method_113_code, 6, some .int)
set_option maxRecDepth 100000 in
theorem M_Mo_bestPart_ok : ev_ok M_Mo_bestPart 1 := ⟨ev_m 1488 (by decide +kernel) rfl, ev_m 9 (by decide +kernel) rfl, by decide +kernel, ⟨by decide +kernel, by decide +kernel⟩, by decide +kernel, by decide +kernel⟩
set_option maxRecDepth 100000 in
theorem M_Mo_bestPart_in : Cond.instanceMethod M_Mo_bestPart.1 ∈ ev_ws := ev_m 1486 (by decide +kernel) rfl
set_option maxRecDepth 100000 in
theorem M_Mo_bestPart_se : Cond.selects M_Mo_bestPart.1.cls M_Mo_bestPart.1 M_Mo_bestPart.1 ∈ ev_ws := ev_m 1487 (by decide +kernel) rfl
abbrev M_Bu_init : ev_M := (⟨"AlikeStore$Budgets", "<init>", "()V"⟩, prog_2_method_1_code, 1, none)
set_option maxRecDepth 100000 in
theorem M_Bu_init_ok : ev_ok M_Bu_init 0 := ⟨ev_m 194 (by decide +kernel) rfl, ev_m 7 (by decide +kernel) rfl, by decide +kernel, ⟨by decide +kernel, by decide +kernel⟩, by decide +kernel, by decide +kernel⟩
set_option maxRecDepth 100000 in
theorem M_Bu_init_in : Cond.instanceMethod M_Bu_init.1 ∈ ev_ws := ev_m 193 (by decide +kernel) rfl
abbrev M_Bu_partLike : ev_M := (⟨"AlikeStore$Budgets", "partLike", "(LAlikeStore$Store;)V"⟩, prog_2_method_2_code, 2, none)
set_option maxRecDepth 100000 in
theorem M_Bu_partLike_ok : ev_ok M_Bu_partLike 1 := ⟨ev_m 755 (by decide +kernel) rfl, ev_m 7 (by decide +kernel) rfl, by decide +kernel, ⟨by decide +kernel, by decide +kernel⟩, by decide +kernel, by decide +kernel⟩
set_option maxRecDepth 100000 in
theorem M_Bu_partLike_in : Cond.instanceMethod M_Bu_partLike.1 ∈ ev_ws := ev_m 753 (by decide +kernel) rfl
set_option maxRecDepth 100000 in
theorem M_Bu_partLike_se : Cond.selects M_Bu_partLike.1.cls M_Bu_partLike.1 M_Bu_partLike.1 ∈ ev_ws := ev_m 754 (by decide +kernel) rfl
abbrev M_Bu_partInTwo : ev_M := (⟨"AlikeStore$Budgets", "partInTwo", "(II)V"⟩, prog_2_method_3_code, 3, none)
set_option maxRecDepth 100000 in
theorem M_Bu_partInTwo_ok : ev_ok M_Bu_partInTwo 2 := ⟨ev_m 948 (by decide +kernel) rfl, ev_m 7 (by decide +kernel) rfl, by decide +kernel, ⟨by decide +kernel, by decide +kernel⟩, by decide +kernel, by decide +kernel⟩
set_option maxRecDepth 100000 in
theorem M_Bu_partInTwo_in : Cond.instanceMethod M_Bu_partInTwo.1 ∈ ev_ws := ev_m 946 (by decide +kernel) rfl
set_option maxRecDepth 100000 in
theorem M_Bu_partInTwo_se : Cond.selects M_Bu_partInTwo.1.cls M_Bu_partInTwo.1 M_Bu_partInTwo.1 ∈ ev_ws := ev_m 947 (by decide +kernel) rfl
abbrev M_Bu_plan : ev_M := (⟨"AlikeStore$Budgets", "plan", "([JIJI)I"⟩, prog_2_method_4_code, 6, some .int)
set_option maxRecDepth 100000 in
theorem M_Bu_plan_ok : ev_ok M_Bu_plan 4 := ⟨ev_m 760 (by decide +kernel) rfl, ev_m 7 (by decide +kernel) rfl, by decide +kernel, ⟨by decide +kernel, by decide +kernel⟩, by decide +kernel, by decide +kernel⟩
set_option maxRecDepth 100000 in
theorem M_Bu_plan_in : Cond.instanceMethod M_Bu_plan.1 ∈ ev_ws := ev_m 758 (by decide +kernel) rfl
set_option maxRecDepth 100000 in
theorem M_Bu_plan_se : Cond.selects M_Bu_plan.1.cls M_Bu_plan.1 M_Bu_plan.1 ∈ ev_ws := ev_m 759 (by decide +kernel) rfl
abbrev M_Bu_weigh : ev_M := (⟨"AlikeStore$Budgets", "weigh", "([JIJ)V"⟩, prog_2_method_5_code, 11, none)
set_option maxRecDepth 100000 in
theorem M_Bu_weigh_ok : ev_ok M_Bu_weigh 3 := ⟨ev_m 764 (by decide +kernel) rfl, ev_m 7 (by decide +kernel) rfl, by decide +kernel, ⟨by decide +kernel, by decide +kernel⟩, by decide +kernel, by decide +kernel⟩
set_option maxRecDepth 100000 in
theorem M_Bu_weigh_in : Cond.instanceMethod M_Bu_weigh.1 ∈ ev_ws := ev_m 762 (by decide +kernel) rfl
set_option maxRecDepth 100000 in
theorem M_Bu_weigh_se : Cond.selects M_Bu_weigh.1.cls M_Bu_weigh.1 M_Bu_weigh.1 ∈ ev_ws := ev_m 763 (by decide +kernel) rfl
abbrev M_Bu_tabulate : ev_M := (⟨"AlikeStore$Budgets", "tabulate", "(I)V"⟩, prog_2_method_6_code, 5, none)
set_option maxRecDepth 100000 in
theorem M_Bu_tabulate_ok : ev_ok M_Bu_tabulate 1 := ⟨ev_m 775 (by decide +kernel) rfl, ev_m 7 (by decide +kernel) rfl, by decide +kernel, ⟨by decide +kernel, by decide +kernel⟩, by decide +kernel, by decide +kernel⟩
set_option maxRecDepth 100000 in
theorem M_Bu_tabulate_in : Cond.instanceMethod M_Bu_tabulate.1 ∈ ev_ws := ev_m 773 (by decide +kernel) rfl
set_option maxRecDepth 100000 in
theorem M_Bu_tabulate_se : Cond.selects M_Bu_tabulate.1.cls M_Bu_tabulate.1 M_Bu_tabulate.1 ∈ ev_ws := ev_m 774 (by decide +kernel) rfl
abbrev M_Bu_choose : ev_M := (⟨"AlikeStore$Budgets", "choose", "(I)I"⟩, prog_2_method_7_code, 6, some .int)
set_option maxRecDepth 100000 in
theorem M_Bu_choose_ok : ev_ok M_Bu_choose 1 := ⟨ev_m 789 (by decide +kernel) rfl, ev_m 7 (by decide +kernel) rfl, by decide +kernel, ⟨by decide +kernel, by decide +kernel⟩, by decide +kernel, by decide +kernel⟩
set_option maxRecDepth 100000 in
theorem M_Bu_choose_in : Cond.instanceMethod M_Bu_choose.1 ∈ ev_ws := ev_m 787 (by decide +kernel) rfl
set_option maxRecDepth 100000 in
theorem M_Bu_choose_se : Cond.selects M_Bu_choose.1.cls M_Bu_choose.1 M_Bu_choose.1 ∈ ev_ws := ev_m 788 (by decide +kernel) rfl
abbrev M_Bu_cheapestShare : ev_M := (⟨"AlikeStore$Budgets", "cheapestShare", "(II)I"⟩, prog_2_method_8_code, 7, some .int)
set_option maxRecDepth 100000 in
theorem M_Bu_cheapestShare_ok : ev_ok M_Bu_cheapestShare 2 := ⟨ev_m 780 (by decide +kernel) rfl, ev_m 7 (by decide +kernel) rfl, by decide +kernel, ⟨by decide +kernel, by decide +kernel⟩, by decide +kernel, by decide +kernel⟩
set_option maxRecDepth 100000 in
theorem M_Bu_cheapestShare_in : Cond.instanceMethod M_Bu_cheapestShare.1 ∈ ev_ws := ev_m 779 (by decide +kernel) rfl
set_option maxRecDepth 100000 in
theorem M_Bu_cheapestShare_se : Cond.selects M_Bu_cheapestShare.1.cls M_Bu_cheapestShare.1 M_Bu_cheapestShare.1 ∈ ev_ws := ev_mp 24 (by decide +kernel) rfl
abbrev M_Bu_costWith : ev_M := (⟨"AlikeStore$Budgets", "costWith", "(III)I"⟩, prog_2_method_9_code, 4, some .int)
set_option maxRecDepth 100000 in
theorem M_Bu_costWith_ok : ev_ok M_Bu_costWith 3 := ⟨ev_m 784 (by decide +kernel) rfl, ev_m 7 (by decide +kernel) rfl, by decide +kernel, ⟨by decide +kernel, by decide +kernel⟩, by decide +kernel, by decide +kernel⟩
set_option maxRecDepth 100000 in
theorem M_Bu_costWith_in : Cond.instanceMethod M_Bu_costWith.1 ∈ ev_ws := ev_m 783 (by decide +kernel) rfl
set_option maxRecDepth 100000 in
theorem M_Bu_costWith_se : Cond.selects M_Bu_costWith.1.cls M_Bu_costWith.1 M_Bu_costWith.1 ∈ ev_ws := ev_mp 25 (by decide +kernel) rfl
abbrev M_Bu_candidates : ev_M := (⟨"AlikeStore$Budgets", "candidates", "([JIJ)I"⟩, prog_2_method_10_code, 11, some .int)
set_option maxRecDepth 100000 in
theorem M_Bu_candidates_ok : ev_ok M_Bu_candidates 3 := ⟨ev_m 802 (by decide +kernel) rfl, ev_m 7 (by decide +kernel) rfl, by decide +kernel, ⟨by decide +kernel, by decide +kernel⟩, by decide +kernel, by decide +kernel⟩
set_option maxRecDepth 100000 in
theorem M_Bu_candidates_in : Cond.instanceMethod M_Bu_candidates.1 ∈ ev_ws := ev_m 800 (by decide +kernel) rfl
set_option maxRecDepth 100000 in
theorem M_Bu_candidates_se : Cond.selects M_Bu_candidates.1.cls M_Bu_candidates.1 M_Bu_candidates.1 ∈ ev_ws := ev_m 801 (by decide +kernel) rfl
abbrev M_Fi_init : ev_M := (⟨"AlikeStore$Filter", "<init>", "(LAlikeStore$Steps;)V"⟩, prog_3_method_1_code, 3, none)
set_option maxRecDepth 100000 in
theorem M_Fi_init_ok : ev_ok M_Fi_init 1 := ⟨ev_m 493 (by decide +kernel) rfl, ev_m 16 (by decide +kernel) rfl, by decide +kernel, ⟨by decide +kernel, by decide +kernel⟩, by decide +kernel, by decide +kernel⟩
set_option maxRecDepth 100000 in
theorem M_Fi_init_in : Cond.instanceMethod M_Fi_init.1 ∈ ev_ws := ev_m 492 (by decide +kernel) rfl
abbrev M_Fi_holds : ev_M := (⟨"AlikeStore$Filter", "holds", "(LAlikeStore$Store;I)Z"⟩, prog_3_method_2_code, 7, some .boolean)
set_option maxRecDepth 100000 in
theorem M_Fi_holds_ok : ev_ok M_Fi_holds 2 := ⟨ev_m 570 (by decide +kernel) rfl, ev_m 16 (by decide +kernel) rfl, by decide +kernel, ⟨by decide +kernel, by decide +kernel⟩, by decide +kernel, by decide +kernel⟩
set_option maxRecDepth 100000 in
theorem M_Fi_holds_in : Cond.instanceMethod M_Fi_holds.1 ∈ ev_ws := ev_m 568 (by decide +kernel) rfl
set_option maxRecDepth 100000 in
theorem M_Fi_holds_se : Cond.selects M_Fi_holds.1.cls M_Fi_holds.1 M_Fi_holds.1 ∈ ev_ws := ev_m 569 (by decide +kernel) rfl
abbrev M_Fi_holdsFact : ev_M := (⟨"AlikeStore$Filter", "holdsFact", "(LAlikeStore$Store;II)Z"⟩, prog_3_method_3_code, 5, some .boolean)
set_option maxRecDepth 100000 in
theorem M_Fi_holdsFact_ok : ev_ok M_Fi_holdsFact 3 := ⟨ev_m 574 (by decide +kernel) rfl, ev_m 16 (by decide +kernel) rfl, by decide +kernel, ⟨by decide +kernel, by decide +kernel⟩, by decide +kernel, by decide +kernel⟩
set_option maxRecDepth 100000 in
theorem M_Fi_holdsFact_in : Cond.instanceMethod M_Fi_holdsFact.1 ∈ ev_ws := ev_m 573 (by decide +kernel) rfl
set_option maxRecDepth 100000 in
theorem M_Fi_holdsFact_se : Cond.selects M_Fi_holdsFact.1.cls M_Fi_holdsFact.1 M_Fi_holdsFact.1 ∈ ev_ws := ev_mp 16 (by decide +kernel) rfl
abbrev M_Fi_valueOf : ev_M := (⟨"AlikeStore$Filter", "valueOf", "(LAlikeStore$Store;II)I"⟩, prog_3_method_4_code, 5, some .int)
set_option maxRecDepth 100000 in
theorem M_Fi_valueOf_ok : ev_ok M_Fi_valueOf 3 := ⟨ev_m 578 (by decide +kernel) rfl, ev_m 16 (by decide +kernel) rfl, by decide +kernel, ⟨by decide +kernel, by decide +kernel⟩, by decide +kernel, by decide +kernel⟩
set_option maxRecDepth 100000 in
theorem M_Fi_valueOf_in : Cond.instanceMethod M_Fi_valueOf.1 ∈ ev_ws := ev_m 577 (by decide +kernel) rfl
set_option maxRecDepth 100000 in
theorem M_Fi_valueOf_se : Cond.selects M_Fi_valueOf.1.cls M_Fi_valueOf.1 M_Fi_valueOf.1 ∈ ev_ws := ev_mp 17 (by decide +kernel) rfl
abbrev M_Hi_init : ev_M := (⟨"AlikeStore$History", "<init>", "()V"⟩, prog_4_method_1_code, 2, none)
set_option maxRecDepth 100000 in
theorem M_Hi_init_ok : ev_ok M_Hi_init 0 := ⟨ev_m 167 (by decide +kernel) rfl, ev_m 6 (by decide +kernel) rfl, by decide +kernel, ⟨by decide +kernel, by decide +kernel⟩, by decide +kernel, by decide +kernel⟩
set_option maxRecDepth 100000 in
theorem M_Hi_init_in : Cond.instanceMethod M_Hi_init.1 ∈ ev_ws := ev_m 166 (by decide +kernel) rfl
abbrev M_Hi_keep : ev_M := (⟨"AlikeStore$History", "keep", "(LAlikeStore$Store;)V"⟩, prog_4_method_2_code, 2, none)
set_option maxRecDepth 100000 in
theorem M_Hi_keep_ok : ev_ok M_Hi_keep 1 := ⟨ev_m 540 (by decide +kernel) rfl, ev_m 6 (by decide +kernel) rfl, by decide +kernel, ⟨by decide +kernel, by decide +kernel⟩, by decide +kernel, by decide +kernel⟩
set_option maxRecDepth 100000 in
theorem M_Hi_keep_in : Cond.instanceMethod M_Hi_keep.1 ∈ ev_ws := ev_m 538 (by decide +kernel) rfl
set_option maxRecDepth 100000 in
theorem M_Hi_keep_se : Cond.selects M_Hi_keep.1.cls M_Hi_keep.1 M_Hi_keep.1 ∈ ev_ws := ev_m 539 (by decide +kernel) rfl
abbrev M_Hi_takeBackAct : ev_M := (⟨"AlikeStore$History", "takeBackAct", "(LAlikeStore$Store;)V"⟩, prog_4_method_3_code, 2, none)
set_option maxRecDepth 100000 in
theorem M_Hi_takeBackAct_ok : ev_ok M_Hi_takeBackAct 1 := ⟨ev_m 727 (by decide +kernel) rfl, ev_m 6 (by decide +kernel) rfl, by decide +kernel, ⟨by decide +kernel, by decide +kernel⟩, by decide +kernel, by decide +kernel⟩
set_option maxRecDepth 100000 in
theorem M_Hi_takeBackAct_in : Cond.instanceMethod M_Hi_takeBackAct.1 ∈ ev_ws := ev_m 725 (by decide +kernel) rfl
set_option maxRecDepth 100000 in
theorem M_Hi_takeBackAct_se : Cond.selects M_Hi_takeBackAct.1.cls M_Hi_takeBackAct.1 M_Hi_takeBackAct.1 ∈ ev_ws := ev_m 726 (by decide +kernel) rfl
abbrev M_Hi_putMark : ev_M := (⟨"AlikeStore$History", "putMark", "(LAlikeStore$Store;)V"⟩, prog_4_method_4_code, 2, none)
set_option maxRecDepth 100000 in
theorem M_Hi_putMark_ok : ev_ok M_Hi_putMark 1 := ⟨ev_m 735 (by decide +kernel) rfl, ev_m 6 (by decide +kernel) rfl, by decide +kernel, ⟨by decide +kernel, by decide +kernel⟩, by decide +kernel, by decide +kernel⟩
set_option maxRecDepth 100000 in
theorem M_Hi_putMark_in : Cond.instanceMethod M_Hi_putMark.1 ∈ ev_ws := ev_m 733 (by decide +kernel) rfl
set_option maxRecDepth 100000 in
theorem M_Hi_putMark_se : Cond.selects M_Hi_putMark.1.cls M_Hi_putMark.1 M_Hi_putMark.1 ∈ ev_ws := ev_m 734 (by decide +kernel) rfl
abbrev M_Hi_takeBackMark : ev_M := (⟨"AlikeStore$History", "takeBackMark", "(LAlikeStore$Store;)V"⟩, prog_4_method_5_code, 2, none)
set_option maxRecDepth 100000 in
theorem M_Hi_takeBackMark_ok : ev_ok M_Hi_takeBackMark 1 := ⟨ev_m 743 (by decide +kernel) rfl, ev_m 6 (by decide +kernel) rfl, by decide +kernel, ⟨by decide +kernel, by decide +kernel⟩, by decide +kernel, by decide +kernel⟩
set_option maxRecDepth 100000 in
theorem M_Hi_takeBackMark_in : Cond.instanceMethod M_Hi_takeBackMark.1 ∈ ev_ws := ev_m 741 (by decide +kernel) rfl
set_option maxRecDepth 100000 in
theorem M_Hi_takeBackMark_se : Cond.selects M_Hi_takeBackMark.1.cls M_Hi_takeBackMark.1 M_Hi_takeBackMark.1 ∈ ev_ws := ev_m 742 (by decide +kernel) rfl
abbrev M_Ra_init : ev_M := (⟨"AlikeStore$Ranking", "<init>", "()V"⟩, prog_5_method_1_code, 1, none)
set_option maxRecDepth 100000 in
theorem M_Ra_init_ok : ev_ok M_Ra_init 0 := ⟨ev_m 220 (by decide +kernel) rfl, ev_m 8 (by decide +kernel) rfl, by decide +kernel, ⟨by decide +kernel, by decide +kernel⟩, by decide +kernel, by decide +kernel⟩
set_option maxRecDepth 100000 in
theorem M_Ra_init_in : Cond.instanceMethod M_Ra_init.1 ∈ ev_ws := ev_m 219 (by decide +kernel) rfl
abbrev M_Ra_rank : ev_M := (⟨"AlikeStore$Ranking", "rank", "([JIJ)V"⟩, prog_5_method_2_code, 6, none)
set_option maxRecDepth 100000 in
theorem M_Ra_rank_ok : ev_ok M_Ra_rank 3 := ⟨ev_m 816 (by decide +kernel) rfl, ev_m 8 (by decide +kernel) rfl, by decide +kernel, ⟨by decide +kernel, by decide +kernel⟩, by decide +kernel, by decide +kernel⟩
set_option maxRecDepth 100000 in
theorem M_Ra_rank_in : Cond.instanceMethod M_Ra_rank.1 ∈ ev_ws := ev_m 814 (by decide +kernel) rfl
set_option maxRecDepth 100000 in
theorem M_Ra_rank_se : Cond.selects M_Ra_rank.1.cls M_Ra_rank.1 M_Ra_rank.1 ∈ ev_ws := ev_m 815 (by decide +kernel) rfl
abbrev M_Ra_insert : ev_M := (⟨"AlikeStore$Ranking", "insert", "(II)V"⟩, prog_5_method_3_code, 4, none)
set_option maxRecDepth 100000 in
theorem M_Ra_insert_ok : ev_ok M_Ra_insert 2 := ⟨ev_m 822 (by decide +kernel) rfl, ev_m 8 (by decide +kernel) rfl, by decide +kernel, ⟨by decide +kernel, by decide +kernel⟩, by decide +kernel, by decide +kernel⟩
set_option maxRecDepth 100000 in
theorem M_Ra_insert_in : Cond.instanceMethod M_Ra_insert.1 ∈ ev_ws := ev_m 821 (by decide +kernel) rfl
set_option maxRecDepth 100000 in
theorem M_Ra_insert_se : Cond.selects M_Ra_insert.1.cls M_Ra_insert.1 M_Ra_insert.1 ∈ ev_ws := ev_mp 26 (by decide +kernel) rfl
abbrev M_Ra_takenApart : ev_M := (⟨"AlikeStore$Ranking", "takenApart", "([JI)I"⟩, prog_5_method_4_code, 7, some .int)
set_option maxRecDepth 100000 in
theorem M_Ra_takenApart_ok : ev_ok M_Ra_takenApart 2 := ⟨ev_m 836 (by decide +kernel) rfl, ev_m 8 (by decide +kernel) rfl, by decide +kernel, ⟨by decide +kernel, by decide +kernel⟩, by decide +kernel, by decide +kernel⟩
set_option maxRecDepth 100000 in
theorem M_Ra_takenApart_in : Cond.instanceMethod M_Ra_takenApart.1 ∈ ev_ws := ev_m 834 (by decide +kernel) rfl
set_option maxRecDepth 100000 in
theorem M_Ra_takenApart_se : Cond.selects M_Ra_takenApart.1.cls M_Ra_takenApart.1 M_Ra_takenApart.1 ∈ ev_ws := ev_m 835 (by decide +kernel) rfl
abbrev M_Re_init : ev_M := (⟨"AlikeStore$Reader", "<init>", "()V"⟩, prog_6_method_1_code, 1, none)
set_option maxRecDepth 100000 in
theorem M_Re_init_ok : ev_ok M_Re_init 0 := ⟨ev_m 84 (by decide +kernel) rfl, ev_m 3 (by decide +kernel) rfl, by decide +kernel, ⟨by decide +kernel, by decide +kernel⟩, by decide +kernel, by decide +kernel⟩
set_option maxRecDepth 100000 in
theorem M_Re_init_in : Cond.instanceMethod M_Re_init.1 ∈ ev_ws := ev_m 83 (by decide +kernel) rfl
abbrev M_Re_read : ev_M := (⟨"AlikeStore$Reader", "read", "(I)I"⟩, prog_6_method_2_code, 4, some .int)
set_option maxRecDepth 100000 in
theorem M_Re_read_ok : ev_ok M_Re_read 1 := ⟨ev_m 285 (by decide +kernel) rfl, ev_m 3 (by decide +kernel) rfl, by decide +kernel, ⟨by decide +kernel, by decide +kernel⟩, by decide +kernel, by decide +kernel⟩
set_option maxRecDepth 100000 in
theorem M_Re_read_in : Cond.instanceMethod M_Re_read.1 ∈ ev_ws := ev_m 283 (by decide +kernel) rfl
set_option maxRecDepth 100000 in
theorem M_Re_read_se : Cond.selects M_Re_read.1.cls M_Re_read.1 M_Re_read.1 ∈ ev_ws := ev_m 284 (by decide +kernel) rfl
abbrev M_Re_place : ev_M := (⟨"AlikeStore$Reader", "place", "()I"⟩, prog_6_method_3_code, 1, some .int)
set_option maxRecDepth 100000 in
theorem M_Re_place_ok : ev_ok M_Re_place 0 := ⟨ev_m 536 (by decide +kernel) rfl, ev_m 3 (by decide +kernel) rfl, by decide +kernel, ⟨by decide +kernel, by decide +kernel⟩, by decide +kernel, by decide +kernel⟩
set_option maxRecDepth 100000 in
theorem M_Re_place_in : Cond.instanceMethod M_Re_place.1 ∈ ev_ws := ev_m 534 (by decide +kernel) rfl
set_option maxRecDepth 100000 in
theorem M_Re_place_se : Cond.selects M_Re_place.1.cls M_Re_place.1 M_Re_place.1 ∈ ev_ws := ev_m 535 (by decide +kernel) rfl
abbrev M_Re_next : ev_M := (⟨"AlikeStore$Reader", "next", "()V"⟩, prog_6_method_4_code, 8, none)
set_option maxRecDepth 100000 in
theorem M_Re_next_ok : ev_ok M_Re_next 0 := ⟨ev_m 296 (by decide +kernel) rfl, ev_m 3 (by decide +kernel) rfl, by decide +kernel, ⟨by decide +kernel, by decide +kernel⟩, by decide +kernel, by decide +kernel⟩
set_option maxRecDepth 100000 in
theorem M_Re_next_in : Cond.instanceMethod M_Re_next.1 ∈ ev_ws := ev_m 295 (by decide +kernel) rfl
set_option maxRecDepth 100000 in
theorem M_Re_next_se : Cond.selects M_Re_next.1.cls M_Re_next.1 M_Re_next.1 ∈ ev_ws := ev_mp 1 (by decide +kernel) rfl
abbrev M_Re_isWord : ev_M := (⟨"AlikeStore$Reader", "isWord", "(Ljava/lang/String;)Z"⟩, prog_6_method_5_code, 3, some .boolean)
set_option maxRecDepth 100000 in
theorem M_Re_isWord_ok : ev_ok M_Re_isWord 1 := ⟨ev_m 386 (by decide +kernel) rfl, ev_m 3 (by decide +kernel) rfl, by decide +kernel, ⟨by decide +kernel, by decide +kernel⟩, by decide +kernel, by decide +kernel⟩
set_option maxRecDepth 100000 in
theorem M_Re_isWord_in : Cond.instanceMethod M_Re_isWord.1 ∈ ev_ws := ev_m 385 (by decide +kernel) rfl
set_option maxRecDepth 100000 in
theorem M_Re_isWord_se : Cond.selects M_Re_isWord.1.cls M_Re_isWord.1 M_Re_isWord.1 ∈ ev_ws := ev_mp 2 (by decide +kernel) rfl
abbrev M_Re_sign : ev_M := (⟨"AlikeStore$Reader", "sign", "(I)I"⟩, prog_6_method_6_code, 2, some .int)
set_option maxRecDepth 100000 in
theorem M_Re_sign_ok : ev_ok M_Re_sign 1 := ⟨ev_m 419 (by decide +kernel) rfl, ev_m 3 (by decide +kernel) rfl, by decide +kernel, ⟨by decide +kernel, by decide +kernel⟩, by decide +kernel, by decide +kernel⟩
set_option maxRecDepth 100000 in
theorem M_Re_sign_in : Cond.instanceMethod M_Re_sign.1 ∈ ev_ws := ev_m 418 (by decide +kernel) rfl
set_option maxRecDepth 100000 in
theorem M_Re_sign_se : Cond.selects M_Re_sign.1.cls M_Re_sign.1 M_Re_sign.1 ∈ ev_ws := ev_mp 5 (by decide +kernel) rfl
abbrev M_Re_number : ev_M := (⟨"AlikeStore$Reader", "number", "(II)I"⟩, prog_6_method_7_code, 5, some .int)
set_option maxRecDepth 100000 in
theorem M_Re_number_ok : ev_ok M_Re_number 2 := ⟨ev_m 415 (by decide +kernel) rfl, ev_m 3 (by decide +kernel) rfl, by decide +kernel, ⟨by decide +kernel, by decide +kernel⟩, by decide +kernel, by decide +kernel⟩
set_option maxRecDepth 100000 in
theorem M_Re_number_in : Cond.instanceMethod M_Re_number.1 ∈ ev_ws := ev_m 414 (by decide +kernel) rfl
set_option maxRecDepth 100000 in
theorem M_Re_number_se : Cond.selects M_Re_number.1.cls M_Re_number.1 M_Re_number.1 ∈ ev_ws := ev_mp 4 (by decide +kernel) rfl
abbrev M_Re_binary : ev_M := (⟨"AlikeStore$Reader", "binary", "()J"⟩, prog_6_method_8_code, 4, some .long)
set_option maxRecDepth 100000 in
theorem M_Re_binary_ok : ev_ok M_Re_binary 0 := ⟨ev_m 434 (by decide +kernel) rfl, ev_m 3 (by decide +kernel) rfl, by decide +kernel, ⟨by decide +kernel, by decide +kernel⟩, by decide +kernel, by decide +kernel⟩
set_option maxRecDepth 100000 in
theorem M_Re_binary_in : Cond.instanceMethod M_Re_binary.1 ∈ ev_ws := ev_m 433 (by decide +kernel) rfl
set_option maxRecDepth 100000 in
theorem M_Re_binary_se : Cond.selects M_Re_binary.1.cls M_Re_binary.1 M_Re_binary.1 ∈ ev_ws := ev_mp 8 (by decide +kernel) rfl
abbrev M_Re_readBits : ev_M := (⟨"AlikeStore$Reader", "readBits", "()I"⟩, prog_6_method_9_code, 2, some .int)
set_option maxRecDepth 100000 in
theorem M_Re_readBits_ok : ev_ok M_Re_readBits 0 := ⟨ev_m 411 (by decide +kernel) rfl, ev_m 3 (by decide +kernel) rfl, by decide +kernel, ⟨by decide +kernel, by decide +kernel⟩, by decide +kernel, by decide +kernel⟩
set_option maxRecDepth 100000 in
theorem M_Re_readBits_in : Cond.instanceMethod M_Re_readBits.1 ∈ ev_ws := ev_m 410 (by decide +kernel) rfl
set_option maxRecDepth 100000 in
theorem M_Re_readBits_se : Cond.selects M_Re_readBits.1.cls M_Re_readBits.1 M_Re_readBits.1 ∈ ev_ws := ev_mp 3 (by decide +kernel) rfl
abbrev M_Re_readParts : ev_M := (⟨"AlikeStore$Reader", "readParts", "()I"⟩, prog_6_method_10_code, 4, some .int)
set_option maxRecDepth 100000 in
theorem M_Re_readParts_ok : ev_ok M_Re_readParts 0 := ⟨ev_m 425 (by decide +kernel) rfl, ev_m 3 (by decide +kernel) rfl, by decide +kernel, ⟨by decide +kernel, by decide +kernel⟩, by decide +kernel, by decide +kernel⟩
set_option maxRecDepth 100000 in
theorem M_Re_readParts_in : Cond.instanceMethod M_Re_readParts.1 ∈ ev_ws := ev_m 424 (by decide +kernel) rfl
set_option maxRecDepth 100000 in
theorem M_Re_readParts_se : Cond.selects M_Re_readParts.1.cls M_Re_readParts.1 M_Re_readParts.1 ∈ ev_ws := ev_mp 6 (by decide +kernel) rfl
abbrev M_Re_readCode : ev_M := (⟨"AlikeStore$Reader", "readCode", "()I"⟩, prog_6_method_11_code, 4, some .int)
set_option maxRecDepth 100000 in
theorem M_Re_readCode_ok : ev_ok M_Re_readCode 0 := ⟨ev_m 430 (by decide +kernel) rfl, ev_m 3 (by decide +kernel) rfl, by decide +kernel, ⟨by decide +kernel, by decide +kernel⟩, by decide +kernel, by decide +kernel⟩
set_option maxRecDepth 100000 in
theorem M_Re_readCode_in : Cond.instanceMethod M_Re_readCode.1 ∈ ev_ws := ev_m 429 (by decide +kernel) rfl
set_option maxRecDepth 100000 in
theorem M_Re_readCode_se : Cond.selects M_Re_readCode.1.cls M_Re_readCode.1 M_Re_readCode.1 ∈ ev_ws := ev_mp 7 (by decide +kernel) rfl
abbrev M_Re_readFilter : ev_M := (⟨"AlikeStore$Reader", "readFilter", "()I"⟩, prog_6_method_12_code, 2, some .int)
set_option maxRecDepth 100000 in
theorem M_Re_readFilter_ok : ev_ok M_Re_readFilter 0 := ⟨ev_m 450 (by decide +kernel) rfl, ev_m 3 (by decide +kernel) rfl, by decide +kernel, ⟨by decide +kernel, by decide +kernel⟩, by decide +kernel, by decide +kernel⟩
set_option maxRecDepth 100000 in
theorem M_Re_readFilter_in : Cond.instanceMethod M_Re_readFilter.1 ∈ ev_ws := ev_m 449 (by decide +kernel) rfl
set_option maxRecDepth 100000 in
theorem M_Re_readFilter_se : Cond.selects M_Re_readFilter.1.cls M_Re_readFilter.1 M_Re_readFilter.1 ∈ ev_ws := ev_mp 9 (by decide +kernel) rfl
abbrev M_Re_readTest : ev_M := (⟨"AlikeStore$Reader", "readTest", "(I)I"⟩, prog_6_method_13_code, 4, some .int)
set_option maxRecDepth 100000 in
theorem M_Re_readTest_ok : ev_ok M_Re_readTest 1 := ⟨ev_m 454 (by decide +kernel) rfl, ev_m 3 (by decide +kernel) rfl, by decide +kernel, ⟨by decide +kernel, by decide +kernel⟩, by decide +kernel, by decide +kernel⟩
set_option maxRecDepth 100000 in
theorem M_Re_readTest_in : Cond.instanceMethod M_Re_readTest.1 ∈ ev_ws := ev_m 453 (by decide +kernel) rfl
set_option maxRecDepth 100000 in
theorem M_Re_readTest_se : Cond.selects M_Re_readTest.1.cls M_Re_readTest.1 M_Re_readTest.1 ∈ ev_ws := ev_mp 10 (by decide +kernel) rfl
abbrev M_Re_readSide : ev_M := (⟨"AlikeStore$Reader", "readSide", "(I)I"⟩, prog_6_method_14_code, 4, some .int)
set_option maxRecDepth 100000 in
theorem M_Re_readSide_ok : ev_ok M_Re_readSide 1 := ⟨ev_m 458 (by decide +kernel) rfl, ev_m 3 (by decide +kernel) rfl, by decide +kernel, ⟨by decide +kernel, by decide +kernel⟩, by decide +kernel, by decide +kernel⟩
set_option maxRecDepth 100000 in
theorem M_Re_readSide_in : Cond.instanceMethod M_Re_readSide.1 ∈ ev_ws := ev_m 457 (by decide +kernel) rfl
set_option maxRecDepth 100000 in
theorem M_Re_readSide_se : Cond.selects M_Re_readSide.1.cls M_Re_readSide.1 M_Re_readSide.1 ∈ ev_ws := ev_mp 11 (by decide +kernel) rfl
abbrev M_Re_readFact : ev_M := (⟨"AlikeStore$Reader", "readFact", "(I)I"⟩, prog_6_method_15_code, 4, some .int)
set_option maxRecDepth 100000 in
theorem M_Re_readFact_ok : ev_ok M_Re_readFact 1 := ⟨ev_m 462 (by decide +kernel) rfl, ev_m 3 (by decide +kernel) rfl, by decide +kernel, ⟨by decide +kernel, by decide +kernel⟩, by decide +kernel, by decide +kernel⟩
set_option maxRecDepth 100000 in
theorem M_Re_readFact_in : Cond.instanceMethod M_Re_readFact.1 ∈ ev_ws := ev_m 461 (by decide +kernel) rfl
set_option maxRecDepth 100000 in
theorem M_Re_readFact_se : Cond.selects M_Re_readFact.1.cls M_Re_readFact.1 M_Re_readFact.1 ∈ ev_ws := ev_mp 12 (by decide +kernel) rfl
abbrev M_Re_readComparison : ev_M := (⟨"AlikeStore$Reader", "readComparison", "(I)I"⟩, prog_6_method_16_code, 7, some .int)
set_option maxRecDepth 100000 in
theorem M_Re_readComparison_ok : ev_ok M_Re_readComparison 1 := ⟨ev_m 476 (by decide +kernel) rfl, ev_m 3 (by decide +kernel) rfl, by decide +kernel, ⟨by decide +kernel, by decide +kernel⟩, by decide +kernel, by decide +kernel⟩
set_option maxRecDepth 100000 in
theorem M_Re_readComparison_in : Cond.instanceMethod M_Re_readComparison.1 ∈ ev_ws := ev_m 475 (by decide +kernel) rfl
set_option maxRecDepth 100000 in
theorem M_Re_readComparison_se : Cond.selects M_Re_readComparison.1.cls M_Re_readComparison.1 M_Re_readComparison.1 ∈ ev_ws := ev_mp 14 (by decide +kernel) rfl
abbrev M_Re_valueKind : ev_M := (⟨"AlikeStore$Reader", "valueKind", "()I"⟩, prog_6_method_17_code, 1, some .int)
set_option maxRecDepth 100000 in
theorem M_Re_valueKind_ok : ev_ok M_Re_valueKind 0 := ⟨ev_m 467 (by decide +kernel) rfl, ev_m 3 (by decide +kernel) rfl, by decide +kernel, ⟨by decide +kernel, by decide +kernel⟩, by decide +kernel, by decide +kernel⟩
set_option maxRecDepth 100000 in
theorem M_Re_valueKind_in : Cond.instanceMethod M_Re_valueKind.1 ∈ ev_ws := ev_m 466 (by decide +kernel) rfl
set_option maxRecDepth 100000 in
theorem M_Re_valueKind_se : Cond.selects M_Re_valueKind.1.cls M_Re_valueKind.1 M_Re_valueKind.1 ∈ ev_ws := ev_mp 13 (by decide +kernel) rfl
abbrev M_Sp_init : ev_M := (⟨"AlikeStore$Steps", "<init>", "()V"⟩, prog_7_method_1_code, 1, none)
set_option maxRecDepth 100000 in
theorem M_Sp_init_ok : ev_ok M_Sp_init 0 := ⟨ev_m 90 (by decide +kernel) rfl, ev_m 4 (by decide +kernel) rfl, by decide +kernel, ⟨by decide +kernel, by decide +kernel⟩, by decide +kernel, by decide +kernel⟩
set_option maxRecDepth 100000 in
theorem M_Sp_init_in : Cond.instanceMethod M_Sp_init.1 ∈ ev_ws := ev_m 89 (by decide +kernel) rfl
abbrev M_Sp_join : ev_M := (⟨"AlikeStore$Steps", "join", "(I)V"⟩, prog_7_method_2_code, 2, none)
set_option maxRecDepth 100000 in
theorem M_Sp_join_ok : ev_ok M_Sp_join 1 := ⟨ev_m 485 (by decide +kernel) rfl, ev_m 4 (by decide +kernel) rfl, by decide +kernel, ⟨by decide +kernel, by decide +kernel⟩, by decide +kernel, by decide +kernel⟩
set_option maxRecDepth 100000 in
theorem M_Sp_join_in : Cond.instanceMethod M_Sp_join.1 ∈ ev_ws := ev_m 483 (by decide +kernel) rfl
set_option maxRecDepth 100000 in
theorem M_Sp_join_se : Cond.selects M_Sp_join.1.cls M_Sp_join.1 M_Sp_join.1 ∈ ev_ws := ev_m 484 (by decide +kernel) rfl
abbrev M_Sp_put : ev_M := (⟨"AlikeStore$Steps", "put", "(IIIIJ)V"⟩, prog_7_method_3_code, 7, none)
set_option maxRecDepth 100000 in
theorem M_Sp_put_ok : ev_ok M_Sp_put 5 := ⟨ev_m 481 (by decide +kernel) rfl, ev_m 4 (by decide +kernel) rfl, by decide +kernel, ⟨by decide +kernel, by decide +kernel⟩, by decide +kernel, by decide +kernel⟩
set_option maxRecDepth 100000 in
theorem M_Sp_put_in : Cond.instanceMethod M_Sp_put.1 ∈ ev_ws := ev_m 479 (by decide +kernel) rfl
set_option maxRecDepth 100000 in
theorem M_Sp_put_se : Cond.selects M_Sp_put.1.cls M_Sp_put.1 M_Sp_put.1 ∈ ev_ws := ev_m 480 (by decide +kernel) rfl
abbrev M_St_init : ev_M := (⟨"AlikeStore$Store", "<init>", "()V"⟩, prog_8_method_1_code, 1, none)
set_option maxRecDepth 100000 in
theorem M_St_init_ok : ev_ok M_St_init 0 := ⟨ev_m 33 (by decide +kernel) rfl, ev_m 2 (by decide +kernel) rfl, by decide +kernel, ⟨by decide +kernel, by decide +kernel⟩, by decide +kernel, by decide +kernel⟩
set_option maxRecDepth 100000 in
theorem M_St_init_in : Cond.instanceMethod M_St_init.1 ∈ ev_ws := ev_m 32 (by decide +kernel) rfl
abbrev M_St_clear : ev_M := (⟨"AlikeStore$Store", "clear", "()V"⟩, prog_8_method_2_code, 1, none)
set_option maxRecDepth 100000 in
theorem M_St_clear_ok : ev_ok M_St_clear 0 := ⟨ev_m 292 (by decide +kernel) rfl, ev_m 2 (by decide +kernel) rfl, by decide +kernel, ⟨by decide +kernel, by decide +kernel⟩, by decide +kernel, by decide +kernel⟩
set_option maxRecDepth 100000 in
theorem M_St_clear_in : Cond.instanceMethod M_St_clear.1 ∈ ev_ws := ev_m 290 (by decide +kernel) rfl
set_option maxRecDepth 100000 in
theorem M_St_clear_se : Cond.selects M_St_clear.1.cls M_St_clear.1 M_St_clear.1 ∈ ev_ws := ev_m 291 (by decide +kernel) rfl
abbrev M_St_halve : ev_M := (⟨"AlikeStore$Store", "halve", "()V"⟩, prog_8_method_3_code, 1, none)
set_option maxRecDepth 100000 in
theorem M_St_halve_ok : ev_ok M_St_halve 0 := ⟨ev_m 38 (by decide +kernel) rfl, ev_m 2 (by decide +kernel) rfl, by decide +kernel, ⟨by decide +kernel, by decide +kernel⟩, by decide +kernel, by decide +kernel⟩
set_option maxRecDepth 100000 in
theorem M_St_halve_in : Cond.instanceMethod M_St_halve.1 ∈ ev_ws := ev_m 36 (by decide +kernel) rfl
set_option maxRecDepth 100000 in
theorem M_St_halve_se : Cond.selects M_St_halve.1.cls M_St_halve.1 M_St_halve.1 ∈ ev_ws := ev_m 37 (by decide +kernel) rfl
abbrev M_St_become : ev_M := (⟨"AlikeStore$Store", "become", "(LAlikeStore$Store;)V"⟩, prog_8_method_4_code, 2, none)
set_option maxRecDepth 100000 in
theorem M_St_become_ok : ev_ok M_St_become 1 := ⟨ev_m 544 (by decide +kernel) rfl, ev_m 2 (by decide +kernel) rfl, by decide +kernel, ⟨by decide +kernel, by decide +kernel⟩, by decide +kernel, by decide +kernel⟩
set_option maxRecDepth 100000 in
theorem M_St_become_in : Cond.instanceMethod M_St_become.1 ∈ ev_ws := ev_m 542 (by decide +kernel) rfl
set_option maxRecDepth 100000 in
theorem M_St_become_se : Cond.selects M_St_become.1.cls M_St_become.1 M_St_become.1 ∈ ev_ws := ev_m 543 (by decide +kernel) rfl
abbrev M_St_append : ev_M := (⟨"AlikeStore$Store", "append", "(JI)V"⟩, prog_8_method_5_code, 4, none)
set_option maxRecDepth 100000 in
theorem M_St_append_ok : ev_ok M_St_append 2 := ⟨ev_m 445 (by decide +kernel) rfl, ev_m 2 (by decide +kernel) rfl, by decide +kernel, ⟨by decide +kernel, by decide +kernel⟩, by decide +kernel, by decide +kernel⟩
set_option maxRecDepth 100000 in
theorem M_St_append_in : Cond.instanceMethod M_St_append.1 ∈ ev_ws := ev_m 443 (by decide +kernel) rfl
set_option maxRecDepth 100000 in
theorem M_St_append_se : Cond.selects M_St_append.1.cls M_St_append.1 M_St_append.1 ∈ ev_ws := ev_m 444 (by decide +kernel) rfl
abbrev M_St_drop : ev_M := (⟨"AlikeStore$Store", "drop", "(I)V"⟩, prog_8_method_6_code, 3, none)
set_option maxRecDepth 100000 in
theorem M_St_drop_ok : ev_ok M_St_drop 1 := ⟨ev_m 677 (by decide +kernel) rfl, ev_m 2 (by decide +kernel) rfl, by decide +kernel, ⟨by decide +kernel, by decide +kernel⟩, by decide +kernel, by decide +kernel⟩
set_option maxRecDepth 100000 in
theorem M_St_drop_in : Cond.instanceMethod M_St_drop.1 ∈ ev_ws := ev_m 675 (by decide +kernel) rfl
set_option maxRecDepth 100000 in
theorem M_St_drop_se : Cond.selects M_St_drop.1.cls M_St_drop.1 M_St_drop.1 ∈ ev_ws := ev_m 676 (by decide +kernel) rfl
abbrev M_St_exchange : ev_M := (⟨"AlikeStore$Store", "exchange", "(II)I"⟩, prog_8_method_7_code, 5, some .int)
set_option maxRecDepth 100000 in
theorem M_St_exchange_ok : ev_ok M_St_exchange 2 := ⟨ev_m 693 (by decide +kernel) rfl, ev_m 2 (by decide +kernel) rfl, by decide +kernel, ⟨by decide +kernel, by decide +kernel⟩, by decide +kernel, by decide +kernel⟩
set_option maxRecDepth 100000 in
theorem M_St_exchange_in : Cond.instanceMethod M_St_exchange.1 ∈ ev_ws := ev_m 691 (by decide +kernel) rfl
set_option maxRecDepth 100000 in
theorem M_St_exchange_se : Cond.selects M_St_exchange.1.cls M_St_exchange.1 M_St_exchange.1 ∈ ev_ws := ev_m 692 (by decide +kernel) rfl
abbrev M_St_cutPart : ev_M := (⟨"AlikeStore$Store", "cutPart", "(II)V"⟩, prog_8_method_8_code, 4, none)
set_option maxRecDepth 100000 in
theorem M_St_cutPart_ok : ev_ok M_St_cutPart 2 := ⟨ev_m 706 (by decide +kernel) rfl, ev_m 2 (by decide +kernel) rfl, by decide +kernel, ⟨by decide +kernel, by decide +kernel⟩, by decide +kernel, by decide +kernel⟩
set_option maxRecDepth 100000 in
theorem M_St_cutPart_in : Cond.instanceMethod M_St_cutPart.1 ∈ ev_ws := ev_m 704 (by decide +kernel) rfl
set_option maxRecDepth 100000 in
theorem M_St_cutPart_se : Cond.selects M_St_cutPart.1.cls M_St_cutPart.1 M_St_cutPart.1 ∈ ev_ws := ev_m 705 (by decide +kernel) rfl
abbrev M_St_joinPart : ev_M := (⟨"AlikeStore$Store", "joinPart", "(I)V"⟩, prog_8_method_9_code, 3, none)
set_option maxRecDepth 100000 in
theorem M_St_joinPart_ok : ev_ok M_St_joinPart 1 := ⟨ev_m 715 (by decide +kernel) rfl, ev_m 2 (by decide +kernel) rfl, by decide +kernel, ⟨by decide +kernel, by decide +kernel⟩, by decide +kernel, by decide +kernel⟩
set_option maxRecDepth 100000 in
theorem M_St_joinPart_in : Cond.instanceMethod M_St_joinPart.1 ∈ ev_ws := ev_m 713 (by decide +kernel) rfl
set_option maxRecDepth 100000 in
theorem M_St_joinPart_se : Cond.selects M_St_joinPart.1.cls M_St_joinPart.1 M_St_joinPart.1 ∈ ev_ws := ev_m 714 (by decide +kernel) rfl
abbrev M_St_whereIs : ev_M := (⟨"AlikeStore$Store", "whereIs", "(J)I"⟩, prog_8_method_10_code, 4, some .int)
set_option maxRecDepth 100000 in
theorem M_St_whereIs_ok : ev_ok M_St_whereIs 1 := ⟨ev_m 440 (by decide +kernel) rfl, ev_m 2 (by decide +kernel) rfl, by decide +kernel, ⟨by decide +kernel, by decide +kernel⟩, by decide +kernel, by decide +kernel⟩
set_option maxRecDepth 100000 in
theorem M_St_whereIs_in : Cond.instanceMethod M_St_whereIs.1 ∈ ev_ws := ev_m 438 (by decide +kernel) rfl
set_option maxRecDepth 100000 in
theorem M_St_whereIs_se : Cond.selects M_St_whereIs.1.cls M_St_whereIs.1 M_St_whereIs.1 ∈ ev_ws := ev_m 439 (by decide +kernel) rfl
abbrev M_St_keyOf : ev_M := (⟨"AlikeStore$Store", "keyOf", "(II)I"⟩, prog_8_method_11_code, 5, some .int)
set_option maxRecDepth 100000 in
theorem M_St_keyOf_ok : ev_ok M_St_keyOf 2 := ⟨ev_m 591 (by decide +kernel) rfl, ev_m 2 (by decide +kernel) rfl, by decide +kernel, ⟨by decide +kernel, by decide +kernel⟩, by decide +kernel, by decide +kernel⟩
set_option maxRecDepth 100000 in
theorem M_St_keyOf_in : Cond.instanceMethod M_St_keyOf.1 ∈ ev_ws := ev_m 589 (by decide +kernel) rfl
set_option maxRecDepth 100000 in
theorem M_St_keyOf_se : Cond.selects M_St_keyOf.1.cls M_St_keyOf.1 M_St_keyOf.1 ∈ ev_ws := ev_m 590 (by decide +kernel) rfl
abbrev M_St_all : ev_M := (⟨"AlikeStore$Store", "all", "()I"⟩, prog_8_method_12_code, 1, some .int)
set_option maxRecDepth 100000 in
theorem M_St_all_ok : ev_ok M_St_all 0 := ⟨ev_m 566 (by decide +kernel) rfl, ev_m 2 (by decide +kernel) rfl, by decide +kernel, ⟨by decide +kernel, by decide +kernel⟩, by decide +kernel, by decide +kernel⟩
set_option maxRecDepth 100000 in
theorem M_St_all_in : Cond.instanceMethod M_St_all.1 ∈ ev_ws := ev_m 564 (by decide +kernel) rfl
set_option maxRecDepth 100000 in
theorem M_St_all_se : Cond.selects M_St_all.1.cls M_St_all.1 M_St_all.1 ∈ ev_ws := ev_m 565 (by decide +kernel) rfl
abbrev M_St_counting : ev_M := (⟨"AlikeStore$Store", "counting", "()I"⟩, prog_8_method_13_code, 3, some .int)
set_option maxRecDepth 100000 in
theorem M_St_counting_ok : ev_ok M_St_counting 0 := ⟨ev_m 562 (by decide +kernel) rfl, ev_m 2 (by decide +kernel) rfl, by decide +kernel, ⟨by decide +kernel, by decide +kernel⟩, by decide +kernel, by decide +kernel⟩
set_option maxRecDepth 100000 in
theorem M_St_counting_in : Cond.instanceMethod M_St_counting.1 ∈ ev_ws := ev_m 560 (by decide +kernel) rfl
set_option maxRecDepth 100000 in
theorem M_St_counting_se : Cond.selects M_St_counting.1.cls M_St_counting.1 M_St_counting.1 ∈ ev_ws := ev_m 561 (by decide +kernel) rfl
abbrev M_St_within : ev_M := (⟨"AlikeStore$Store", "within", "(IJI)I"⟩, prog_8_method_14_code, 7, some .int)
set_option maxRecDepth 100000 in
theorem M_St_within_ok : ev_ok M_St_within 3 := ⟨ev_m 806 (by decide +kernel) rfl, ev_m 2 (by decide +kernel) rfl, by decide +kernel, ⟨by decide +kernel, by decide +kernel⟩, by decide +kernel, by decide +kernel⟩
set_option maxRecDepth 100000 in
theorem M_St_within_in : Cond.instanceMethod M_St_within.1 ∈ ev_ws := ev_m 804 (by decide +kernel) rfl
set_option maxRecDepth 100000 in
theorem M_St_within_se : Cond.selects M_St_within.1.cls M_St_within.1 M_St_within.1 ∈ ev_ws := ev_m 805 (by decide +kernel) rfl
abbrev M_St_sameKey : ev_M := (⟨"AlikeStore$Store", "sameKey", "(III)I"⟩, prog_8_method_15_code, 7, some .int)
set_option maxRecDepth 100000 in
theorem M_St_sameKey_ok : ev_ok M_St_sameKey 3 := ⟨ev_m 932 (by decide +kernel) rfl, ev_m 2 (by decide +kernel) rfl, by decide +kernel, ⟨by decide +kernel, by decide +kernel⟩, by decide +kernel, by decide +kernel⟩
set_option maxRecDepth 100000 in
theorem M_St_sameKey_in : Cond.instanceMethod M_St_sameKey.1 ∈ ev_ws := ev_m 930 (by decide +kernel) rfl
set_option maxRecDepth 100000 in
theorem M_St_sameKey_se : Cond.selects M_St_sameKey.1.cls M_St_sameKey.1 M_St_sameKey.1 ∈ ev_ws := ev_m 931 (by decide +kernel) rfl
abbrev M_St_onesAt : ev_M := (⟨"AlikeStore$Store", "onesAt", "(II)I"⟩, prog_8_method_16_code, 5, some .int)
set_option maxRecDepth 100000 in
theorem M_St_onesAt_ok : ev_ok M_St_onesAt 2 := ⟨ev_m 905 (by decide +kernel) rfl, ev_m 2 (by decide +kernel) rfl, by decide +kernel, ⟨by decide +kernel, by decide +kernel⟩, by decide +kernel, by decide +kernel⟩
set_option maxRecDepth 100000 in
theorem M_St_onesAt_in : Cond.instanceMethod M_St_onesAt.1 ∈ ev_ws := ev_m 903 (by decide +kernel) rfl
set_option maxRecDepth 100000 in
theorem M_St_onesAt_se : Cond.selects M_St_onesAt.1.cls M_St_onesAt.1 M_St_onesAt.1 ∈ ev_ws := ev_m 904 (by decide +kernel) rfl
abbrev M_St_farFromAll : ev_M := (⟨"AlikeStore$Store", "farFromAll", "(IJ)I"⟩, prog_8_method_17_code, 6, some .int)
set_option maxRecDepth 100000 in
theorem M_St_farFromAll_ok : ev_ok M_St_farFromAll 2 := ⟨ev_m 896 (by decide +kernel) rfl, ev_m 2 (by decide +kernel) rfl, by decide +kernel, ⟨by decide +kernel, by decide +kernel⟩, by decide +kernel, by decide +kernel⟩
set_option maxRecDepth 100000 in
theorem M_St_farFromAll_in : Cond.instanceMethod M_St_farFromAll.1 ∈ ev_ws := ev_m 894 (by decide +kernel) rfl
set_option maxRecDepth 100000 in
theorem M_St_farFromAll_se : Cond.selects M_St_farFromAll.1.cls M_St_farFromAll.1 M_St_farFromAll.1 ∈ ev_ws := ev_m 895 (by decide +kernel) rfl
abbrev M_Ta_init : ev_M := (⟨"AlikeStore$Tape", "<init>", "()V"⟩, prog_9_method_1_code, 1, none)
set_option maxRecDepth 100000 in
theorem M_Ta_init_ok : ev_ok M_Ta_init 0 := ⟨ev_m 122 (by decide +kernel) rfl, ev_m 5 (by decide +kernel) rfl, by decide +kernel, ⟨by decide +kernel, by decide +kernel⟩, by decide +kernel, by decide +kernel⟩
set_option maxRecDepth 100000 in
theorem M_Ta_init_in : Cond.instanceMethod M_Ta_init.1 ∈ ev_ws := ev_m 121 (by decide +kernel) rfl
abbrev M_Ta_put : ev_M := (⟨"AlikeStore$Tape", "put", "(I)V"⟩, prog_9_method_2_code, 3, none)
set_option maxRecDepth 100000 in
theorem M_Ta_put_ok : ev_ok M_Ta_put 1 := ⟨ev_m 273 (by decide +kernel) rfl, ev_m 5 (by decide +kernel) rfl, by decide +kernel, ⟨by decide +kernel, by decide +kernel⟩, by decide +kernel, by decide +kernel⟩
set_option maxRecDepth 100000 in
theorem M_Ta_put_in : Cond.instanceMethod M_Ta_put.1 ∈ ev_ws := ev_m 271 (by decide +kernel) rfl
set_option maxRecDepth 100000 in
theorem M_Ta_put_se : Cond.selects M_Ta_put.1.cls M_Ta_put.1 M_Ta_put.1 ∈ ev_ws := ev_m 272 (by decide +kernel) rfl
abbrev M_La_law : ev_M := (x, code, 4, ret)
abbrev M_JI_bitCount : ev_M := (⟨"java/lang/Integer", "bitCount", "(I)I"⟩, prog_14_method_49_code, 1, some .int)
set_option maxRecDepth 100000 in
theorem M_JI_bitCount_ok : ev_ok M_JI_bitCount 1 := ⟨ev_m 598 (by decide +kernel) rfl, ev_m 20 (by decide +kernel) rfl, by decide +kernel, ⟨by decide +kernel, by decide +kernel⟩, by decide +kernel, by decide +kernel⟩
set_option maxRecDepth 100000 in
theorem M_JI_bitCount_st : Cond.static M_JI_bitCount.1 ∈ ev_ws := ev_m 597 (by decide +kernel) rfl
abbrev M_JL_bitCount : ev_M := (⟨"java/lang/Long", "bitCount", "(J)I"⟩, prog_15_method_50_code, 2, some .int)
set_option maxRecDepth 100000 in
theorem M_JL_bitCount_ok : ev_ok M_JL_bitCount 1 := ⟨ev_m 581 (by decide +kernel) rfl, ev_m 19 (by decide +kernel) rfl, by decide +kernel, ⟨by decide +kernel, by decide +kernel⟩, by decide +kernel, by decide +kernel⟩
set_option maxRecDepth 100000 in
theorem M_JL_bitCount_st : Cond.static M_JL_bitCount.1 ∈ ev_ws := ev_m 580 (by decide +kernel) rfl
abbrev M_JA_copyOf_AII : ev_M := (⟨"java/util/Arrays", "copyOf", "([II)[I"⟩, prog_21_method_123_code, 3, some (.array (.int)))
set_option maxRecDepth 100000 in
theorem M_JA_copyOf_AII_ok : ev_ok M_JA_copyOf_AII 2 := ⟨ev_m 497 (by decide +kernel) rfl, ev_m 17 (by decide +kernel) rfl, by decide +kernel, ⟨by decide +kernel, by decide +kernel⟩, by decide +kernel, by decide +kernel⟩
set_option maxRecDepth 100000 in
theorem M_JA_copyOf_AII_st : Cond.static M_JA_copyOf_AII.1 ∈ ev_ws := ev_m 496 (by decide +kernel) rfl
abbrev M_JA_copyOf_AJI : ev_M := (⟨"java/util/Arrays", "copyOf", "([JI)[J"⟩, prog_21_method_124_code, 3, some (.array (.long)))
set_option maxRecDepth 100000 in
theorem M_JA_copyOf_AJI_ok : ev_ok M_JA_copyOf_AJI 2 := ⟨ev_m 511 (by decide +kernel) rfl, ev_m 17 (by decide +kernel) rfl, by decide +kernel, ⟨by decide +kernel, by decide +kernel⟩, by decide +kernel, by decide +kernel⟩
set_option maxRecDepth 100000 in
theorem M_JA_copyOf_AJI_st : Cond.static M_JA_copyOf_AJI.1 ∈ ev_ws := ev_m 510 (by decide +kernel) rfl
abbrev M_JA_fill : ev_M := (⟨"java/util/Arrays", "fill", "([II)V"⟩, prog_21_method_103_code, 4, none)
set_option maxRecDepth 100000 in
theorem M_JA_fill_ok : ev_ok M_JA_fill 2 := ⟨ev_m 767 (by decide +kernel) rfl, ev_m 17 (by decide +kernel) rfl, by decide +kernel, ⟨by decide +kernel, by decide +kernel⟩, by decide +kernel, by decide +kernel⟩
set_option maxRecDepth 100000 in
theorem M_JA_fill_st : Cond.static M_JA_fill.1 ∈ ev_ws := ev_m 766 (by decide +kernel) rfl
set_option maxRecDepth 100000 in
theorem f_X_10 : ev_fld "AlikeStore" 10 8 0 (.object "AlikeStore$Store") true := ⟨_, _, c_X, by decide, rfl, rfl, rfl, ev_m 237 (by decide +kernel) rfl⟩
set_option maxRecDepth 100000 in
theorem f_X_19 : ev_fld "AlikeStore" 19 8 1 (.object "AlikeStore$Reader") true := ⟨_, _, c_X, by decide, rfl, rfl, rfl, ev_m 238 (by decide +kernel) rfl⟩
set_option maxRecDepth 100000 in
theorem f_X_26 : ev_fld "AlikeStore" 26 8 2 (.object "AlikeStore$History") true := ⟨_, _, c_X, by decide, rfl, rfl, rfl, ev_m 239 (by decide +kernel) rfl⟩
set_option maxRecDepth 100000 in
theorem f_X_33 : ev_fld "AlikeStore" 33 8 3 (.object "AlikeStore$Budgets") true := ⟨_, _, c_X, by decide, rfl, rfl, rfl, ev_m 240 (by decide +kernel) rfl⟩
set_option maxRecDepth 100000 in
theorem f_X_40 : ev_fld "AlikeStore" 40 8 4 (.object "AlikeStore$Ranking") true := ⟨_, _, c_X, by decide, rfl, rfl, rfl, ev_m 241 (by decide +kernel) rfl⟩
set_option maxRecDepth 100000 in
theorem f_X_44 : ev_fld "AlikeStore" 44 8 5 (.int) false := ⟨_, _, c_X, by decide, rfl, rfl, rfl, ev_m 242 (by decide +kernel) rfl⟩
set_option maxRecDepth 100000 in
theorem f_X_48 : ev_fld "AlikeStore" 48 8 6 (.int) false := ⟨_, _, c_X, by decide, rfl, rfl, rfl, ev_m 243 (by decide +kernel) rfl⟩
set_option maxRecDepth 100000 in
theorem f_X_51 : ev_fld "AlikeStore" 51 8 7 (.int) false := ⟨_, _, c_X, by decide, rfl, rfl, rfl, ev_m 244 (by decide +kernel) rfl⟩
set_option maxRecDepth 100000 in
theorem f_X_54 : ev_fld "AlikeStore" 54 4 1 (.object "AlikeStore$Tape") true := ⟨_, _, c_Re, by decide, rfl, rfl, rfl, ev_m 138 (by decide +kernel) rfl⟩
set_option maxRecDepth 100000 in
theorem f_X_58 : ev_fld "AlikeStore" 58 7 1 (.int) false := ⟨_, _, c_Ta, by decide, rfl, rfl, rfl, ev_m 127 (by decide +kernel) rfl⟩
set_option maxRecDepth 100000 in
theorem f_X_82 : ev_fld "AlikeStore" 82 4 2 (.object "AlikeStore$Store") true := ⟨_, _, c_Re, by decide, rfl, rfl, rfl, ev_m 140 (by decide +kernel) rfl⟩
set_option maxRecDepth 100000 in
theorem f_X_86 : ev_fld "AlikeStore" 86 6 3 (.int) false := ⟨_, _, c_St, by decide, rfl, rfl, rfl, ev_m 52 (by decide +kernel) rfl⟩
set_option maxRecDepth 100000 in
theorem f_X_90 : ev_fld "AlikeStore" 90 6 0 (.int) false := ⟨_, _, c_St, by decide, rfl, rfl, rfl, ev_m 40 (by decide +kernel) rfl⟩
set_option maxRecDepth 100000 in
theorem f_X_93 : ev_fld "AlikeStore" 93 6 1 (.int) false := ⟨_, _, c_St, by decide, rfl, rfl, rfl, ev_m 45 (by decide +kernel) rfl⟩
set_option maxRecDepth 100000 in
theorem f_X_104 : ev_fld "AlikeStore" 104 2 3 (.int) false := ⟨_, _, c_Hi, by decide, rfl, rfl, rfl, ev_m 176 (by decide +kernel) rfl⟩
set_option maxRecDepth 100000 in
theorem f_X_107 : ev_fld "AlikeStore" 107 2 4 (.int) false := ⟨_, _, c_Hi, by decide, rfl, rfl, rfl, ev_m 178 (by decide +kernel) rfl⟩
set_option maxRecDepth 100000 in
theorem f_X_110 : ev_fld "AlikeStore" 110 6 6 (.object "AlikeStore$Filter") false := ⟨_, _, c_St, by decide, rfl, rfl, rfl, ev_m 61 (by decide +kernel) rfl⟩
set_option maxRecDepth 100000 in
theorem f_X_118 : ev_fld "AlikeStore" 118 6 4 (.array (.long)) true := ⟨_, _, c_St, by decide, rfl, rfl, rfl, ev_m 56 (by decide +kernel) rfl⟩
set_option maxRecDepth 100000 in
theorem f_X_126 : ev_fld "AlikeStore" 126 6 5 (.array (.int)) true := ⟨_, _, c_St, by decide, rfl, rfl, rfl, ev_m 59 (by decide +kernel) rfl⟩
set_option maxRecDepth 100000 in
theorem f_X_133 : ev_fld "AlikeStore" 133 6 2 (.array (.int)) true := ⟨_, _, c_St, by decide, rfl, rfl, rfl, ev_m 49 (by decide +kernel) rfl⟩
set_option maxRecDepth 100000 in
theorem f_X_202 : ev_fld "AlikeStore" 202 0 4 (.array (.int)) true := ⟨_, _, c_Bu, by decide, rfl, rfl, rfl, ev_m 204 (by decide +kernel) rfl⟩
set_option maxRecDepth 100000 in
theorem f_X_209 : ev_fld "AlikeStore" 209 0 2 (.array (.array (.int))) true := ⟨_, _, c_Bu, by decide, rfl, rfl, rfl, ev_m 201 (by decide +kernel) rfl⟩
set_option maxRecDepth 100000 in
theorem f_X_224 : ev_fld "AlikeStore" 224 3 3 (.int) false := ⟨_, _, c_Ra, by decide, rfl, rfl, rfl, ev_m 227 (by decide +kernel) rfl⟩
set_option maxRecDepth 100000 in
theorem f_X_225 : ev_fld "AlikeStore" 225 3 0 (.array (.int)) true := ⟨_, _, c_Ra, by decide, rfl, rfl, rfl, ev_m 223 (by decide +kernel) rfl⟩
set_option maxRecDepth 100000 in
theorem f_Bu_9 : ev_fld "AlikeStore$Budgets" 9 0 0 (.array (.int)) true := ⟨_, _, c_Bu, by decide, rfl, rfl, rfl, ev_m 198 (by decide +kernel) rfl⟩
set_option maxRecDepth 100000 in
theorem f_Bu_15 : ev_fld "AlikeStore$Budgets" 15 0 1 (.int) false := ⟨_, _, c_Bu, by decide, rfl, rfl, rfl, ev_m 199 (by decide +kernel) rfl⟩
set_option maxRecDepth 100000 in
theorem f_Bu_21 : ev_fld "AlikeStore$Budgets" 21 0 2 (.array (.array (.int))) true := ⟨_, _, c_Bu, by decide, rfl, rfl, rfl, ev_m 200 (by decide +kernel) rfl⟩
set_option maxRecDepth 100000 in
theorem f_Bu_24 : ev_fld "AlikeStore$Budgets" 24 0 3 (.array (.array (.int))) true := ⟨_, _, c_Bu, by decide, rfl, rfl, rfl, ev_m 202 (by decide +kernel) rfl⟩
set_option maxRecDepth 100000 in
theorem f_Bu_27 : ev_fld "AlikeStore$Budgets" 27 0 4 (.array (.int)) true := ⟨_, _, c_Bu, by decide, rfl, rfl, rfl, ev_m 203 (by decide +kernel) rfl⟩
set_option maxRecDepth 100000 in
theorem f_Bu_30 : ev_fld "AlikeStore$Budgets" 30 6 1 (.int) false := ⟨_, _, c_St, by decide, rfl, rfl, rfl, ev_m 43 (by decide +kernel) rfl⟩
set_option maxRecDepth 100000 in
theorem f_Bu_33 : ev_fld "AlikeStore$Budgets" 33 6 2 (.array (.int)) true := ⟨_, _, c_St, by decide, rfl, rfl, rfl, ev_m 48 (by decide +kernel) rfl⟩
set_option maxRecDepth 100000 in
theorem f_Fi_7 : ev_fld "AlikeStore$Filter" 7 5 5 (.int) false := ⟨_, _, c_Sp, by decide, rfl, rfl, rfl, ev_m 102 (by decide +kernel) rfl⟩
set_option maxRecDepth 100000 in
theorem f_Fi_13 : ev_fld "AlikeStore$Filter" 13 5 0 (.array (.int)) true := ⟨_, _, c_Sp, by decide, rfl, rfl, rfl, ev_m 93 (by decide +kernel) rfl⟩
set_option maxRecDepth 100000 in
theorem f_Fi_23 : ev_fld "AlikeStore$Filter" 23 1 0 (.array (.int)) true := ⟨_, _, c_Fi, by decide, rfl, rfl, rfl, ev_m 517 (by decide +kernel) rfl⟩
set_option maxRecDepth 100000 in
theorem f_Fi_26 : ev_fld "AlikeStore$Filter" 26 5 1 (.array (.int)) true := ⟨_, _, c_Sp, by decide, rfl, rfl, rfl, ev_m 95 (by decide +kernel) rfl⟩
set_option maxRecDepth 100000 in
theorem f_Fi_29 : ev_fld "AlikeStore$Filter" 29 1 1 (.array (.int)) true := ⟨_, _, c_Fi, by decide, rfl, rfl, rfl, ev_m 518 (by decide +kernel) rfl⟩
set_option maxRecDepth 100000 in
theorem f_Fi_30 : ev_fld "AlikeStore$Filter" 30 5 2 (.array (.int)) true := ⟨_, _, c_Sp, by decide, rfl, rfl, rfl, ev_m 97 (by decide +kernel) rfl⟩
set_option maxRecDepth 100000 in
theorem f_Fi_33 : ev_fld "AlikeStore$Filter" 33 1 2 (.array (.int)) true := ⟨_, _, c_Fi, by decide, rfl, rfl, rfl, ev_m 519 (by decide +kernel) rfl⟩
set_option maxRecDepth 100000 in
theorem f_Fi_34 : ev_fld "AlikeStore$Filter" 34 5 3 (.array (.int)) true := ⟨_, _, c_Sp, by decide, rfl, rfl, rfl, ev_m 99 (by decide +kernel) rfl⟩
set_option maxRecDepth 100000 in
theorem f_Fi_37 : ev_fld "AlikeStore$Filter" 37 1 3 (.array (.int)) true := ⟨_, _, c_Fi, by decide, rfl, rfl, rfl, ev_m 520 (by decide +kernel) rfl⟩
set_option maxRecDepth 100000 in
theorem f_Fi_38 : ev_fld "AlikeStore$Filter" 38 5 4 (.array (.long)) true := ⟨_, _, c_Sp, by decide, rfl, rfl, rfl, ev_m 101 (by decide +kernel) rfl⟩
set_option maxRecDepth 100000 in
theorem f_Fi_45 : ev_fld "AlikeStore$Filter" 45 1 4 (.array (.long)) true := ⟨_, _, c_Fi, by decide, rfl, rfl, rfl, ev_m 521 (by decide +kernel) rfl⟩
set_option maxRecDepth 100000 in
theorem f_Fi_54 : ev_fld "AlikeStore$Filter" 54 6 4 (.array (.long)) true := ⟨_, _, c_St, by decide, rfl, rfl, rfl, ev_m 55 (by decide +kernel) rfl⟩
set_option maxRecDepth 100000 in
theorem f_Fi_65 : ev_fld "AlikeStore$Filter" 65 6 5 (.array (.int)) true := ⟨_, _, c_St, by decide, rfl, rfl, rfl, ev_m 58 (by decide +kernel) rfl⟩
set_option maxRecDepth 100000 in
theorem f_Fi_74 : ev_fld "AlikeStore$Filter" 74 6 1 (.int) false := ⟨_, _, c_St, by decide, rfl, rfl, rfl, ev_m 44 (by decide +kernel) rfl⟩
set_option maxRecDepth 100000 in
theorem f_Hi_11 : ev_fld "AlikeStore$History" 11 2 0 (.array (.object "AlikeStore$Store")) true := ⟨_, _, c_Hi, by decide, rfl, rfl, rfl, ev_m 172 (by decide +kernel) rfl⟩
set_option maxRecDepth 100000 in
theorem f_Hi_17 : ev_fld "AlikeStore$History" 17 2 1 (.array (.object "AlikeStore$Store")) true := ⟨_, _, c_Hi, by decide, rfl, rfl, rfl, ev_m 173 (by decide +kernel) rfl⟩
set_option maxRecDepth 100000 in
theorem f_Hi_20 : ev_fld "AlikeStore$History" 20 2 2 (.int) false := ⟨_, _, c_Hi, by decide, rfl, rfl, rfl, ev_m 174 (by decide +kernel) rfl⟩
set_option maxRecDepth 100000 in
theorem f_Hi_24 : ev_fld "AlikeStore$History" 24 2 3 (.int) false := ⟨_, _, c_Hi, by decide, rfl, rfl, rfl, ev_m 175 (by decide +kernel) rfl⟩
set_option maxRecDepth 100000 in
theorem f_Hi_27 : ev_fld "AlikeStore$History" 27 2 4 (.int) false := ⟨_, _, c_Hi, by decide, rfl, rfl, rfl, ev_m 177 (by decide +kernel) rfl⟩
set_option maxRecDepth 100000 in
theorem f_Ra_9 : ev_fld "AlikeStore$Ranking" 9 3 0 (.array (.int)) true := ⟨_, _, c_Ra, by decide, rfl, rfl, rfl, ev_m 222 (by decide +kernel) rfl⟩
set_option maxRecDepth 100000 in
theorem f_Ra_15 : ev_fld "AlikeStore$Ranking" 15 3 1 (.array (.int)) true := ⟨_, _, c_Ra, by decide, rfl, rfl, rfl, ev_m 224 (by decide +kernel) rfl⟩
set_option maxRecDepth 100000 in
theorem f_Ra_18 : ev_fld "AlikeStore$Ranking" 18 3 2 (.array (.int)) true := ⟨_, _, c_Ra, by decide, rfl, rfl, rfl, ev_m 225 (by decide +kernel) rfl⟩
set_option maxRecDepth 100000 in
theorem f_Ra_21 : ev_fld "AlikeStore$Ranking" 21 3 3 (.int) false := ⟨_, _, c_Ra, by decide, rfl, rfl, rfl, ev_m 226 (by decide +kernel) rfl⟩
set_option maxRecDepth 100000 in
theorem f_Re_12 : ev_fld "AlikeStore$Reader" 12 4 0 (.object "AlikeStore$Steps") true := ⟨_, _, c_Re, by decide, rfl, rfl, rfl, ev_m 136 (by decide +kernel) rfl⟩
set_option maxRecDepth 100000 in
theorem f_Re_21 : ev_fld "AlikeStore$Reader" 21 4 1 (.object "AlikeStore$Tape") true := ⟨_, _, c_Re, by decide, rfl, rfl, rfl, ev_m 137 (by decide +kernel) rfl⟩
set_option maxRecDepth 100000 in
theorem f_Re_28 : ev_fld "AlikeStore$Reader" 28 4 2 (.object "AlikeStore$Store") true := ⟨_, _, c_Re, by decide, rfl, rfl, rfl, ev_m 139 (by decide +kernel) rfl⟩
set_option maxRecDepth 100000 in
theorem f_Re_32 : ev_fld "AlikeStore$Reader" 32 7 0 (.array (.byte)) true := ⟨_, _, c_Ta, by decide, rfl, rfl, rfl, ev_m 125 (by decide +kernel) rfl⟩
set_option maxRecDepth 100000 in
theorem f_Re_36 : ev_fld "AlikeStore$Reader" 36 4 3 (.array (.byte)) true := ⟨_, _, c_Re, by decide, rfl, rfl, rfl, ev_m 141 (by decide +kernel) rfl⟩
set_option maxRecDepth 100000 in
theorem f_Re_39 : ev_fld "AlikeStore$Reader" 39 4 4 (.int) false := ⟨_, _, c_Re, by decide, rfl, rfl, rfl, ev_m 142 (by decide +kernel) rfl⟩
set_option maxRecDepth 100000 in
theorem f_Re_43 : ev_fld "AlikeStore$Reader" 43 4 5 (.int) false := ⟨_, _, c_Re, by decide, rfl, rfl, rfl, ev_m 143 (by decide +kernel) rfl⟩
set_option maxRecDepth 100000 in
theorem f_Re_46 : ev_fld "AlikeStore$Reader" 46 4 6 (.int) false := ⟨_, _, c_Re, by decide, rfl, rfl, rfl, ev_m 144 (by decide +kernel) rfl⟩
set_option maxRecDepth 100000 in
theorem f_Re_49 : ev_fld "AlikeStore$Reader" 49 4 7 (.int) false := ⟨_, _, c_Re, by decide, rfl, rfl, rfl, ev_m 145 (by decide +kernel) rfl⟩
set_option maxRecDepth 100000 in
theorem f_Re_108 : ev_fld "AlikeStore$Reader" 108 6 0 (.int) false := ⟨_, _, c_St, by decide, rfl, rfl, rfl, ev_m 41 (by decide +kernel) rfl⟩
set_option maxRecDepth 100000 in
theorem f_Re_118 : ev_fld "AlikeStore$Reader" 118 6 2 (.array (.int)) true := ⟨_, _, c_St, by decide, rfl, rfl, rfl, ev_m 50 (by decide +kernel) rfl⟩
set_option maxRecDepth 100000 in
theorem f_Re_122 : ev_fld "AlikeStore$Reader" 122 6 1 (.int) false := ⟨_, _, c_St, by decide, rfl, rfl, rfl, ev_m 46 (by decide +kernel) rfl⟩
set_option maxRecDepth 100000 in
theorem f_Re_124 : ev_fld "AlikeStore$Reader" 124 6 3 (.int) false := ⟨_, _, c_St, by decide, rfl, rfl, rfl, ev_m 53 (by decide +kernel) rfl⟩
set_option maxRecDepth 100000 in
theorem f_Re_141 : ev_fld "AlikeStore$Reader" 141 6 6 (.object "AlikeStore$Filter") false := ⟨_, _, c_St, by decide, rfl, rfl, rfl, ev_m 62 (by decide +kernel) rfl⟩
set_option maxRecDepth 100000 in
theorem f_Re_144 : ev_fld "AlikeStore$Reader" 144 5 5 (.int) false := ⟨_, _, c_Sp, by decide, rfl, rfl, rfl, ev_m 104 (by decide +kernel) rfl⟩
set_option maxRecDepth 100000 in
theorem f_Sp_11 : ev_fld "AlikeStore$Steps" 11 5 0 (.array (.int)) true := ⟨_, _, c_Sp, by decide, rfl, rfl, rfl, ev_m 92 (by decide +kernel) rfl⟩
set_option maxRecDepth 100000 in
theorem f_Sp_15 : ev_fld "AlikeStore$Steps" 15 5 1 (.array (.int)) true := ⟨_, _, c_Sp, by decide, rfl, rfl, rfl, ev_m 94 (by decide +kernel) rfl⟩
set_option maxRecDepth 100000 in
theorem f_Sp_18 : ev_fld "AlikeStore$Steps" 18 5 2 (.array (.int)) true := ⟨_, _, c_Sp, by decide, rfl, rfl, rfl, ev_m 96 (by decide +kernel) rfl⟩
set_option maxRecDepth 100000 in
theorem f_Sp_21 : ev_fld "AlikeStore$Steps" 21 5 3 (.array (.int)) true := ⟨_, _, c_Sp, by decide, rfl, rfl, rfl, ev_m 98 (by decide +kernel) rfl⟩
set_option maxRecDepth 100000 in
theorem f_Sp_24 : ev_fld "AlikeStore$Steps" 24 5 4 (.array (.long)) true := ⟨_, _, c_Sp, by decide, rfl, rfl, rfl, ev_m 100 (by decide +kernel) rfl⟩
set_option maxRecDepth 100000 in
theorem f_Sp_28 : ev_fld "AlikeStore$Steps" 28 5 5 (.int) false := ⟨_, _, c_Sp, by decide, rfl, rfl, rfl, ev_m 103 (by decide +kernel) rfl⟩
set_option maxRecDepth 100000 in
theorem f_St_9 : ev_fld "AlikeStore$Store" 9 6 0 (.int) false := ⟨_, _, c_St, by decide, rfl, rfl, rfl, ev_m 39 (by decide +kernel) rfl⟩
set_option maxRecDepth 100000 in
theorem f_St_15 : ev_fld "AlikeStore$Store" 15 6 1 (.int) false := ⟨_, _, c_St, by decide, rfl, rfl, rfl, ev_m 42 (by decide +kernel) rfl⟩
set_option maxRecDepth 100000 in
theorem f_St_18 : ev_fld "AlikeStore$Store" 18 6 2 (.array (.int)) true := ⟨_, _, c_St, by decide, rfl, rfl, rfl, ev_m 47 (by decide +kernel) rfl⟩
set_option maxRecDepth 100000 in
theorem f_St_22 : ev_fld "AlikeStore$Store" 22 6 3 (.int) false := ⟨_, _, c_St, by decide, rfl, rfl, rfl, ev_m 51 (by decide +kernel) rfl⟩
set_option maxRecDepth 100000 in
theorem f_St_25 : ev_fld "AlikeStore$Store" 25 6 4 (.array (.long)) true := ⟨_, _, c_St, by decide, rfl, rfl, rfl, ev_m 54 (by decide +kernel) rfl⟩
set_option maxRecDepth 100000 in
theorem f_St_29 : ev_fld "AlikeStore$Store" 29 6 5 (.array (.int)) true := ⟨_, _, c_St, by decide, rfl, rfl, rfl, ev_m 57 (by decide +kernel) rfl⟩
set_option maxRecDepth 100000 in
theorem f_St_32 : ev_fld "AlikeStore$Store" 32 6 6 (.object "AlikeStore$Filter") false := ⟨_, _, c_St, by decide, rfl, rfl, rfl, ev_m 60 (by decide +kernel) rfl⟩
set_option maxRecDepth 100000 in
theorem f_Ta_9 : ev_fld "AlikeStore$Tape" 9 7 0 (.array (.byte)) true := ⟨_, _, c_Ta, by decide, rfl, rfl, rfl, ev_m 124 (by decide +kernel) rfl⟩
set_option maxRecDepth 100000 in
theorem f_Ta_15 : ev_fld "AlikeStore$Tape" 15 7 1 (.int) false := ⟨_, _, c_Ta, by decide, rfl, rfl, rfl, ev_m 126 (by decide +kernel) rfl⟩
set_option maxRecDepth 100000 in
theorem f_Mo_7 : ev_fld "AlikeStoreModel" 7 9 0 (.array (.long)) true := ⟨_, _, c_Mo, by decide, rfl, rfl, rfl, ev_m 977 (by decide +kernel) rfl⟩
set_option maxRecDepth 100000 in
theorem f_Mo_13 : ev_fld "AlikeStoreModel" 13 9 4 (.array (.long)) true := ⟨_, _, c_Mo, by decide, rfl, rfl, rfl, ev_m 981 (by decide +kernel) rfl⟩
set_option maxRecDepth 100000 in
theorem f_Mo_16 : ev_fld "AlikeStoreModel" 16 9 5 (.array (.byte)) true := ⟨_, _, c_Mo, by decide, rfl, rfl, rfl, ev_m 982 (by decide +kernel) rfl⟩
set_option maxRecDepth 100000 in
theorem f_Mo_20 : ev_fld "AlikeStoreModel" 20 9 6 (.array (.byte)) true := ⟨_, _, c_Mo, by decide, rfl, rfl, rfl, ev_m 983 (by decide +kernel) rfl⟩
set_option maxRecDepth 100000 in
theorem f_Mo_23 : ev_fld "AlikeStoreModel" 23 9 13 (.int) false := ⟨_, _, c_Mo, by decide, rfl, rfl, rfl, ev_m 990 (by decide +kernel) rfl⟩
set_option maxRecDepth 100000 in
theorem f_Mo_27 : ev_fld "AlikeStoreModel" 27 9 14 (.int) false := ⟨_, _, c_Mo, by decide, rfl, rfl, rfl, ev_m 991 (by decide +kernel) rfl⟩
set_option maxRecDepth 100000 in
theorem f_Mo_30 : ev_fld "AlikeStoreModel" 30 9 17 (.array (.int)) true := ⟨_, _, c_Mo, by decide, rfl, rfl, rfl, ev_m 994 (by decide +kernel) rfl⟩
set_option maxRecDepth 100000 in
theorem f_Mo_34 : ev_fld "AlikeStoreModel" 34 9 18 (.array (.int)) true := ⟨_, _, c_Mo, by decide, rfl, rfl, rfl, ev_m 995 (by decide +kernel) rfl⟩
set_option maxRecDepth 100000 in
theorem f_Mo_39 : ev_fld "AlikeStoreModel" 39 9 19 (.array (.array (.int))) true := ⟨_, _, c_Mo, by decide, rfl, rfl, rfl, ev_m 996 (by decide +kernel) rfl⟩
set_option maxRecDepth 100000 in
theorem f_Mo_42 : ev_fld "AlikeStoreModel" 42 9 20 (.array (.array (.int))) true := ⟨_, _, c_Mo, by decide, rfl, rfl, rfl, ev_m 997 (by decide +kernel) rfl⟩
set_option maxRecDepth 100000 in
theorem f_Mo_45 : ev_fld "AlikeStoreModel" 45 9 22 (.array (.int)) true := ⟨_, _, c_Mo, by decide, rfl, rfl, rfl, ev_m 999 (by decide +kernel) rfl⟩
set_option maxRecDepth 100000 in
theorem f_Mo_48 : ev_fld "AlikeStoreModel" 48 9 23 (.array (.int)) true := ⟨_, _, c_Mo, by decide, rfl, rfl, rfl, ev_m 1000 (by decide +kernel) rfl⟩
set_option maxRecDepth 100000 in
theorem f_Mo_55 : ev_fld "AlikeStoreModel" 55 9 1 (.int) false := ⟨_, _, c_Mo, by decide, rfl, rfl, rfl, ev_m 978 (by decide +kernel) rfl⟩
set_option maxRecDepth 100000 in
theorem f_Mo_110 : ev_fld "AlikeStoreModel" 110 9 7 (.int) false := ⟨_, _, c_Mo, by decide, rfl, rfl, rfl, ev_m 984 (by decide +kernel) rfl⟩
set_option maxRecDepth 100000 in
theorem f_Mo_116 : ev_fld "AlikeStoreModel" 116 9 8 (.int) false := ⟨_, _, c_Mo, by decide, rfl, rfl, rfl, ev_m 985 (by decide +kernel) rfl⟩
set_option maxRecDepth 100000 in
theorem f_Mo_119 : ev_fld "AlikeStoreModel" 119 9 11 (.int) false := ⟨_, _, c_Mo, by decide, rfl, rfl, rfl, ev_m 988 (by decide +kernel) rfl⟩
set_option maxRecDepth 100000 in
theorem f_Mo_125 : ev_fld "AlikeStoreModel" 125 9 10 (.int) false := ⟨_, _, c_Mo, by decide, rfl, rfl, rfl, ev_m 987 (by decide +kernel) rfl⟩
set_option maxRecDepth 100000 in
theorem f_Mo_128 : ev_fld "AlikeStoreModel" 128 9 9 (.int) false := ⟨_, _, c_Mo, by decide, rfl, rfl, rfl, ev_m 986 (by decide +kernel) rfl⟩
set_option maxRecDepth 100000 in
theorem f_Mo_148 : ev_fld "AlikeStoreModel" 148 9 12 (.int) false := ⟨_, _, c_Mo, by decide, rfl, rfl, rfl, ev_m 989 (by decide +kernel) rfl⟩
set_option maxRecDepth 100000 in
theorem f_Mo_164 : ev_fld "AlikeStoreModel" 164 9 16 (.long) false := ⟨_, _, c_Mo, by decide, rfl, rfl, rfl, ev_m 993 (by decide +kernel) rfl⟩
set_option maxRecDepth 100000 in
theorem f_Mo_176 : ev_fld "AlikeStoreModel" 176 9 15 (.int) false := ⟨_, _, c_Mo, by decide, rfl, rfl, rfl, ev_m 992 (by decide +kernel) rfl⟩
set_option maxRecDepth 100000 in
theorem f_Mo_252 : ev_fld "AlikeStoreModel" 252 9 2 (.int) false := ⟨_, _, c_Mo, by decide, rfl, rfl, rfl, ev_m 979 (by decide +kernel) rfl⟩
set_option maxRecDepth 100000 in
theorem f_Mo_255 : ev_fld "AlikeStoreModel" 255 9 3 (.int) false := ⟨_, _, c_Mo, by decide, rfl, rfl, rfl, ev_m 980 (by decide +kernel) rfl⟩
set_option maxRecDepth 100000 in
theorem f_Mo_295 : ev_fld "AlikeStoreModel" 295 9 21 (.int) false := ⟨_, _, c_Mo, by decide, rfl, rfl, rfl, ev_m 998 (by decide +kernel) rfl⟩
set_option maxRecDepth 100000 in
theorem lL_X_1 : Cond.methodLink "AlikeStore" 1 ⟨"java/lang/Object", "<init>", "()V"⟩ ∈ ev_ws := ev_m 26 (by decide +kernel) rfl
set_option maxRecDepth 100000 in
theorem l_X_9 : Cond.methodLink "AlikeStore" 9 M_St_init.1 ∈ ev_ws := ev_m 31 (by decide +kernel) rfl
set_option maxRecDepth 100000 in
theorem l_X_18 : Cond.methodLinkNest "AlikeStore" 18 M_Re_init.1 "AlikeStore" ∈ ev_nest := List.mem_filter.mpr ⟨List.mem_of_getElem? (i := 82) (by decide +kernel), rfl⟩
set_option maxRecDepth 100000 in
theorem l_X_25 : Cond.methodLink "AlikeStore" 25 M_Hi_init.1 ∈ ev_ws := ev_m 165 (by decide +kernel) rfl
set_option maxRecDepth 100000 in
theorem l_X_32 : Cond.methodLinkNest "AlikeStore" 32 M_Bu_init.1 "AlikeStore" ∈ ev_nest := List.mem_filter.mpr ⟨List.mem_of_getElem? (i := 192) (by decide +kernel), rfl⟩
set_option maxRecDepth 100000 in
theorem l_X_39 : Cond.methodLinkNest "AlikeStore" 39 M_Ra_init.1 "AlikeStore" ∈ ev_nest := List.mem_filter.mpr ⟨List.mem_of_getElem? (i := 218) (by decide +kernel), rfl⟩
set_option maxRecDepth 100000 in
theorem l_X_63 : Cond.methodLink "AlikeStore" 63 M_Ta_put.1 ∈ ev_ws := ev_m 270 (by decide +kernel) rfl
set_option maxRecDepth 100000 in
theorem l_X_67 : Cond.methodLink "AlikeStore" 67 M_X_refuse.1 ∈ ev_ws := ev_m 278 (by decide +kernel) rfl
set_option maxRecDepth 100000 in
theorem l_X_71 : Cond.methodLink "AlikeStore" 71 M_Re_read.1 ∈ ev_ws := ev_m 282 (by decide +kernel) rfl
set_option maxRecDepth 100000 in
theorem l_X_74 : Cond.methodLink "AlikeStore" 74 M_Re_place.1 ∈ ev_ws := ev_m 533 (by decide +kernel) rfl
set_option maxRecDepth 100000 in
theorem l_X_78 : Cond.methodLink "AlikeStore" 78 M_Hi_keep.1 ∈ ev_ws := ev_m 537 (by decide +kernel) rfl
set_option maxRecDepth 100000 in
theorem l_X_83 : Cond.methodLink "AlikeStore" 83 M_St_become.1 ∈ ev_ws := ev_m 546 (by decide +kernel) rfl
set_option maxRecDepth 100000 in
theorem l_X_87 : Cond.methodLink "AlikeStore" 87 M_X_answer.1 ∈ ev_ws := ev_m 547 (by decide +kernel) rfl
set_option maxRecDepth 100000 in
theorem l_X_96 : Cond.methodLink "AlikeStore" 96 M_St_counting.1 ∈ ev_ws := ev_m 559 (by decide +kernel) rfl
set_option maxRecDepth 100000 in
theorem l_X_99 : Cond.methodLink "AlikeStore" 99 M_JI_bitCount.1 ∈ ev_ws := ev_m 596 (by decide +kernel) rfl
set_option maxRecDepth 100000 in
theorem l_X_114 : Cond.methodLink "AlikeStore" 114 M_X_isCode.1 ∈ ev_ws := ev_m 606 (by decide +kernel) rfl
set_option maxRecDepth 100000 in
theorem l_X_122 : Cond.methodLink "AlikeStore" 122 M_X_answerLong.1 ∈ ev_ws := ev_m 610 (by decide +kernel) rfl
set_option maxRecDepth 100000 in
theorem l_X_130 : Cond.methodLink "AlikeStore" 130 M_X_isPart.1 ∈ ev_ws := ev_m 622 (by decide +kernel) rfl
set_option maxRecDepth 100000 in
theorem l_X_136 : Cond.methodLink "AlikeStore" 136 M_St_keyOf.1 ∈ ev_ws := ev_m 630 (by decide +kernel) rfl
set_option maxRecDepth 100000 in
theorem l_X_140 : Cond.methodLink "AlikeStore" 140 M_X_isNumber.1 ∈ ev_ws := ev_m 635 (by decide +kernel) rfl
set_option maxRecDepth 100000 in
theorem l_X_144 : Cond.methodLink "AlikeStore" 144 M_X_unlike.1 ∈ ev_ws := ev_m 639 (by decide +kernel) rfl
set_option maxRecDepth 100000 in
theorem l_X_148 : Cond.methodLink "AlikeStore" 148 M_X_isBelow.1 ∈ ev_ws := ev_m 644 (by decide +kernel) rfl
set_option maxRecDepth 100000 in
theorem l_X_152 : Cond.methodLink "AlikeStore" 152 M_X_measureOf.1 ∈ ev_ws := ev_m 647 (by decide +kernel) rfl
set_option maxRecDepth 100000 in
theorem l_X_156 : Cond.methodLink "AlikeStore" 156 M_St_whereIs.1 ∈ ev_ws := ev_m 664 (by decide +kernel) rfl
set_option maxRecDepth 100000 in
theorem l_X_160 : Cond.methodLink "AlikeStore" 160 M_St_append.1 ∈ ev_ws := ev_m 669 (by decide +kernel) rfl
set_option maxRecDepth 100000 in
theorem l_X_164 : Cond.methodLink "AlikeStore" 164 M_St_drop.1 ∈ ev_ws := ev_m 674 (by decide +kernel) rfl
set_option maxRecDepth 100000 in
theorem l_X_167 : Cond.methodLink "AlikeStore" 167 M_X_isBit.1 ∈ ev_ws := ev_m 682 (by decide +kernel) rfl
set_option maxRecDepth 100000 in
theorem l_X_170 : Cond.methodLink "AlikeStore" 170 M_X_bitOf.1 ∈ ev_ws := ev_m 654 (by decide +kernel) rfl
set_option maxRecDepth 100000 in
theorem l_X_173 : Cond.methodLink "AlikeStore" 173 M_St_exchange.1 ∈ ev_ws := ev_m 690 (by decide +kernel) rfl
set_option maxRecDepth 100000 in
theorem l_X_176 : Cond.methodLink "AlikeStore" 176 M_St_cutPart.1 ∈ ev_ws := ev_m 703 (by decide +kernel) rfl
set_option maxRecDepth 100000 in
theorem l_X_180 : Cond.methodLink "AlikeStore" 180 M_St_joinPart.1 ∈ ev_ws := ev_m 712 (by decide +kernel) rfl
set_option maxRecDepth 100000 in
theorem l_X_183 : Cond.methodLink "AlikeStore" 183 M_Hi_takeBackAct.1 ∈ ev_ws := ev_m 724 (by decide +kernel) rfl
set_option maxRecDepth 100000 in
theorem l_X_186 : Cond.methodLink "AlikeStore" 186 M_Hi_putMark.1 ∈ ev_ws := ev_m 732 (by decide +kernel) rfl
set_option maxRecDepth 100000 in
theorem l_X_189 : Cond.methodLink "AlikeStore" 189 M_Hi_takeBackMark.1 ∈ ev_ws := ev_m 740 (by decide +kernel) rfl
set_option maxRecDepth 100000 in
theorem l_X_192 : Cond.methodLink "AlikeStore" 192 M_X_isRadius.1 ∈ ev_ws := ev_m 748 (by decide +kernel) rfl
set_option maxRecDepth 100000 in
theorem l_X_195 : Cond.methodLink "AlikeStore" 195 M_Bu_partLike.1 ∈ ev_ws := ev_m 752 (by decide +kernel) rfl
set_option maxRecDepth 100000 in
theorem l_X_198 : Cond.methodLink "AlikeStore" 198 M_Bu_plan.1 ∈ ev_ws := ev_m 757 (by decide +kernel) rfl
set_option maxRecDepth 100000 in
theorem l_X_205 : Cond.methodLink "AlikeStore" 205 M_Bu_weigh.1 ∈ ev_ws := ev_m 794 (by decide +kernel) rfl
set_option maxRecDepth 100000 in
theorem l_X_213 : Cond.methodLink "AlikeStore" 213 M_Bu_candidates.1 ∈ ev_ws := ev_m 799 (by decide +kernel) rfl
set_option maxRecDepth 100000 in
theorem l_X_217 : Cond.methodLink "AlikeStore" 217 M_St_within.1 ∈ ev_ws := ev_m 803 (by decide +kernel) rfl
set_option maxRecDepth 100000 in
theorem l_X_221 : Cond.methodLink "AlikeStore" 221 M_Ra_rank.1 ∈ ev_ws := ev_m 813 (by decide +kernel) rfl
set_option maxRecDepth 100000 in
theorem l_X_228 : Cond.methodLink "AlikeStore" 228 M_Bu_tabulate.1 ∈ ev_ws := ev_m 827 (by decide +kernel) rfl
set_option maxRecDepth 100000 in
theorem l_X_231 : Cond.methodLink "AlikeStore" 231 M_Bu_choose.1 ∈ ev_ws := ev_m 828 (by decide +kernel) rfl
set_option maxRecDepth 100000 in
theorem l_X_234 : Cond.methodLink "AlikeStore" 234 M_Ra_takenApart.1 ∈ ev_ws := ev_m 833 (by decide +kernel) rfl
set_option maxRecDepth 100000 in
theorem l_X_238 : Cond.methodLink "AlikeStore" 238 M_X_isIn.1 ∈ ev_ws := ev_m 843 (by decide +kernel) rfl
set_option maxRecDepth 100000 in
theorem l_X_241 : Cond.methodLink "AlikeStore" 241 M_X_above.1 ∈ ev_ws := ev_m 844 (by decide +kernel) rfl
set_option maxRecDepth 100000 in
theorem l_X_244 : Cond.methodLink "AlikeStore" 244 M_X_pairAt.1 ∈ ev_ws := ev_m 851 (by decide +kernel) rfl
set_option maxRecDepth 100000 in
theorem l_X_248 : Cond.methodLink "AlikeStore" 248 M_X_ofPacked.1 ∈ ev_ws := ev_m 859 (by decide +kernel) rfl
set_option maxRecDepth 100000 in
theorem l_X_251 : Cond.methodLink "AlikeStore" 251 M_X_closestPair.1 ∈ ev_ws := ev_m 870 (by decide +kernel) rfl
set_option maxRecDepth 100000 in
theorem l_X_254 : Cond.methodLink "AlikeStore" 254 M_X_clusterWith.1 ∈ ev_ws := ev_m 878 (by decide +kernel) rfl
set_option maxRecDepth 100000 in
theorem l_X_257 : Cond.methodLink "AlikeStore" 257 M_X_leastOf.1 ∈ ev_ws := ev_m 882 (by decide +kernel) rfl
set_option maxRecDepth 100000 in
theorem l_X_260 : Cond.methodLink "AlikeStore" 260 M_X_middleOf.1 ∈ ev_ws := ev_m 889 (by decide +kernel) rfl
set_option maxRecDepth 100000 in
theorem l_X_263 : Cond.methodLink "AlikeStore" 263 M_St_all.1 ∈ ev_ws := ev_m 901 (by decide +kernel) rfl
set_option maxRecDepth 100000 in
theorem l_X_266 : Cond.methodLink "AlikeStore" 266 M_St_onesAt.1 ∈ ev_ws := ev_m 902 (by decide +kernel) rfl
set_option maxRecDepth 100000 in
theorem lL_X_269 : Cond.methodLink "AlikeStore" 269 ⟨"java/lang/Math", "abs", "(I)I"⟩ ∈ ev_ws := ev_m 918 (by decide +kernel) rfl
set_option maxRecDepth 100000 in
theorem l_X_274 : Cond.methodLink "AlikeStore" 274 M_St_sameKey.1 ∈ ev_ws := ev_m 929 (by decide +kernel) rfl
set_option maxRecDepth 100000 in
theorem lL_X_277 : Cond.methodLink "AlikeStore" 277 ⟨"java/lang/Math", "max", "(II)I"⟩ ∈ ev_ws := ev_m 659 (by decide +kernel) rfl
set_option maxRecDepth 100000 in
theorem l_X_280 : Cond.methodLink "AlikeStore" 280 M_X_isUpper.1 ∈ ev_ws := ev_m 938 (by decide +kernel) rfl
set_option maxRecDepth 100000 in
theorem l_X_283 : Cond.methodLink "AlikeStore" 283 M_X_costParted.1 ∈ ev_ws := ev_m 941 (by decide +kernel) rfl
set_option maxRecDepth 100000 in
theorem l_X_286 : Cond.methodLink "AlikeStore" 286 M_JL_bitCount.1 ∈ ev_ws := ev_m 595 (by decide +kernel) rfl
set_option maxRecDepth 100000 in
theorem l_X_292 : Cond.methodLink "AlikeStore" 292 M_X_reachOf.1 ∈ ev_ws := ev_m 651 (by decide +kernel) rfl
set_option maxRecDepth 100000 in
theorem l_X_295 : Cond.methodLink "AlikeStore" 295 M_X_longestRun.1 ∈ ev_ws := ev_m 656 (by decide +kernel) rfl
set_option maxRecDepth 100000 in
theorem lL_X_298 : Cond.methodLink "AlikeStore" 298 ⟨"java/lang/Math", "min", "(II)I"⟩ ∈ ev_ws := ev_m 655 (by decide +kernel) rfl
set_option maxRecDepth 100000 in
theorem l_X_301 : Cond.methodLink "AlikeStore" 301 M_X_packPair.1 ∈ ev_ws := ev_m 855 (by decide +kernel) rfl
set_option maxRecDepth 100000 in
theorem l_X_304 : Cond.methodLink "AlikeStore" 304 M_St_farFromAll.1 ∈ ev_ws := ev_m 893 (by decide +kernel) rfl
set_option maxRecDepth 100000 in
theorem l_X_308 : Cond.methodLink "AlikeStore" 308 M_Bu_partInTwo.1 ∈ ev_ws := ev_m 945 (by decide +kernel) rfl
set_option maxRecDepth 100000 in
theorem lL_Bu_3 : Cond.methodLink "AlikeStore$Budgets" 3 ⟨"java/lang/Object", "<init>", "()V"⟩ ∈ ev_ws := ev_m 195 (by decide +kernel) rfl
set_option maxRecDepth 100000 in
theorem lL_Bu_34 : Cond.methodLink "AlikeStore$Budgets" 34 ⟨"java/lang/System", "arraycopy", "(Ljava/lang/Object;ILjava/lang/Object;II)V"⟩ ∈ ev_ws := ev_m 756 (by decide +kernel) rfl
set_option maxRecDepth 100000 in
theorem l_Bu_40 : Cond.methodLink "AlikeStore$Budgets" 40 M_Bu_weigh.1 ∈ ev_ws := ev_m 761 (by decide +kernel) rfl
set_option maxRecDepth 100000 in
theorem l_Bu_44 : Cond.methodLink "AlikeStore$Budgets" 44 M_Bu_tabulate.1 ∈ ev_ws := ev_m 772 (by decide +kernel) rfl
set_option maxRecDepth 100000 in
theorem l_Bu_48 : Cond.methodLink "AlikeStore$Budgets" 48 M_Bu_choose.1 ∈ ev_ws := ev_m 786 (by decide +kernel) rfl
set_option maxRecDepth 100000 in
theorem l_Bu_52 : Cond.methodLink "AlikeStore$Budgets" 52 M_JA_fill.1 ∈ ev_ws := ev_m 765 (by decide +kernel) rfl
set_option maxRecDepth 100000 in
theorem l_Bu_58 : Cond.methodLinkNest "AlikeStore$Budgets" 58 M_X_isIn.1 "AlikeStore" ∈ ev_nest := List.mem_filter.mpr ⟨List.mem_of_getElem? (i := 768) (by decide +kernel), rfl⟩
set_option maxRecDepth 100000 in
theorem l_Bu_62 : Cond.methodLink "AlikeStore$Budgets" 62 M_JL_bitCount.1 ∈ ev_ws := ev_m 771 (by decide +kernel) rfl
set_option maxRecDepth 100000 in
theorem l_Bu_69 : Cond.methodLink "AlikeStore$Budgets" 69 M_Bu_cheapestShare.1 ∈ ev_ws := ev_m 777 (by decide +kernel) rfl
set_option maxRecDepth 100000 in
theorem l_Bu_73 : Cond.methodLink "AlikeStore$Budgets" 73 M_Bu_costWith.1 ∈ ev_ws := ev_m 781 (by decide +kernel) rfl
set_option maxRecDepth 100000 in
theorem lL_Bu_77 : Cond.methodLink "AlikeStore$Budgets" 77 ⟨"java/lang/Math", "min", "(II)I"⟩ ∈ ev_ws := ev_m 785 (by decide +kernel) rfl
set_option maxRecDepth 100000 in
theorem lL_Fi_1 : Cond.methodLink "AlikeStore$Filter" 1 ⟨"java/lang/Object", "<init>", "()V"⟩ ∈ ev_ws := ev_m 494 (by decide +kernel) rfl
set_option maxRecDepth 100000 in
theorem l_Fi_17 : Cond.methodLink "AlikeStore$Filter" 17 M_JA_copyOf_AII.1 ∈ ev_ws := ev_m 495 (by decide +kernel) rfl
set_option maxRecDepth 100000 in
theorem l_Fi_42 : Cond.methodLink "AlikeStore$Filter" 42 M_JA_copyOf_AJI.1 ∈ ev_ws := ev_m 509 (by decide +kernel) rfl
set_option maxRecDepth 100000 in
theorem l_Fi_46 : Cond.methodLink "AlikeStore$Filter" 46 M_Fi_holdsFact.1 ∈ ev_ws := ev_m 571 (by decide +kernel) rfl
set_option maxRecDepth 100000 in
theorem l_Fi_50 : Cond.methodLink "AlikeStore$Filter" 50 M_Fi_valueOf.1 ∈ ev_ws := ev_m 575 (by decide +kernel) rfl
set_option maxRecDepth 100000 in
theorem l_Fi_59 : Cond.methodLink "AlikeStore$Filter" 59 M_JL_bitCount.1 ∈ ev_ws := ev_m 579 (by decide +kernel) rfl
set_option maxRecDepth 100000 in
theorem l_Fi_68 : Cond.methodLinkNest "AlikeStore$Filter" 68 M_X_bitOf.1 "AlikeStore" ∈ ev_nest := List.mem_filter.mpr ⟨List.mem_of_getElem? (i := 585) (by decide +kernel), rfl⟩
set_option maxRecDepth 100000 in
theorem l_Fi_77 : Cond.methodLink "AlikeStore$Filter" 77 M_St_keyOf.1 ∈ ev_ws := ev_m 588 (by decide +kernel) rfl
set_option maxRecDepth 100000 in
theorem l_Fi_81 : Cond.methodLinkNest "AlikeStore$Filter" 81 M_X_unlike.1 "AlikeStore" ∈ ev_nest := List.mem_filter.mpr ⟨List.mem_of_getElem? (i := 592) (by decide +kernel), rfl⟩
set_option maxRecDepth 100000 in
theorem lL_Hi_3 : Cond.methodLink "AlikeStore$History" 3 ⟨"java/lang/Object", "<init>", "()V"⟩ ∈ ev_ws := ev_m 168 (by decide +kernel) rfl
set_option maxRecDepth 100000 in
theorem l_Hi_30 : Cond.methodLink "AlikeStore$History" 30 M_St_init.1 ∈ ev_ws := ev_m 171 (by decide +kernel) rfl
set_option maxRecDepth 100000 in
theorem l_Hi_31 : Cond.methodLink "AlikeStore$History" 31 M_St_become.1 ∈ ev_ws := ev_m 541 (by decide +kernel) rfl
set_option maxRecDepth 100000 in
theorem lL_Ra_3 : Cond.methodLink "AlikeStore$Ranking" 3 ⟨"java/lang/Object", "<init>", "()V"⟩ ∈ ev_ws := ev_m 221 (by decide +kernel) rfl
set_option maxRecDepth 100000 in
theorem l_Ra_25 : Cond.methodLinkNest "AlikeStore$Ranking" 25 M_X_isIn.1 "AlikeStore" ∈ ev_nest := List.mem_filter.mpr ⟨List.mem_of_getElem? (i := 817) (by decide +kernel), rfl⟩
set_option maxRecDepth 100000 in
theorem l_Ra_29 : Cond.methodLinkNest "AlikeStore$Ranking" 29 M_X_unlike.1 "AlikeStore" ∈ ev_nest := List.mem_filter.mpr ⟨List.mem_of_getElem? (i := 818) (by decide +kernel), rfl⟩
set_option maxRecDepth 100000 in
theorem l_Ra_33 : Cond.methodLink "AlikeStore$Ranking" 33 M_Ra_insert.1 ∈ ev_ws := ev_m 819 (by decide +kernel) rfl
set_option maxRecDepth 100000 in
theorem l_Ra_37 : Cond.methodLink "AlikeStore$Ranking" 37 M_JA_fill.1 ∈ ev_ws := ev_m 837 (by decide +kernel) rfl
set_option maxRecDepth 100000 in
theorem lL_Ra_43 : Cond.methodLink "AlikeStore$Ranking" 43 ⟨"java/lang/Math", "min", "(II)I"⟩ ∈ ev_ws := ev_m 838 (by decide +kernel) rfl
set_option maxRecDepth 100000 in
theorem lL_Re_3 : Cond.methodLink "AlikeStore$Reader" 3 ⟨"java/lang/Object", "<init>", "()V"⟩ ∈ ev_ws := ev_m 85 (by decide +kernel) rfl
set_option maxRecDepth 100000 in
theorem l_Re_11 : Cond.methodLinkNest "AlikeStore$Reader" 11 M_Sp_init.1 "AlikeStore" ∈ ev_nest := List.mem_filter.mpr ⟨List.mem_of_getElem? (i := 88) (by decide +kernel), rfl⟩
set_option maxRecDepth 100000 in
theorem l_Re_20 : Cond.methodLinkNest "AlikeStore$Reader" 20 M_Ta_init.1 "AlikeStore" ∈ ev_nest := List.mem_filter.mpr ⟨List.mem_of_getElem? (i := 120) (by decide +kernel), rfl⟩
set_option maxRecDepth 100000 in
theorem l_Re_27 : Cond.methodLink "AlikeStore$Reader" 27 M_St_init.1 ∈ ev_ws := ev_m 135 (by decide +kernel) rfl
set_option maxRecDepth 100000 in
theorem lL_Re_52 : Cond.methodLink "AlikeStore$Reader" 52 ⟨"java/lang/Math", "min", "(II)I"⟩ ∈ ev_ws := ev_m 286 (by decide +kernel) rfl
set_option maxRecDepth 100000 in
theorem l_Re_58 : Cond.methodLink "AlikeStore$Reader" 58 M_St_clear.1 ∈ ev_ws := ev_m 289 (by decide +kernel) rfl
set_option maxRecDepth 100000 in
theorem l_Re_61 : Cond.methodLink "AlikeStore$Reader" 61 M_Re_next.1 ∈ ev_ws := ev_m 293 (by decide +kernel) rfl
set_option maxRecDepth 100000 in
theorem l_Re_66 : Cond.methodLink "AlikeStore$Reader" 66 M_Re_isWord.1 ∈ ev_ws := ev_m 383 (by decide +kernel) rfl
set_option maxRecDepth 100000 in
theorem l_Re_70 : Cond.methodLink "AlikeStore$Reader" 70 M_Re_readBits.1 ∈ ev_ws := ev_m 408 (by decide +kernel) rfl
set_option maxRecDepth 100000 in
theorem l_Re_74 : Cond.methodLink "AlikeStore$Reader" 74 M_St_halve.1 ∈ ev_ws := ev_m 420 (by decide +kernel) rfl
set_option maxRecDepth 100000 in
theorem l_Re_79 : Cond.methodLink "AlikeStore$Reader" 79 M_Re_readParts.1 ∈ ev_ws := ev_m 422 (by decide +kernel) rfl
set_option maxRecDepth 100000 in
theorem l_Re_84 : Cond.methodLink "AlikeStore$Reader" 84 M_Re_readCode.1 ∈ ev_ws := ev_m 427 (by decide +kernel) rfl
set_option maxRecDepth 100000 in
theorem l_Re_89 : Cond.methodLink "AlikeStore$Reader" 89 M_Re_readFilter.1 ∈ ev_ws := ev_m 447 (by decide +kernel) rfl
set_option maxRecDepth 100000 in
theorem lL_Re_94 : Cond.methodLink "AlikeStore$Reader" 94 ⟨"java/lang/String", "indexOf", "(I)I"⟩ ∈ ev_ws := ev_m 298 (by decide +kernel) rfl
set_option maxRecDepth 100000 in
theorem lL_Re_100 : Cond.methodLink "AlikeStore$Reader" 100 ⟨"java/lang/String", "length", "()I"⟩ ∈ ev_ws := ev_m 387 (by decide +kernel) rfl
set_option maxRecDepth 100000 in
theorem lL_Re_102 : Cond.methodLink "AlikeStore$Reader" 102 ⟨"java/lang/String", "charAt", "(I)C"⟩ ∈ ev_ws := ev_m 388 (by decide +kernel) rfl
set_option maxRecDepth 100000 in
theorem l_Re_112 : Cond.methodLink "AlikeStore$Reader" 112 M_Re_number.1 ∈ ev_ws := ev_m 412 (by decide +kernel) rfl
set_option maxRecDepth 100000 in
theorem l_Re_115 : Cond.methodLink "AlikeStore$Reader" 115 M_Re_sign.1 ∈ ev_ws := ev_m 416 (by decide +kernel) rfl
set_option maxRecDepth 100000 in
theorem l_Re_127 : Cond.methodLink "AlikeStore$Reader" 127 M_Re_binary.1 ∈ ev_ws := ev_m 431 (by decide +kernel) rfl
set_option maxRecDepth 100000 in
theorem l_Re_131 : Cond.methodLink "AlikeStore$Reader" 131 M_St_whereIs.1 ∈ ev_ws := ev_m 437 (by decide +kernel) rfl
set_option maxRecDepth 100000 in
theorem l_Re_137 : Cond.methodLink "AlikeStore$Reader" 137 M_St_append.1 ∈ ev_ws := ev_m 442 (by decide +kernel) rfl
set_option maxRecDepth 100000 in
theorem l_Re_145 : Cond.methodLink "AlikeStore$Reader" 145 M_Re_readTest.1 ∈ ev_ws := ev_m 451 (by decide +kernel) rfl
set_option maxRecDepth 100000 in
theorem l_Re_150 : Cond.methodLink "AlikeStore$Reader" 150 M_Fi_init.1 ∈ ev_ws := ev_m 491 (by decide +kernel) rfl
set_option maxRecDepth 100000 in
theorem l_Re_153 : Cond.methodLink "AlikeStore$Reader" 153 M_Re_readSide.1 ∈ ev_ws := ev_m 455 (by decide +kernel) rfl
set_option maxRecDepth 100000 in
theorem l_Re_158 : Cond.methodLink "AlikeStore$Reader" 158 M_Sp_join.1 ∈ ev_ws := ev_m 482 (by decide +kernel) rfl
set_option maxRecDepth 100000 in
theorem l_Re_162 : Cond.methodLink "AlikeStore$Reader" 162 M_Re_readFact.1 ∈ ev_ws := ev_m 459 (by decide +kernel) rfl
set_option maxRecDepth 100000 in
theorem l_Re_169 : Cond.methodLink "AlikeStore$Reader" 169 M_Re_valueKind.1 ∈ ev_ws := ev_m 464 (by decide +kernel) rfl
set_option maxRecDepth 100000 in
theorem l_Re_172 : Cond.methodLink "AlikeStore$Reader" 172 M_Re_readComparison.1 ∈ ev_ws := ev_m 473 (by decide +kernel) rfl
set_option maxRecDepth 100000 in
theorem l_Re_176 : Cond.methodLink "AlikeStore$Reader" 176 M_Sp_put.1 ∈ ev_ws := ev_m 478 (by decide +kernel) rfl
set_option maxRecDepth 100000 in
theorem lL_Sp_3 : Cond.methodLink "AlikeStore$Steps" 3 ⟨"java/lang/Object", "<init>", "()V"⟩ ∈ ev_ws := ev_m 91 (by decide +kernel) rfl
set_option maxRecDepth 100000 in
theorem l_Sp_32 : Cond.methodLink "AlikeStore$Steps" 32 M_Sp_put.1 ∈ ev_ws := ev_m 486 (by decide +kernel) rfl
set_option maxRecDepth 100000 in
theorem lL_St_3 : Cond.methodLink "AlikeStore$Store" 3 ⟨"java/lang/Object", "<init>", "()V"⟩ ∈ ev_ws := ev_m 34 (by decide +kernel) rfl
set_option maxRecDepth 100000 in
theorem l_St_36 : Cond.methodLink "AlikeStore$Store" 36 M_St_halve.1 ∈ ev_ws := ev_m 35 (by decide +kernel) rfl
set_option maxRecDepth 100000 in
theorem lL_St_39 : Cond.methodLink "AlikeStore$Store" 39 ⟨"java/lang/System", "arraycopy", "(Ljava/lang/Object;ILjava/lang/Object;II)V"⟩ ∈ ev_ws := ev_m 545 (by decide +kernel) rfl
set_option maxRecDepth 100000 in
theorem l_St_45 : Cond.methodLinkNest "AlikeStore$Store" 45 M_X_bitOf.1 "AlikeStore" ∈ ev_nest := List.mem_filter.mpr ⟨List.mem_of_getElem? (i := 694) (by decide +kernel), rfl⟩
set_option maxRecDepth 100000 in
theorem lL_St_49 : Cond.methodLink "AlikeStore$Store" 49 ⟨"java/lang/Math", "min", "(II)I"⟩ ∈ ev_ws := ev_m 707 (by decide +kernel) rfl
set_option maxRecDepth 100000 in
theorem l_St_55 : Cond.methodLink "AlikeStore$Store" 55 M_St_all.1 ∈ ev_ws := ev_m 563 (by decide +kernel) rfl
set_option maxRecDepth 100000 in
theorem l_St_59 : Cond.methodLink "AlikeStore$Store" 59 M_Fi_holds.1 ∈ ev_ws := ev_m 567 (by decide +kernel) rfl
set_option maxRecDepth 100000 in
theorem l_St_65 : Cond.methodLinkNest "AlikeStore$Store" 65 M_X_isIn.1 "AlikeStore" ∈ ev_nest := List.mem_filter.mpr ⟨List.mem_of_getElem? (i := 807) (by decide +kernel), rfl⟩
set_option maxRecDepth 100000 in
theorem l_St_69 : Cond.methodLinkNest "AlikeStore$Store" 69 M_X_unlike.1 "AlikeStore" ∈ ev_nest := List.mem_filter.mpr ⟨List.mem_of_getElem? (i := 808) (by decide +kernel), rfl⟩
set_option maxRecDepth 100000 in
theorem l_St_73 : Cond.methodLink "AlikeStore$Store" 73 M_St_keyOf.1 ∈ ev_ws := ev_m 933 (by decide +kernel) rfl
set_option maxRecDepth 100000 in
theorem lL_Ta_3 : Cond.methodLink "AlikeStore$Tape" 3 ⟨"java/lang/Object", "<init>", "()V"⟩ ∈ ev_ws := ev_m 123 (by decide +kernel) rfl
set_option maxRecDepth 100000 in
theorem l_La_9 : Cond.methodLink "AlikeStoreLaw" 9 M_X_init.1 ∈ ev_ws := ev_m 23 (by decide +kernel) rfl
set_option maxRecDepth 100000 in
theorem l_La_12 : Cond.methodLink "AlikeStoreLaw" 12 M_Mo_init.1 ∈ ev_ws := ev_m 955 (by decide +kernel) rfl
set_option maxRecDepth 100000 in
theorem l_La_13 : Cond.methodLink "AlikeStoreLaw" 13 M_X_status.1 ∈ ev_ws := ev_m 262 (by decide +kernel) rfl
set_option maxRecDepth 100000 in
theorem l_La_17 : Cond.methodLink "AlikeStoreLaw" 17 M_Mo_status.1 ∈ ev_ws := ev_m 1050 (by decide +kernel) rfl
set_option maxRecDepth 100000 in
theorem l_La_18 : Cond.methodLink "AlikeStoreLaw" 18 M_X_feed.1 ∈ ev_ws := ev_m 266 (by decide +kernel) rfl
set_option maxRecDepth 100000 in
theorem l_La_22 : Cond.methodLink "AlikeStoreLaw" 22 M_Mo_feed.1 ∈ ev_ws := ev_m 1054 (by decide +kernel) rfl
set_option maxRecDepth 100000 in
theorem l_La_23 : Cond.methodLink "AlikeStoreLaw" 23 M_X_load.1 ∈ ev_ws := ev_m 274 (by decide +kernel) rfl
set_option maxRecDepth 100000 in
theorem l_La_27 : Cond.methodLink "AlikeStoreLaw" 27 M_Mo_load.1 ∈ ev_ws := ev_m 1062 (by decide +kernel) rfl
set_option maxRecDepth 100000 in
theorem l_La_28 : Cond.methodLink "AlikeStoreLaw" 28 M_X_fault.1 ∈ ev_ws := ev_m 551 (by decide +kernel) rfl
set_option maxRecDepth 100000 in
theorem l_La_31 : Cond.methodLink "AlikeStoreLaw" 31 M_Mo_fault.1 ∈ ev_ws := ev_m 1205 (by decide +kernel) rfl
set_option maxRecDepth 100000 in
theorem l_La_32 : Cond.methodLink "AlikeStoreLaw" 32 M_X_many.1 ∈ ev_ws := ev_m 555 (by decide +kernel) rfl
set_option maxRecDepth 100000 in
theorem l_La_35 : Cond.methodLink "AlikeStoreLaw" 35 M_Mo_many_I.1 ∈ ev_ws := ev_m 1209 (by decide +kernel) rfl
set_option maxRecDepth 100000 in
theorem l_La_36 : Cond.methodLink "AlikeStoreLaw" 36 M_X_code.1 ∈ ev_ws := ev_m 602 (by decide +kernel) rfl
set_option maxRecDepth 100000 in
theorem l_La_40 : Cond.methodLink "AlikeStoreLaw" 40 M_Mo_code.1 ∈ ev_ws := ev_m 1240 (by decide +kernel) rfl
set_option maxRecDepth 100000 in
theorem l_La_41 : Cond.methodLink "AlikeStoreLaw" 41 M_X_tagOf.1 ∈ ev_ws := ev_m 614 (by decide +kernel) rfl
set_option maxRecDepth 100000 in
theorem l_La_44 : Cond.methodLink "AlikeStoreLaw" 44 M_Mo_tagOf.1 ∈ ev_ws := ev_m 1252 (by decide +kernel) rfl
set_option maxRecDepth 100000 in
theorem l_La_45 : Cond.methodLink "AlikeStoreLaw" 45 M_X_breadth.1 ∈ ev_ws := ev_m 618 (by decide +kernel) rfl
set_option maxRecDepth 100000 in
theorem l_La_48 : Cond.methodLink "AlikeStoreLaw" 48 M_Mo_breadth.1 ∈ ev_ws := ev_m 1256 (by decide +kernel) rfl
set_option maxRecDepth 100000 in
theorem l_La_49 : Cond.methodLink "AlikeStoreLaw" 49 M_X_key.1 ∈ ev_ws := ev_m 626 (by decide +kernel) rfl
set_option maxRecDepth 100000 in
theorem l_La_53 : Cond.methodLink "AlikeStoreLaw" 53 M_Mo_key_II.1 ∈ ev_ws := ev_m 1264 (by decide +kernel) rfl
set_option maxRecDepth 100000 in
theorem l_La_56 : Cond.methodLink "AlikeStoreLaw" 56 M_X_far.1 ∈ ev_ws := ev_m 631 (by decide +kernel) rfl
set_option maxRecDepth 100000 in
theorem l_La_60 : Cond.methodLink "AlikeStoreLaw" 60 M_Mo_far.1 ∈ ev_ws := ev_m 1268 (by decide +kernel) rfl
set_option maxRecDepth 100000 in
theorem l_La_61 : Cond.methodLink "AlikeStoreLaw" 61 M_X_measure.1 ∈ ev_ws := ev_m 640 (by decide +kernel) rfl
set_option maxRecDepth 100000 in
theorem l_La_65 : Cond.methodLink "AlikeStoreLaw" 65 M_Mo_measure.1 ∈ ev_ws := ev_m 1276 (by decide +kernel) rfl
set_option maxRecDepth 100000 in
theorem l_La_66 : Cond.methodLink "AlikeStoreLaw" 66 M_X_find.1 ∈ ev_ws := ev_m 660 (by decide +kernel) rfl
set_option maxRecDepth 100000 in
theorem l_La_70 : Cond.methodLink "AlikeStoreLaw" 70 M_Mo_find.1 ∈ ev_ws := ev_m 1291 (by decide +kernel) rfl
set_option maxRecDepth 100000 in
theorem l_La_71 : Cond.methodLink "AlikeStoreLaw" 71 M_X_add.1 ∈ ev_ws := ev_m 665 (by decide +kernel) rfl
set_option maxRecDepth 100000 in
theorem l_La_74 : Cond.methodLink "AlikeStoreLaw" 74 M_Mo_add.1 ∈ ev_ws := ev_m 1295 (by decide +kernel) rfl
set_option maxRecDepth 100000 in
theorem l_La_75 : Cond.methodLink "AlikeStoreLaw" 75 M_X_strike.1 ∈ ev_ws := ev_m 670 (by decide +kernel) rfl
set_option maxRecDepth 100000 in
theorem l_La_78 : Cond.methodLink "AlikeStoreLaw" 78 M_Mo_strike.1 ∈ ev_ws := ev_m 1299 (by decide +kernel) rfl
set_option maxRecDepth 100000 in
theorem l_La_79 : Cond.methodLink "AlikeStoreLaw" 79 M_X_flip.1 ∈ ev_ws := ev_m 678 (by decide +kernel) rfl
set_option maxRecDepth 100000 in
theorem l_La_82 : Cond.methodLink "AlikeStoreLaw" 82 M_Mo_flip.1 ∈ ev_ws := ev_m 1303 (by decide +kernel) rfl
set_option maxRecDepth 100000 in
theorem l_La_83 : Cond.methodLink "AlikeStoreLaw" 83 M_X_swap.1 ∈ ev_ws := ev_m 686 (by decide +kernel) rfl
set_option maxRecDepth 100000 in
theorem l_La_86 : Cond.methodLink "AlikeStoreLaw" 86 M_Mo_swap.1 ∈ ev_ws := ev_m 1311 (by decide +kernel) rfl
set_option maxRecDepth 100000 in
theorem l_La_87 : Cond.methodLink "AlikeStoreLaw" 87 M_X_tag.1 ∈ ev_ws := ev_m 695 (by decide +kernel) rfl
set_option maxRecDepth 100000 in
theorem l_La_90 : Cond.methodLink "AlikeStoreLaw" 90 M_Mo_tag.1 ∈ ev_ws := ev_m 1315 (by decide +kernel) rfl
set_option maxRecDepth 100000 in
theorem l_La_91 : Cond.methodLink "AlikeStoreLaw" 91 M_X_split.1 ∈ ev_ws := ev_m 699 (by decide +kernel) rfl
set_option maxRecDepth 100000 in
theorem l_La_94 : Cond.methodLink "AlikeStoreLaw" 94 M_Mo_split.1 ∈ ev_ws := ev_m 1320 (by decide +kernel) rfl
set_option maxRecDepth 100000 in
theorem l_La_95 : Cond.methodLink "AlikeStoreLaw" 95 M_X_merge.1 ∈ ev_ws := ev_m 708 (by decide +kernel) rfl
set_option maxRecDepth 100000 in
theorem l_La_98 : Cond.methodLink "AlikeStoreLaw" 98 M_Mo_merge.1 ∈ ev_ws := ev_m 1324 (by decide +kernel) rfl
set_option maxRecDepth 100000 in
theorem l_La_99 : Cond.methodLink "AlikeStoreLaw" 99 M_X_open.1 ∈ ev_ws := ev_m 716 (by decide +kernel) rfl
set_option maxRecDepth 100000 in
theorem l_La_102 : Cond.methodLink "AlikeStoreLaw" 102 M_Mo_open.1 ∈ ev_ws := ev_m 1328 (by decide +kernel) rfl
set_option maxRecDepth 100000 in
theorem l_La_103 : Cond.methodLink "AlikeStoreLaw" 103 M_X_undo.1 ∈ ev_ws := ev_m 720 (by decide +kernel) rfl
set_option maxRecDepth 100000 in
theorem l_La_106 : Cond.methodLink "AlikeStoreLaw" 106 M_Mo_undo.1 ∈ ev_ws := ev_m 1332 (by decide +kernel) rfl
set_option maxRecDepth 100000 in
theorem l_La_107 : Cond.methodLink "AlikeStoreLaw" 107 M_X_mark.1 ∈ ev_ws := ev_m 728 (by decide +kernel) rfl
set_option maxRecDepth 100000 in
theorem l_La_110 : Cond.methodLink "AlikeStoreLaw" 110 M_Mo_mark.1 ∈ ev_ws := ev_m 1336 (by decide +kernel) rfl
set_option maxRecDepth 100000 in
theorem l_La_111 : Cond.methodLink "AlikeStoreLaw" 111 M_X_back.1 ∈ ev_ws := ev_m 736 (by decide +kernel) rfl
set_option maxRecDepth 100000 in
theorem l_La_114 : Cond.methodLink "AlikeStoreLaw" 114 M_Mo_back.1 ∈ ev_ws := ev_m 1340 (by decide +kernel) rfl
set_option maxRecDepth 100000 in
theorem l_La_115 : Cond.methodLink "AlikeStoreLaw" 115 M_X_budget.1 ∈ ev_ws := ev_m 744 (by decide +kernel) rfl
set_option maxRecDepth 100000 in
theorem l_La_119 : Cond.methodLink "AlikeStoreLaw" 119 M_Mo_budget.1 ∈ ev_ws := ev_m 1344 (by decide +kernel) rfl
set_option maxRecDepth 100000 in
theorem l_La_120 : Cond.methodLink "AlikeStoreLaw" 120 M_X_cost.1 ∈ ev_ws := ev_m 790 (by decide +kernel) rfl
set_option maxRecDepth 100000 in
theorem l_La_123 : Cond.methodLink "AlikeStoreLaw" 123 M_Mo_cost.1 ∈ ev_ws := ev_m 1370 (by decide +kernel) rfl
set_option maxRecDepth 100000 in
theorem l_La_124 : Cond.methodLink "AlikeStoreLaw" 124 M_X_near.1 ∈ ev_ws := ev_m 795 (by decide +kernel) rfl
set_option maxRecDepth 100000 in
theorem l_La_127 : Cond.methodLink "AlikeStoreLaw" 127 M_Mo_near.1 ∈ ev_ws := ev_m 1374 (by decide +kernel) rfl
set_option maxRecDepth 100000 in
theorem l_La_128 : Cond.methodLink "AlikeStoreLaw" 128 M_X_ranked.1 ∈ ev_ws := ev_m 809 (by decide +kernel) rfl
set_option maxRecDepth 100000 in
theorem l_La_132 : Cond.methodLink "AlikeStoreLaw" 132 M_Mo_ranked.1 ∈ ev_ws := ev_m 1387 (by decide +kernel) rfl
set_option maxRecDepth 100000 in
theorem l_La_133 : Cond.methodLink "AlikeStoreLaw" 133 M_X_grown.1 ∈ ev_ws := ev_m 823 (by decide +kernel) rfl
set_option maxRecDepth 100000 in
theorem l_La_136 : Cond.methodLink "AlikeStoreLaw" 136 M_Mo_grown.1 ∈ ev_ws := ev_m 1395 (by decide +kernel) rfl
set_option maxRecDepth 100000 in
theorem l_La_137 : Cond.methodLink "AlikeStoreLaw" 137 M_X_apart.1 ∈ ev_ws := ev_m 829 (by decide +kernel) rfl
set_option maxRecDepth 100000 in
theorem l_La_141 : Cond.methodLink "AlikeStoreLaw" 141 M_Mo_apart.1 ∈ ev_ws := ev_m 1399 (by decide +kernel) rfl
set_option maxRecDepth 100000 in
theorem l_La_142 : Cond.methodLink "AlikeStoreLaw" 142 M_X_pairs.1 ∈ ev_ws := ev_m 839 (by decide +kernel) rfl
set_option maxRecDepth 100000 in
theorem l_La_145 : Cond.methodLink "AlikeStoreLaw" 145 M_Mo_pairs.1 ∈ ev_ws := ev_m 1404 (by decide +kernel) rfl
set_option maxRecDepth 100000 in
theorem l_La_146 : Cond.methodLink "AlikeStoreLaw" 146 M_X_pair.1 ∈ ev_ws := ev_m 847 (by decide +kernel) rfl
set_option maxRecDepth 100000 in
theorem l_La_149 : Cond.methodLink "AlikeStoreLaw" 149 M_Mo_pair.1 ∈ ev_ws := ev_m 1412 (by decide +kernel) rfl
set_option maxRecDepth 100000 in
theorem l_La_150 : Cond.methodLink "AlikeStoreLaw" 150 M_X_joined.1 ∈ ev_ws := ev_m 862 (by decide +kernel) rfl
set_option maxRecDepth 100000 in
theorem l_La_153 : Cond.methodLink "AlikeStoreLaw" 153 M_Mo_joined.1 ∈ ev_ws := ev_m 1416 (by decide +kernel) rfl
set_option maxRecDepth 100000 in
theorem l_La_154 : Cond.methodLink "AlikeStoreLaw" 154 M_X_closest.1 ∈ ev_ws := ev_m 866 (by decide +kernel) rfl
set_option maxRecDepth 100000 in
theorem l_La_157 : Cond.methodLink "AlikeStoreLaw" 157 M_Mo_closest.1 ∈ ev_ws := ev_m 1420 (by decide +kernel) rfl
set_option maxRecDepth 100000 in
theorem l_La_158 : Cond.methodLink "AlikeStoreLaw" 158 M_X_clusters.1 ∈ ev_ws := ev_m 874 (by decide +kernel) rfl
set_option maxRecDepth 100000 in
theorem l_La_161 : Cond.methodLink "AlikeStoreLaw" 161 M_Mo_clusters.1 ∈ ev_ws := ev_m 1424 (by decide +kernel) rfl
set_option maxRecDepth 100000 in
theorem l_La_162 : Cond.methodLink "AlikeStoreLaw" 162 M_X_cluster.1 ∈ ev_ws := ev_m 885 (by decide +kernel) rfl
set_option maxRecDepth 100000 in
theorem l_La_165 : Cond.methodLink "AlikeStoreLaw" 165 M_Mo_cluster.1 ∈ ev_ws := ev_m 1435 (by decide +kernel) rfl
set_option maxRecDepth 100000 in
theorem l_La_166 : Cond.methodLink "AlikeStoreLaw" 166 M_X_vote.1 ∈ ev_ws := ev_m 897 (by decide +kernel) rfl
set_option maxRecDepth 100000 in
theorem l_La_169 : Cond.methodLink "AlikeStoreLaw" 169 M_Mo_vote.1 ∈ ev_ws := ev_m 1443 (by decide +kernel) rfl
set_option maxRecDepth 100000 in
theorem l_La_170 : Cond.methodLink "AlikeStoreLaw" 170 M_X_like.1 ∈ ev_ws := ev_m 906 (by decide +kernel) rfl
set_option maxRecDepth 100000 in
theorem l_La_174 : Cond.methodLink "AlikeStoreLaw" 174 M_Mo_like.1 ∈ ev_ws := ev_m 1448 (by decide +kernel) rfl
set_option maxRecDepth 100000 in
theorem l_La_175 : Cond.methodLink "AlikeStoreLaw" 175 M_X_ones.1 ∈ ev_ws := ev_m 910 (by decide +kernel) rfl
set_option maxRecDepth 100000 in
theorem l_La_178 : Cond.methodLink "AlikeStoreLaw" 178 M_Mo_ones_I.1 ∈ ev_ws := ev_m 1452 (by decide +kernel) rfl
set_option maxRecDepth 100000 in
theorem l_La_179 : Cond.methodLink "AlikeStoreLaw" 179 M_X_telling.1 ∈ ev_ws := ev_m 914 (by decide +kernel) rfl
set_option maxRecDepth 100000 in
theorem l_La_182 : Cond.methodLink "AlikeStoreLaw" 182 M_Mo_telling.1 ∈ ev_ws := ev_m 1460 (by decide +kernel) rfl
set_option maxRecDepth 100000 in
theorem l_La_183 : Cond.methodLink "AlikeStoreLaw" 183 M_X_alike.1 ∈ ev_ws := ev_m 921 (by decide +kernel) rfl
set_option maxRecDepth 100000 in
theorem l_La_186 : Cond.methodLink "AlikeStoreLaw" 186 M_Mo_alike.1 ∈ ev_ws := ev_m 1464 (by decide +kernel) rfl
set_option maxRecDepth 100000 in
theorem l_La_187 : Cond.methodLink "AlikeStoreLaw" 187 M_X_spread.1 ∈ ev_ws := ev_m 925 (by decide +kernel) rfl
set_option maxRecDepth 100000 in
theorem l_La_190 : Cond.methodLink "AlikeStoreLaw" 190 M_Mo_spread.1 ∈ ev_ws := ev_m 1468 (by decide +kernel) rfl
set_option maxRecDepth 100000 in
theorem l_La_191 : Cond.methodLink "AlikeStoreLaw" 191 M_X_parted.1 ∈ ev_ws := ev_m 934 (by decide +kernel) rfl
set_option maxRecDepth 100000 in
theorem l_La_194 : Cond.methodLink "AlikeStoreLaw" 194 M_Mo_parted.1 ∈ ev_ws := ev_m 1472 (by decide +kernel) rfl
set_option maxRecDepth 100000 in
theorem l_La_195 : Cond.methodLink "AlikeStoreLaw" 195 M_X_bestPart.1 ∈ ev_ws := ev_m 949 (by decide +kernel) rfl
set_option maxRecDepth 100000 in
theorem l_La_198 : Cond.methodLink "AlikeStoreLaw" 198 M_Mo_bestPart.1 ∈ ev_ws := ev_m 1485 (by decide +kernel) rfl
set_option maxRecDepth 100000 in
theorem lL_Mo_1 : Cond.methodLink "AlikeStoreModel" 1 ⟨"java/lang/Object", "<init>", "()V"⟩ ∈ ev_ws := ev_m 958 (by decide +kernel) rfl
set_option maxRecDepth 100000 in
theorem l_Mo_51 : Cond.methodLink "AlikeStoreModel" 51 M_Mo_begins.1 ∈ ev_ws := ev_m 960 (by decide +kernel) rfl
set_option maxRecDepth 100000 in
theorem l_Mo_60 : Cond.methodLink "AlikeStoreModel" 60 M_Mo_puts.1 ∈ ev_ws := ev_m 964 (by decide +kernel) rfl
set_option maxRecDepth 100000 in
theorem l_Mo_64 : Cond.methodLink "AlikeStoreModel" 64 M_Mo_of.1 ∈ ev_ws := ev_m 973 (by decide +kernel) rfl
set_option maxRecDepth 100000 in
theorem l_Mo_68 : Cond.methodLink "AlikeStoreModel" 68 M_Mo_halves.1 ∈ ev_ws := ev_m 968 (by decide +kernel) rfl
set_option maxRecDepth 100000 in
theorem l_Mo_71 : Cond.methodLink "AlikeStoreModel" 71 M_Mo_many_0.1 ∈ ev_ws := ev_m 1144 (by decide +kernel) rfl
set_option maxRecDepth 100000 in
theorem l_Mo_75 : Cond.methodLink "AlikeStoreModel" 75 M_Mo_parts.1 ∈ ev_ws := ev_m 1128 (by decide +kernel) rfl
set_option maxRecDepth 100000 in
theorem l_Mo_78 : Cond.methodLink "AlikeStoreModel" 78 M_Mo_bits.1 ∈ ev_ws := ev_m 1132 (by decide +kernel) rfl
set_option maxRecDepth 100000 in
theorem l_Mo_81 : Cond.methodLink "AlikeStoreModel" 81 M_Mo_breadthOf.1 ∈ ev_ws := ev_m 1233 (by decide +kernel) rfl
set_option maxRecDepth 100000 in
theorem l_Mo_85 : Cond.methodLink "AlikeStoreModel" 85 M_Mo_codeOf.1 ∈ ev_ws := ev_m 1156 (by decide +kernel) rfl
set_option maxRecDepth 100000 in
theorem l_Mo_88 : Cond.methodLink "AlikeStoreModel" 88 M_Mo_ones_J.1 ∈ ev_ws := ev_m 1226 (by decide +kernel) rfl
set_option maxRecDepth 100000 in
theorem l_Mo_92 : Cond.methodLink "AlikeStoreModel" 92 M_Mo_keyOf.1 ∈ ev_ws := ev_m 1229 (by decide +kernel) rfl
set_option maxRecDepth 100000 in
theorem l_Mo_98 : Cond.methodLink "AlikeStoreModel" 98 M_Mo_valueOf.1 ∈ ev_ws := ev_m 1222 (by decide +kernel) rfl
set_option maxRecDepth 100000 in
theorem l_Mo_102 : Cond.methodLink "AlikeStoreModel" 102 M_Mo_two.1 ∈ ev_ws := ev_m 1237 (by decide +kernel) rfl
set_option maxRecDepth 100000 in
theorem l_Mo_106 : Cond.methodLink "AlikeStoreModel" 106 M_Mo_isCounting.1 ∈ ev_ws := ev_m 1217 (by decide +kernel) rfl
set_option maxRecDepth 100000 in
theorem l_Mo_113 : Cond.methodLink "AlikeStoreModel" 113 M_Mo_four.1 ∈ ev_ws := ev_m 1058 (by decide +kernel) rfl
set_option maxRecDepth 100000 in
theorem l_Mo_122 : Cond.methodLink "AlikeStoreModel" 122 M_Mo_byteAt.1 ∈ ev_ws := ev_m 1081 (by decide +kernel) rfl
set_option maxRecDepth 100000 in
theorem l_Mo_131 : Cond.methodLink "AlikeStoreModel" 131 M_Mo_isSmall.1 ∈ ev_ws := ev_m 1085 (by decide +kernel) rfl
set_option maxRecDepth 100000 in
theorem l_Mo_134 : Cond.methodLink "AlikeStoreModel" 134 M_Mo_isDigit.1 ∈ ev_ws := ev_m 1088 (by decide +kernel) rfl
set_option maxRecDepth 100000 in
theorem lL_Mo_139 : Cond.methodLink "AlikeStoreModel" 139 ⟨"java/lang/String", "length", "()I"⟩ ∈ ev_ws := ev_m 1096 (by decide +kernel) rfl
set_option maxRecDepth 100000 in
theorem lL_Mo_144 : Cond.methodLink "AlikeStoreModel" 144 ⟨"java/lang/String", "charAt", "(I)C"⟩ ∈ ev_ws := ev_m 1097 (by decide +kernel) rfl
set_option maxRecDepth 100000 in
theorem l_Mo_151 : Cond.methodLink "AlikeStoreModel" 151 M_Mo_ahead.1 ∈ ev_ws := ev_m 1077 (by decide +kernel) rfl
set_option maxRecDepth 100000 in
theorem l_Mo_154 : Cond.methodLink "AlikeStoreModel" 154 M_Mo_isSign.1 ∈ ev_ws := ev_m 1116 (by decide +kernel) rfl
set_option maxRecDepth 100000 in
theorem l_Mo_157 : Cond.methodLink "AlikeStoreModel" 157 M_Mo_takes.1 ∈ ev_ws := ev_m 1120 (by decide +kernel) rfl
set_option maxRecDepth 100000 in
theorem l_Mo_161 : Cond.methodLink "AlikeStoreModel" 161 M_Mo_fails.1 ∈ ev_ws := ev_m 1106 (by decide +kernel) rfl
set_option maxRecDepth 100000 in
theorem l_Mo_172 : Cond.methodLink "AlikeStoreModel" 172 M_Mo_isFrom.1 ∈ ev_ws := ev_m 1066 (by decide +kernel) rfl
set_option maxRecDepth 100000 in
theorem l_Mo_179 : Cond.methodLink "AlikeStoreModel" 179 M_Mo_emits.1 ∈ ev_ws := ev_m 1184 (by decide +kernel) rfl
set_option maxRecDepth 100000 in
theorem l_Mo_182 : Cond.methodLink "AlikeStoreModel" 182 M_Mo_rises.1 ∈ ev_ws := ev_m 1188 (by decide +kernel) rfl
set_option maxRecDepth 100000 in
theorem l_Mo_185 : Cond.methodLink "AlikeStoreModel" 185 M_Mo_side.1 ∈ ev_ws := ev_m 1168 (by decide +kernel) rfl
set_option maxRecDepth 100000 in
theorem l_Mo_188 : Cond.methodLink "AlikeStoreModel" 188 M_Mo_key_0.1 ∈ ev_ws := ev_m 1091 (by decide +kernel) rfl
set_option maxRecDepth 100000 in
theorem l_Mo_191 : Cond.methodLink "AlikeStoreModel" 191 M_Mo_fact.1 ∈ ev_ws := ev_m 1172 (by decide +kernel) rfl
set_option maxRecDepth 100000 in
theorem l_Mo_194 : Cond.methodLink "AlikeStoreModel" 194 M_Mo_isBinaryHere.1 ∈ ev_ws := ev_m 1148 (by decide +kernel) rfl
set_option maxRecDepth 100000 in
theorem l_Mo_197 : Cond.methodLink "AlikeStoreModel" 197 M_Mo_isNumberHere.1 ∈ ev_ws := ev_m 1102 (by decide +kernel) rfl
set_option maxRecDepth 100000 in
theorem l_Mo_201 : Cond.methodLink "AlikeStoreModel" 201 M_Mo_sinks.1 ∈ ev_ws := ev_m 1176 (by decide +kernel) rfl
set_option maxRecDepth 100000 in
theorem l_Mo_204 : Cond.methodLink "AlikeStoreModel" 204 M_Mo_emitsNot.1 ∈ ev_ws := ev_m 1180 (by decide +kernel) rfl
set_option maxRecDepth 100000 in
theorem l_Mo_207 : Cond.methodLink "AlikeStoreModel" 207 M_Mo_test.1 ∈ ev_ws := ev_m 1164 (by decide +kernel) rfl
set_option maxRecDepth 100000 in
theorem l_Mo_210 : Cond.methodLink "AlikeStoreModel" 210 M_Mo_takesSign.1 ∈ ev_ws := ev_m 1112 (by decide +kernel) rfl
set_option maxRecDepth 100000 in
theorem l_Mo_213 : Cond.methodLink "AlikeStoreModel" 213 M_Mo_valueHere.1 ∈ ev_ws := ev_m 1192 (by decide +kernel) rfl
set_option maxRecDepth 100000 in
theorem l_Mo_217 : Cond.methodLink "AlikeStoreModel" 217 M_Mo_found.1 ∈ ev_ws := ev_m 1152 (by decide +kernel) rfl
set_option maxRecDepth 100000 in
theorem l_Mo_220 : Cond.methodLink "AlikeStoreModel" 220 M_Mo_aCode.1 ∈ ev_ws := ev_m 1140 (by decide +kernel) rfl
set_option maxRecDepth 100000 in
theorem l_Mo_223 : Cond.methodLink "AlikeStoreModel" 223 M_Mo_aFilter.1 ∈ ev_ws := ev_m 1160 (by decide +kernel) rfl
set_option maxRecDepth 100000 in
theorem l_Mo_226 : Cond.methodLink "AlikeStoreModel" 226 M_Mo_refuse.1 ∈ ev_ws := ev_m 1069 (by decide +kernel) rfl
set_option maxRecDepth 100000 in
theorem l_Mo_229 : Cond.methodLink "AlikeStoreModel" 229 M_Mo_copies.1 ∈ ev_ws := ev_m 1073 (by decide +kernel) rfl
set_option maxRecDepth 100000 in
theorem l_Mo_233 : Cond.methodLink "AlikeStoreModel" 233 M_Mo_theBits.1 ∈ ev_ws := ev_m 1098 (by decide +kernel) rfl
set_option maxRecDepth 100000 in
theorem l_Mo_236 : Cond.methodLink "AlikeStoreModel" 236 M_Mo_theParts.1 ∈ ev_ws := ev_m 1124 (by decide +kernel) rfl
set_option maxRecDepth 100000 in
theorem l_Mo_239 : Cond.methodLink "AlikeStoreModel" 239 M_Mo_aLine.1 ∈ ev_ws := ev_m 1136 (by decide +kernel) rfl
set_option maxRecDepth 100000 in
theorem l_Mo_242 : Cond.methodLink "AlikeStoreModel" 242 M_Mo_acted.1 ∈ ev_ws := ev_m 1197 (by decide +kernel) rfl
set_option maxRecDepth 100000 in
theorem l_Mo_245 : Cond.methodLink "AlikeStoreModel" 245 M_Mo_gives_I.1 ∈ ev_ws := ev_m 1201 (by decide +kernel) rfl
set_option maxRecDepth 100000 in
theorem l_Mo_248 : Cond.methodLink "AlikeStoreModel" 248 M_Mo_counting.1 ∈ ev_ws := ev_m 1213 (by decide +kernel) rfl
set_option maxRecDepth 100000 in
theorem l_Mo_258 : Cond.methodLink "AlikeStoreModel" 258 M_Mo_isCode.1 ∈ ev_ws := ev_m 1244 (by decide +kernel) rfl
set_option maxRecDepth 100000 in
theorem l_Mo_261 : Cond.methodLink "AlikeStoreModel" 261 M_Mo_gives_J.1 ∈ ev_ws := ev_m 1248 (by decide +kernel) rfl
set_option maxRecDepth 100000 in
theorem l_Mo_264 : Cond.methodLink "AlikeStoreModel" 264 M_Mo_isPart.1 ∈ ev_ws := ev_m 1260 (by decide +kernel) rfl
set_option maxRecDepth 100000 in
theorem l_Mo_267 : Cond.methodLink "AlikeStoreModel" 267 M_Mo_isNumber.1 ∈ ev_ws := ev_m 1272 (by decide +kernel) rfl
set_option maxRecDepth 100000 in
theorem l_Mo_271 : Cond.methodLink "AlikeStoreModel" 271 M_Mo_has.1 ∈ ev_ws := ev_m 1284 (by decide +kernel) rfl
set_option maxRecDepth 100000 in
theorem lL_Mo_275 : Cond.methodLink "AlikeStoreModel" 275 ⟨"java/lang/Math", "max", "(II)I"⟩ ∈ ev_ws := ev_m 1290 (by decide +kernel) rfl
set_option maxRecDepth 100000 in
theorem l_Mo_283 : Cond.methodLink "AlikeStoreModel" 283 M_Mo_span.1 ∈ ev_ws := ev_m 1281 (by decide +kernel) rfl
set_option maxRecDepth 100000 in
theorem l_Mo_286 : Cond.methodLink "AlikeStoreModel" 286 M_Mo_runs.1 ∈ ev_ws := ev_m 1287 (by decide +kernel) rfl
set_option maxRecDepth 100000 in
theorem l_Mo_290 : Cond.methodLink "AlikeStoreModel" 290 M_Mo_isBit.1 ∈ ev_ws := ev_m 1307 (by decide +kernel) rfl
set_option maxRecDepth 100000 in
theorem l_Mo_298 : Cond.methodLink "AlikeStoreModel" 298 M_Mo_keyAt.1 ∈ ev_ws := ev_m 1364 (by decide +kernel) rfl
set_option maxRecDepth 100000 in
theorem l_Mo_301 : Cond.methodLink "AlikeStoreModel" 301 M_Mo_costOf.1 ∈ ev_ws := ev_m 1360 (by decide +kernel) rfl
set_option maxRecDepth 100000 in
theorem lL_Mo_306 : Cond.methodLink "AlikeStoreModel" 306 ⟨"java/lang/Math", "min", "(II)I"⟩ ∈ ev_ws := ev_m 1369 (by decide +kernel) rfl
set_option maxRecDepth 100000 in
theorem l_Mo_309 : Cond.methodLink "AlikeStoreModel" 309 M_Mo_isRadius.1 ∈ ev_ws := ev_m 1348 (by decide +kernel) rfl
set_option maxRecDepth 100000 in
theorem l_Mo_312 : Cond.methodLink "AlikeStoreModel" 312 M_Mo_ownParts.1 ∈ ev_ws := ev_m 1352 (by decide +kernel) rfl
set_option maxRecDepth 100000 in
theorem l_Mo_315 : Cond.methodLink "AlikeStoreModel" 315 M_Mo_budgetsOf.1 ∈ ev_ws := ev_m 1356 (by decide +kernel) rfl
set_option maxRecDepth 100000 in
theorem l_Mo_321 : Cond.methodLink "AlikeStoreModel" 321 M_Mo_isCandidate.1 ∈ ev_ws := ev_m 1379 (by decide +kernel) rfl
set_option maxRecDepth 100000 in
theorem l_Mo_325 : Cond.methodLink "AlikeStoreModel" 325 M_Mo_nearSet.1 ∈ ev_ws := ev_m 1383 (by decide +kernel) rfl
set_option maxRecDepth 100000 in
theorem l_Mo_328 : Cond.methodLink "AlikeStoreModel" 328 M_Mo_ranks.1 ∈ ev_ws := ev_m 1391 (by decide +kernel) rfl
set_option maxRecDepth 100000 in
theorem l_Mo_334 : Cond.methodLink "AlikeStoreModel" 334 M_Mo_isPair.1 ∈ ev_ws := ev_m 1408 (by decide +kernel) rfl
set_option maxRecDepth 100000 in
theorem l_Mo_338 : Cond.methodLink "AlikeStoreModel" 338 M_Mo_clusterOf.1 ∈ ev_ws := ev_m 1428 (by decide +kernel) rfl
set_option maxRecDepth 100000 in
theorem l_Mo_341 : Cond.methodLink "AlikeStoreModel" 341 M_Mo_leastIn.1 ∈ ev_ws := ev_m 1432 (by decide +kernel) rfl
set_option maxRecDepth 100000 in
theorem l_Mo_344 : Cond.methodLink "AlikeStoreModel" 344 M_Mo_middle.1 ∈ ev_ws := ev_m 1439 (by decide +kernel) rfl
set_option maxRecDepth 100000 in
theorem l_Mo_349 : Cond.methodLink "AlikeStoreModel" 349 M_Mo_onesAt.1 ∈ ev_ws := ev_m 1456 (by decide +kernel) rfl
set_option maxRecDepth 100000 in
theorem l_Mo_355 : Cond.methodLink "AlikeStoreModel" 355 M_Mo_isParted.1 ∈ ev_ws := ev_m 1477 (by decide +kernel) rfl
set_option maxRecDepth 100000 in
theorem l_Mo_358 : Cond.methodLink "AlikeStoreModel" 358 M_Mo_partedBy.1 ∈ ev_ws := ev_m 1481 (by decide +kernel) rfl
set_option maxRecDepth 100000 in
theorem lL_JA_150 : Cond.methodLink "java/util/Arrays" 150 ⟨"java/lang/System", "arraycopy", "(Ljava/lang/Object;ILjava/lang/Object;II)V"⟩ ∈ ev_ws := ev_m 506 (by decide +kernel) rfl
set_option maxRecDepth 100000 in
theorem lL_JA_304 : Cond.methodLink "java/util/Arrays" 304 ⟨"java/lang/Math", "min", "(II)I"⟩ ∈ ev_ws := ev_m 505 (by decide +kernel) rfl
set_option maxRecDepth 100000 in
theorem lL_JA_316 : Cond.methodLink "java/util/Arrays" 316 ⟨"[I", "clone", "()Ljava/lang/Object;"⟩ ∈ ev_ws := ev_m 498 (by decide +kernel) rfl
set_option maxRecDepth 100000 in
theorem lL_JA_319 : Cond.methodLink "java/util/Arrays" 319 ⟨"[J", "clone", "()Ljava/lang/Object;"⟩ ∈ ev_ws := ev_m 512 (by decide +kernel) rfl
set_option maxRecDepth 100000 in
theorem k_X_290 : Cond.constantLong "AlikeStore" 290 (-1) ∈ ev_ws := ev_m 650 (by decide +kernel) rfl
set_option maxRecDepth 100000 in
theorem k_Bu_68 : Cond.constant "AlikeStore$Budgets" 68 (1000000) ∈ ev_ws := ev_m 776 (by decide +kernel) rfl
set_option maxRecDepth 100000 in
theorem k_Re_106 : Cond.constantLong "AlikeStore$Reader" 106 (-2) ∈ ev_ws := ev_m 435 (by decide +kernel) rfl
set_option maxRecDepth 100000 in
theorem k_Re_110 : Cond.constantLong "AlikeStore$Reader" 110 (-3) ∈ ev_ws := ev_m 436 (by decide +kernel) rfl
set_option maxRecDepth 100000 in
theorem k_Re_175 : Cond.constant "AlikeStore$Reader" 175 (99999999) ∈ ev_ws := ev_m 477 (by decide +kernel) rfl
set_option maxRecDepth 100000 in
theorem k_La_54 : Cond.constantLong "AlikeStoreLaw" 54 (4294967295) ∈ ev_ws := ev_m 1489 (by decide +kernel) rfl
set_option maxRecDepth 100000 in
theorem k_Mo_58 : Cond.constantLong "AlikeStoreModel" 58 (2) ∈ ev_ws := ev_m 972 (by decide +kernel) rfl
set_option maxRecDepth 100000 in
theorem k_Mo_96 : Cond.constantLong "AlikeStoreModel" 96 (15) ∈ ev_ws := ev_m 1221 (by decide +kernel) rfl
set_option maxRecDepth 100000 in
theorem k_Mo_168 : Cond.constantLong "AlikeStoreModel" 168 (10) ∈ ev_ws := ev_m 1110 (by decide +kernel) rfl
set_option maxRecDepth 100000 in
theorem k_Mo_170 : Cond.constantLong "AlikeStoreModel" 170 (48) ∈ ev_ws := ev_m 1111 (by decide +kernel) rfl
set_option maxRecDepth 100000 in
theorem k_Mo_216 : Cond.constant "AlikeStoreModel" 216 (99999999) ∈ ev_ws := ev_m 1196 (by decide +kernel) rfl
set_option maxRecDepth 100000 in
theorem k_Mo_281 : Cond.constantLong "AlikeStoreModel" 281 (3) ∈ ev_ws := ev_m 1280 (by decide +kernel) rfl
set_option maxRecDepth 100000 in
theorem k_Mo_293 : Cond.constantLong "AlikeStoreModel" 293 (9) ∈ ev_ws := ev_m 1319 (by decide +kernel) rfl
set_option maxRecDepth 100000 in
theorem k_Mo_305 : Cond.constant "AlikeStoreModel" 305 (1000000) ∈ ev_ws := ev_m 1368 (by decide +kernel) rfl
set_option maxRecDepth 100000 in
theorem k_Mo_319 : Cond.constantLong "AlikeStoreModel" 319 (4) ∈ ev_ws := ev_m 1378 (by decide +kernel) rfl
set_option maxRecDepth 100000 in
theorem k_Mo_332 : Cond.constantLong "AlikeStoreModel" 332 (32) ∈ ev_ws := ev_m 1403 (by decide +kernel) rfl
set_option maxRecDepth 100000 in
theorem k_Mo_347 : Cond.constantLong "AlikeStoreModel" 347 (4294967295) ∈ ev_ws := ev_m 1447 (by decide +kernel) rfl
set_option maxRecDepth 100000 in
theorem k_Mo_353 : Cond.constantLong "AlikeStoreModel" 353 (24) ∈ ev_ws := ev_m 1476 (by decide +kernel) rfl
set_option maxRecDepth 100000 in
theorem k_JI_265 : Cond.constant "java/lang/Integer" 265 (1431655765) ∈ ev_ws := ev_m 599 (by decide +kernel) rfl
set_option maxRecDepth 100000 in
theorem k_JI_266 : Cond.constant "java/lang/Integer" 266 (858993459) ∈ ev_ws := ev_m 600 (by decide +kernel) rfl
set_option maxRecDepth 100000 in
theorem k_JI_267 : Cond.constant "java/lang/Integer" 267 (252645135) ∈ ev_ws := ev_m 601 (by decide +kernel) rfl
set_option maxRecDepth 100000 in
theorem k_JL_314 : Cond.constantLong "java/lang/Long" 314 (6148914691236517205) ∈ ev_ws := ev_m 582 (by decide +kernel) rfl
set_option maxRecDepth 100000 in
theorem k_JL_316 : Cond.constantLong "java/lang/Long" 316 (3689348814741910323) ∈ ev_ws := ev_m 583 (by decide +kernel) rfl
set_option maxRecDepth 100000 in
theorem k_JL_318 : Cond.constantLong "java/lang/Long" 318 (1085102592571150095) ∈ ev_ws := ev_m 584 (by decide +kernel) rfl
set_option maxRecDepth 100000 in
theorem n_Bu : Cond.instantiable RX0 5 ∈ ev_ws := ev_m 191 (by decide +kernel) rfl
set_option maxRecDepth 100000 in
theorem z_Bu : Cond.initialized RX0 ∈ ev_ws := ev_m 7 (by decide +kernel) rfl
set_option maxRecDepth 100000 in
theorem n_Fi : Cond.instantiable RX1 5 ∈ ev_ws := ev_m 490 (by decide +kernel) rfl
set_option maxRecDepth 100000 in
theorem z_Fi : Cond.initialized RX1 ∈ ev_ws := ev_m 16 (by decide +kernel) rfl
set_option maxRecDepth 100000 in
theorem n_Hi : Cond.instantiable RX2 5 ∈ ev_ws := ev_m 164 (by decide +kernel) rfl
set_option maxRecDepth 100000 in
theorem z_Hi : Cond.initialized RX2 ∈ ev_ws := ev_m 6 (by decide +kernel) rfl
set_option maxRecDepth 100000 in
theorem n_Ra : Cond.instantiable RX3 4 ∈ ev_ws := ev_m 217 (by decide +kernel) rfl
set_option maxRecDepth 100000 in
theorem z_Ra : Cond.initialized RX3 ∈ ev_ws := ev_m 8 (by decide +kernel) rfl
set_option maxRecDepth 100000 in
theorem n_Re : Cond.instantiable RX4 8 ∈ ev_ws := ev_m 81 (by decide +kernel) rfl
set_option maxRecDepth 100000 in
theorem z_Re : Cond.initialized RX4 ∈ ev_ws := ev_m 3 (by decide +kernel) rfl
set_option maxRecDepth 100000 in
theorem n_Sp : Cond.instantiable RX5 6 ∈ ev_ws := ev_m 87 (by decide +kernel) rfl
set_option maxRecDepth 100000 in
theorem z_Sp : Cond.initialized RX5 ∈ ev_ws := ev_m 4 (by decide +kernel) rfl
set_option maxRecDepth 100000 in
theorem n_St : Cond.instantiable RX6 7 ∈ ev_ws := ev_m 30 (by decide +kernel) rfl
set_option maxRecDepth 100000 in
theorem z_St : Cond.initialized RX6 ∈ ev_ws := ev_m 2 (by decide +kernel) rfl
set_option maxRecDepth 100000 in
theorem n_Ta : Cond.instantiable RX7 2 ∈ ev_ws := ev_m 119 (by decide +kernel) rfl
set_option maxRecDepth 100000 in
theorem z_Ta : Cond.initialized RX7 ∈ ev_ws := ev_m 5 (by decide +kernel) rfl
set_option maxRecDepth 100000 in
theorem n_X : Cond.instantiable RX8 8 ∈ ev_ws := ev_m 22 (by decide +kernel) rfl
set_option maxRecDepth 100000 in
theorem z_X : Cond.initialized RX8 ∈ ev_ws := ev_m 1 (by decide +kernel) rfl
set_option maxRecDepth 100000 in
theorem n_Mo : Cond.instantiable RX9 24 ∈ ev_ws := ev_m 954 (by decide +kernel) rfl
set_option maxRecDepth 100000 in
theorem z_Mo : Cond.initialized RX9 ∈ ev_ws := ev_m 9 (by decide +kernel) rfl
set_option maxRecDepth 100000 in
theorem q_La_7 : Cond.classLink "AlikeStoreLaw" 7 "AlikeStore" ∈ ev_ws := ev_m 21 (by decide +kernel) rfl
set_option maxRecDepth 100000 in
theorem q_X_7 : Cond.classLink "AlikeStore" 7 "AlikeStore$Store" ∈ ev_ws := ev_m 29 (by decide +kernel) rfl
set_option maxRecDepth 100000 in
theorem q_X_16 : Cond.classLink "AlikeStore" 16 "AlikeStore$Reader" ∈ ev_ws := ev_m 80 (by decide +kernel) rfl
set_option maxRecDepth 100000 in
theorem q_Re_9 : Cond.classLink "AlikeStore$Reader" 9 "AlikeStore$Steps" ∈ ev_ws := ev_m 86 (by decide +kernel) rfl
set_option maxRecDepth 100000 in
theorem q_Re_18 : Cond.classLink "AlikeStore$Reader" 18 "AlikeStore$Tape" ∈ ev_ws := ev_m 118 (by decide +kernel) rfl
set_option maxRecDepth 100000 in
theorem q_Re_25 : Cond.classLink "AlikeStore$Reader" 25 "AlikeStore$Store" ∈ ev_ws := ev_m 134 (by decide +kernel) rfl
set_option maxRecDepth 100000 in
theorem q_X_23 : Cond.classLink "AlikeStore" 23 "AlikeStore$History" ∈ ev_ws := ev_m 163 (by decide +kernel) rfl
set_option maxRecDepth 100000 in
theorem q_Hi_9 : Cond.classLink "AlikeStore$History" 9 "AlikeStore$Store" ∈ ev_ws := ev_m 169 (by decide +kernel) rfl
set_option maxRecDepth 100000 in
theorem q_X_30 : Cond.classLink "AlikeStore" 30 "AlikeStore$Budgets" ∈ ev_ws := ev_m 190 (by decide +kernel) rfl
set_option maxRecDepth 100000 in
theorem q_Bu_19 : Cond.classLink "AlikeStore$Budgets" 19 "[[I" ∈ ev_ws := ev_m 196 (by decide +kernel) rfl
set_option maxRecDepth 100000 in
theorem q_X_37 : Cond.classLink "AlikeStore" 37 "AlikeStore$Ranking" ∈ ev_ws := ev_m 216 (by decide +kernel) rfl
set_option maxRecDepth 100000 in
theorem q_Re_148 : Cond.classLink "AlikeStore$Reader" 148 "AlikeStore$Filter" ∈ ev_ws := ev_m 489 (by decide +kernel) rfl
set_option maxRecDepth 100000 in
theorem q_JA_317 : Cond.classLink "java/util/Arrays" 317 "[I" ∈ ev_ws := ev_m 504 (by decide +kernel) rfl
set_option maxRecDepth 100000 in
theorem q_JA_320 : Cond.classLink "java/util/Arrays" 320 "[J" ∈ ev_ws := ev_m 516 (by decide +kernel) rfl
set_option maxRecDepth 100000 in
theorem q_La_10 : Cond.classLink "AlikeStoreLaw" 10 "AlikeStoreModel" ∈ ev_ws := ev_m 953 (by decide +kernel) rfl
set_option maxRecDepth 100000 in
theorem q_Mo_37 : Cond.classLink "AlikeStoreModel" 37 "[[I" ∈ ev_ws := ev_m 959 (by decide +kernel) rfl
set_option maxRecDepth 100000 in
theorem a_int : Cond.arrayClass .int ∈ ev_ws := ev_m 78 (by decide +kernel) rfl
set_option maxRecDepth 100000 in
theorem a_long : Cond.arrayClass .long ∈ ev_ws := ev_m 79 (by decide +kernel) rfl
set_option maxRecDepth 100000 in
theorem a_byte : Cond.arrayClass .byte ∈ ev_ws := ev_m 133 (by decide +kernel) rfl
set_option maxRecDepth 100000 in
theorem w_minS : Cond.static Lib.Math.min.name ∈ ev_ws := ev_m 287 (by decide +kernel) rfl
set_option maxRecDepth 100000 in
theorem w_maxS : Cond.static Lib.Math.max.name ∈ ev_ws := ev_m 327 (by decide +kernel) rfl
set_option maxRecDepth 100000 in
theorem w_absS : Cond.static Lib.Math.abs.name ∈ ev_ws := ev_m 919 (by decide +kernel) rfl
set_option maxRecDepth 100000 in
theorem w_mathI : Cond.initialized "java/lang/Math" ∈ ev_ws := ev_m 10 (by decide +kernel) rfl
set_option maxRecDepth 100000 in
theorem w_sysI : Cond.initialized "java/lang/System" ∈ ev_ws := ev_m 18 (by decide +kernel) rfl
set_option maxRecDepth 100000 in
theorem w_cpS : Cond.static arraycopyName ∈ ev_ws := ev_m 507 (by decide +kernel) rfl
set_option maxRecDepth 100000 in
theorem w_cpN : Cond.native arraycopyName ∈ ev_ws := ev_m 508 (by decide +kernel) rfl
set_option maxRecDepth 100000 in
theorem w_objN : Cond.instanceMethod objectInit ∈ ev_ws := ev_m 27 (by decide +kernel) rfl
set_option maxRecDepth 100000 in
theorem w_minC : Cond.code Lib.Math.min.name Lib.Math.min.code 2 (some .int) ∈ ev_ws := ev_m 288 (by decide +kernel) rfl
set_option maxRecDepth 100000 in
theorem w_maxC : Cond.code Lib.Math.max.name Lib.Math.max.code 2 (some .int) ∈ ev_ws := ev_m 328 (by decide +kernel) rfl
set_option maxRecDepth 100000 in
theorem w_absC : Cond.code Lib.Math.abs.name Lib.Math.abs.code 1 (some .int) ∈ ev_ws := ev_m 920 (by decide +kernel) rfl
set_option maxRecDepth 100000 in
theorem w_objC : Cond.code objectInit ⟨#[0xb1]⟩ 1 none ∈ ev_ws := ev_m 28 (by decide +kernel) rfl
end
section
def bt (x : Int32) (i : Nat) : Bool := x.toBitVec.getLsbD i
theorem b_ext {x y : Int32} (h : ∀ i, i < 32 → bt x i = bt y i) : x = y := Int32.toBitVec_inj.mp (BitVec.eq_of_getLsbD_eq (fun i hi => h i hi))
theorem b_or (x y : Int32) (i : Nat) : bt (x ||| y) i = (bt x i || bt y i) := by unfold bt; rw [Int32.toBitVec_or, BitVec.getLsbD_or]
theorem b_and (x y : Int32) (i : Nat) : bt (x &&& y) i = (bt x i && bt y i) := by unfold bt; rw [Int32.toBitVec_and, BitVec.getLsbD_and]
theorem b_xor (x y : Int32) (i : Nat) : bt (x ^^^ y) i = (bt x i ^^ bt y i) := by unfold bt; rw [Int32.toBitVec_xor, BitVec.getLsbD_xor]
theorem b_big {x : Int32} {i : Nat} (h : 32 ≤ i) : bt x i = false := BitVec.getLsbD_of_ge _ _ h
theorem b_m1 : ∀ i, i < 32 → bt (-1) i = true := by decide +kernel
theorem b_0 (i : Nat) : bt 0 i = false := BitVec.getLsbD_zero
theorem s_l : ∀ n, n < 32 → ((nI n &&& 31).toBitVec.smod 32).toNat = n := by decide +kernel
theorem s_u : ∀ n, n < 32 → (((nI n).toUInt32 &&& Int32.toUInt32 31).toBitVec % 32).toNat = n := by decide +kernel
theorem b_shl (n : Nat) (hn : n < 32) (x : Int32) {i : Nat} (hi : i < 32) : bt (x <<< (nI n &&& 31)) i = (decide (n ≤ i) && bt x (i - n)) := by
  unfold bt
  rw [Int32.toBitVec_shiftLeft]
  show (x.toBitVec <<< ((nI n &&& 31).toBitVec.smod 32).toNat).getLsbD i = _
  rw [s_l n hn, BitVec.getLsbD_shiftLeft]
  rcases Nat.lt_or_ge i n with h | h
  · simp [h, Nat.not_le.mpr h]
  · simp [hi, h, Nat.not_lt.mpr h]
theorem b_ushr (n : Nat) (hn : n < 32) (x : Int32) (i : Nat) : bt ((x.toUInt32 >>> ((nI n).toUInt32 &&& Int32.toUInt32 31)).toInt32) i = bt x (n + i) := by
  show (x.toUInt32 >>> ((nI n).toUInt32 &&& Int32.toUInt32 31)).toBitVec.getLsbD i = x.toUInt32.toBitVec.getLsbD (n + i)
  rw [UInt32.toBitVec_shiftRight]
  show (x.toUInt32.toBitVec >>> (((nI n).toUInt32 &&& Int32.toUInt32 31).toBitVec % 32).toNat).getLsbD i = _
  rw [s_u n hn, BitVec.getLsbD_ushiftRight]
theorem b_sshr (n : Nat) (hn : n < 32) (x : Int32) {i : Nat} (hi : i < 32) : bt (x >>> (nI n &&& 31)) i = if n + i < 32 then bt x (n + i) else bt x 31 := by
  unfold bt
  rw [Int32.toBitVec_shiftRight]
  show (x.toBitVec.sshiftRight ((nI n &&& 31).toBitVec.smod 32).toNat).getLsbD i = _
  rw [s_l n hn, BitVec.getLsbD_sshiftRight, BitVec.msb_eq_getLsbD_last]
  simp [hi]
/-! longs by their bits -/
def lt (x : Int64) (i : Nat) : Bool := x.toBitVec.getLsbD i
theorem l_ext {x y : Int64} (h : ∀ i, i < 64 → lt x i = lt y i) : x = y := Int64.toBitVec_inj.mp (BitVec.eq_of_getLsbD_eq (fun i hi => h i hi))
theorem l_or (x y : Int64) (i : Nat) : lt (x ||| y) i = (lt x i || lt y i) := by unfold lt; rw [Int64.toBitVec_or, BitVec.getLsbD_or]
theorem l_and (x y : Int64) (i : Nat) : lt (x &&& y) i = (lt x i && lt y i) := by unfold lt; rw [Int64.toBitVec_and, BitVec.getLsbD_and]
theorem l_xor (x y : Int64) (i : Nat) : lt (x ^^^ y) i = (lt x i ^^ lt y i) := by unfold lt; rw [Int64.toBitVec_xor, BitVec.getLsbD_xor]
theorem l_big {x : Int64} {i : Nat} (h : 64 ≤ i) : lt x i = false := BitVec.getLsbD_of_ge _ _ h
theorem l_m1 : ∀ i, i < 64 → lt (-1) i = true := by decide +kernel
theorem l_0 (i : Nat) : lt 0 i = false := BitVec.getLsbD_zero
theorem l_sl : ∀ n, n < 64 → (((nI n).toInt64 &&& 63).toBitVec.smod 64).toNat = n := by decide +kernel
theorem l_su : ∀ n, n < 64 → (((nI n).toInt64.toUInt64 &&& Int64.toUInt64 63).toBitVec % 64).toNat = n := by decide +kernel
theorem l_shl (n : Nat) (hn : n < 64) (x : Int64) {i : Nat} (hi : i < 64) : lt (x <<< ((nI n).toInt64 &&& 63)) i = (decide (n ≤ i) && lt x (i - n)) := by
  unfold lt
  rw [Int64.toBitVec_shiftLeft]
  show (x.toBitVec <<< (((nI n).toInt64 &&& 63).toBitVec.smod 64).toNat).getLsbD i = _
  rw [l_sl n hn, BitVec.getLsbD_shiftLeft]
  rcases Nat.lt_or_ge i n with h | h
  · simp [h, Nat.not_le.mpr h]
  · simp [hi, h, Nat.not_lt.mpr h]
theorem l_ushr (n : Nat) (hn : n < 64) (x : Int64) (i : Nat) : lt ((x.toUInt64 >>> ((nI n).toInt64.toUInt64 &&& Int64.toUInt64 63)).toInt64) i = lt x (n + i) := by
  show (x.toUInt64 >>> ((nI n).toInt64.toUInt64 &&& Int64.toUInt64 63)).toBitVec.getLsbD i = x.toUInt64.toBitVec.getLsbD (n + i)
  rw [UInt64.toBitVec_shiftRight]
  show (x.toUInt64.toBitVec >>> (((nI n).toInt64.toUInt64 &&& Int64.toUInt64 63).toBitVec % 64).toNat).getLsbD i = _
  rw [l_su n hn, BitVec.getLsbD_ushiftRight]
theorem l_sshr (n : Nat) (hn : n < 64) (x : Int64) {i : Nat} (hi : i < 64) : lt (x >>> ((nI n).toInt64 &&& 63)) i = if n + i < 64 then lt x (n + i) else lt x 63 := by
  unfold lt
  rw [Int64.toBitVec_shiftRight]
  show (x.toBitVec.sshiftRight (((nI n).toInt64 &&& 63).toBitVec.smod 64).toNat).getLsbD i = _
  rw [l_sl n hn, BitVec.getLsbD_sshiftRight, BitVec.msb_eq_getLsbD_last]
  simp [hi]
theorem bit1I (j : Nat) (hj : j < 32) : bt 1 j = decide (j = 0) := (by decide +kernel : ∀ j, j < 32 → bt 1 j = decide (j = 0)) j hj
theorem bit1L (j : Nat) (hj : j < 64) : lt 1 j = decide (j = 0) := (by decide +kernel : ∀ j, j < 64 → lt 1 j = decide (j = 0)) j hj
/-! how many of the first hold -/
def cnt (p : Nat → Bool) : Nat → Nat
  | 0 => 0
  | n + 1 => cnt p n + if p n then 1 else 0
theorem cnt_le (p : Nat → Bool) : ∀ n, cnt p n ≤ n
  | 0 => Nat.le_refl _
  | n + 1 => by have := cnt_le p n; unfold cnt; split <;> omega
theorem cnt_congr {p q : Nat → Bool} : ∀ {n : Nat}, (∀ k, k < n → p k = q k) → cnt p n = cnt q n
  | 0, _ => rfl
  | n + 1, h => by unfold cnt; rw [cnt_congr (fun k hk => h k (Nat.lt_succ_of_lt hk)), h n (Nat.lt_succ_self n)]
theorem cnt_split (p : Nat → Bool) (m : Nat) : ∀ n, cnt p (m + n) = cnt p m + cnt (fun j => p (m + j)) n
  | 0 => rfl
  | n + 1 => by
    show cnt p (m + n) + (if p (m + n) then 1 else 0) = cnt p m + (cnt (fun j => p (m + j)) n + (if p (m + n) then 1 else 0))
    rw [cnt_split p m n, Nat.add_assoc]
theorem cnt_zero {p : Nat → Bool} : ∀ {n : Nat}, (∀ k, k < n → p k = false) → cnt p n = 0
  | 0, _ => rfl
  | n + 1, h => by unfold cnt; rw [cnt_zero (fun k hk => h k (Nat.lt_succ_of_lt hk)), h n (Nat.lt_succ_self n)]; rfl
theorem cnt_mono {p q : Nat → Bool} : ∀ {n : Nat}, (∀ k, k < n → p k = true → q k = true) → cnt p n ≤ cnt q n
  | 0, _ => Nat.le_refl _
  | n + 1, h => by
    have := cnt_mono (fun k hk => h k (Nat.lt_succ_of_lt hk))
    have h2 := h n (Nat.lt_succ_self n)
    unfold cnt
    by_cases hp : p n = true
    · rw [if_pos hp, if_pos (h2 hp)]; omega
    · rw [if_neg hp]; split <;> omega
def pop (x : Int64) : Nat := cnt (lt x) 64
def pop32 (x : Int32) : Nat := cnt (bt x) 32
theorem pop_le (x : Int64) : pop x ≤ 64 := cnt_le _ _
theorem pop32_le (x : Int32) : pop32 x ≤ 32 := cnt_le _ _
/-! a number whose bits are those that hold -/
def setN (p : Nat → Bool) : Nat → Nat
  | 0 => 0
  | n + 1 => setN p n + if p n then 2 ^ n else 0
theorem setN_lt (p : Nat → Bool) : ∀ n, setN p n < 2 ^ n
  | 0 => Nat.one_pos
  | n + 1 => by have := setN_lt p n; unfold setN; rw [Nat.pow_succ]; split <;> omega
theorem setN_bit (p : Nat → Bool) : ∀ (n j : Nat), (setN p n).testBit j = (decide (j < n) && p j)
  | 0, j => by simp [setN]
  | n + 1, j => by
    have h1 := setN_lt p n
    have ih := setN_bit p n
    unfold setN
    by_cases hp : p n = true
    · rw [if_pos hp, Nat.add_comm, show 2 ^ n + setN p n = 2 ^ n * 1 + setN p n by omega, Nat.testBit_two_pow_mul_add _ h1]
      by_cases hj : j < n
      · rw [if_pos hj, ih]; simp [hj, Nat.lt_succ_of_lt hj]
      · rw [if_neg hj]
        by_cases e : j = n
        · subst e; simp [hp]
        · have : 0 < j - n := by omega
          rw [show Nat.testBit 1 (j - n) = false by rw [Nat.testBit_eq_decide_div_mod_eq]; have : 2 ^ (j - n) > 1 := Nat.one_lt_two_pow (by omega); rw [Nat.div_eq_of_lt this]; rfl]
          rw [decide_eq_false (by omega), Bool.false_and]
    · rw [if_neg hp, Nat.add_zero, ih]
      by_cases hj : j < n
      · simp [hj, Nat.lt_succ_of_lt hj]
      · by_cases e : j = n
        · subst e; simp [hp]
        · rw [decide_eq_false hj, decide_eq_false (by omega)]
def setI (p : Nat → Bool) : Int32 := nI (setN p 32)
def setL (p : Nat → Bool) : Int64 := lN (setN p 32)
theorem bt_nI (n j : Nat) (h : n < 2 ^ 32) : bt (nI n) j = n.testBit j := by
  show (BitVec.ofNat 32 n).getLsbD j = _
  rw [BitVec.getLsbD_ofNat]
  by_cases hj : j < 32
  · simp [hj]
  · rw [Nat.testBit_lt_two_pow (Nat.lt_of_lt_of_le h (Nat.pow_le_pow_right (by decide) (by omega)))]; simp [hj]
theorem lt_lN (n j : Nat) (h : n < 2 ^ 64) : lt (lN n) j = n.testBit j := by
  show (BitVec.ofNat 64 n).getLsbD j = _
  rw [BitVec.getLsbD_ofNat]
  by_cases hj : j < 64
  · simp [hj]
  · rw [Nat.testBit_lt_two_pow (Nat.lt_of_lt_of_le h (Nat.pow_le_pow_right (by decide) (by omega)))]; simp [hj]
theorem bt_setI (p : Nat → Bool) (j : Nat) : bt (setI p) j = (decide (j < 32) && p j) := by rw [setI, bt_nI _ _ (setN_lt p 32), setN_bit]
theorem lt_setL (p : Nat → Bool) (j : Nat) : lt (setL p) j = (decide (j < 32) && p j) := by rw [setL, lt_lN _ _ (Nat.lt_of_lt_of_le (setN_lt p 32) (by decide)), setN_bit]
theorem setI_of (x : Int32) : x = setI (bt x) := b_ext fun i hi => by rw [bt_setI, decide_eq_true hi, Bool.true_and]
theorem setI_congr {p q : Nat → Bool} (h : ∀ j, j < 32 → p j = q j) : setI p = setI q := b_ext fun i hi => by rw [bt_setI, bt_setI, h i hi]
theorem setL_congr {p q : Nat → Bool} (h : ∀ j, j < 32 → p j = q j) : setL p = setL q := l_ext fun i _ => by
  rw [lt_setL, lt_setL]
  by_cases hi : i < 32
  · rw [h i hi]
  · rw [decide_eq_false hi, Bool.false_and, Bool.false_and]
theorem setI_and (p q : Nat → Bool) : setI p &&& setI q = setI (fun j => p j && q j) := b_ext fun i hi => by rw [b_and, bt_setI, bt_setI, bt_setI]; simp [hi]
theorem setI_or (p q : Nat → Bool) : setI p ||| setI q = setI (fun j => p j || q j) := b_ext fun i hi => by rw [b_or, bt_setI, bt_setI, bt_setI]; simp [hi]
theorem setI_not (p : Nat → Bool) : setI p ^^^ (-1) = setI (fun j => !p j) := b_ext fun i hi => by rw [b_xor, bt_setI, bt_setI, b_m1 i hi]; simp [hi]
theorem setL_or (p q : Nat → Bool) : setL p ||| setL q = setL (fun j => p j || q j) := l_ext fun i hi => by
  rw [l_or, lt_setL, lt_setL, lt_setL]
  by_cases h : i < 32 <;> simp [h]
theorem setI_one {k : Nat} (hk : k < 32) : (1 : Int32) <<< (nI k &&& 31) = setI (fun j => decide (j = k)) := b_ext fun i hi => by
  rw [b_shl k hk _ hi, bt_setI, decide_eq_true hi, Bool.true_and]
  by_cases e : i = k
  · subst e; simp; decide
  · by_cases h : k ≤ i
    · simp [e, h]
      exact (bit1I (i - k) (by omega)).trans (decide_eq_false (by omega))
    · simp [e, h]
theorem setL_one {k : Nat} (hk : k < 32) : (1 : Int64) <<< ((nI k).toInt64 &&& 63) = setL (fun j => decide (j = k)) := l_ext fun i hi => by
  rw [l_shl k (by omega) _ hi, lt_setL]
  by_cases e : i = k
  · subst e; simp [hk]; decide
  · by_cases h : k ≤ i
    · simp [e, h]
      exact (bit1L (i - k) (by omega)).trans (decide_eq_false (by omega))
    · simp [e, h]
theorem setI_0 : (0 : Int32) = setI (fun _ => false) := by decide +kernel
theorem setL_0 : (0 : Int64) = setL (fun _ => false) := by decide +kernel
theorem pop32_setI (p : Nat → Bool) : pop32 (setI p) = cnt p 32 := cnt_congr fun k hk => by rw [bt_setI, decide_eq_true hk, Bool.true_and]
theorem pop_setL (p : Nat → Bool) : pop (setL p) = cnt p 32 := by
  show cnt _ (32 + 32) = _
  rw [cnt_split, cnt_zero (p := fun j => lt (setL p) (32 + j)) (fun k _ => by rw [lt_setL, decide_eq_false (by omega), Bool.false_and])]
  exact cnt_congr fun k hk => by rw [lt_setL, decide_eq_true hk, Bool.true_and]
theorem setL_i (p : Nat → Bool) : (setL p).toInt32 = setI p := lN_i _
/-! one bit -/
def inI (s i : Int32) : Bool := bt s (i.toBitVec.toNat % 32)
def tbL (x : Int64) (i : Int32) : Bool := lt x (i.toBitVec.toNat % 64)
theorem nI_bv {n : Nat} (h : n < 2 ^ 32) : (nI n).toBitVec.toNat = n := Nat.mod_eq_of_lt h
theorem inI_n {s : Int32} {j : Nat} (h : j < 32) : inI s (nI j) = bt s j := by unfold inI; rw [nI_bv (by omega), Nat.mod_eq_of_lt h]
theorem tbL_n {x : Int64} {j : Nat} (h : j < 64) : tbL x (nI j) = lt x j := by unfold tbL; rw [nI_bv (by omega), Nat.mod_eq_of_lt h]
theorem sh_u (i : Int32) : ((i.toUInt32 &&& Int32.toUInt32 31).toBitVec % 32).toNat = i.toBitVec.toNat % 32 := by
  show ((i.toBitVec &&& 31#32) % 32#32).toNat = _
  rw [BitVec.toNat_umod, BitVec.toNat_and]
  show (i.toBitVec.toNat &&& 31) % 32 = _
  rw [show (31 : Nat) = 2 ^ 5 - 1 from rfl, Nat.and_two_pow_sub_one_eq_mod]
  omega
theorem isIn_eq (s i : Int32) : ((s.toUInt32 >>> (i.toUInt32 &&& Int32.toUInt32 31)).toInt32 &&& 1) = b2i (inI s i) := by
  apply b_ext
  intro j hj
  rw [b_and]
  have h1 : bt ((s.toUInt32 >>> (i.toUInt32 &&& Int32.toUInt32 31)).toInt32) j = bt s (i.toBitVec.toNat % 32 + j) := by
    show (s.toUInt32 >>> (i.toUInt32 &&& Int32.toUInt32 31)).toBitVec.getLsbD j = s.toUInt32.toBitVec.getLsbD _
    rw [UInt32.toBitVec_shiftRight]
    show (s.toUInt32.toBitVec >>> ((i.toUInt32 &&& Int32.toUInt32 31).toBitVec % 32).toNat).getLsbD j = _
    rw [sh_u, BitVec.getLsbD_ushiftRight]
  rw [h1]
  have h2 : bt 1 j = decide (j = 0) := (by decide +kernel : ∀ j, j < 32 → bt 1 j = decide (j = 0)) j hj
  rw [h2]
  by_cases e : j = 0
  · subst e
    simp only [Nat.add_zero, decide_true, Bool.and_true]
    show _ = bt (b2i (inI s i)) 0
    unfold inI
    generalize bt s (i.toBitVec.toNat % 32) = b
    cases b <;> decide
  · simp only [e, decide_false, Bool.and_false]
    cases inI s i
    · exact (b_0 j).symm
    · show false = bt 1 j
      rw [h2, decide_eq_false e]
theorem sh_v (i : Int32) : ((i.toInt64.toUInt64 &&& Int64.toUInt64 63).toBitVec % 64).toNat = i.toBitVec.toNat % 64 := by
  show ((i.toInt64.toBitVec &&& 63#64) % 64#64).toNat = _
  rw [BitVec.toNat_umod, BitVec.toNat_and]
  show (i.toInt64.toBitVec.toNat &&& 63) % 64 = _
  rw [show (63 : Nat) = 2 ^ 6 - 1 from rfl, Nat.and_two_pow_sub_one_eq_mod]
  have : i.toInt64.toBitVec = i.toBitVec.signExtend 64 := rfl
  rw [this, BitVec.toNat_signExtend, BitVec.toNat_setWidth]
  have := i.toBitVec.isLt
  split <;> omega
theorem b2l_lt (b : Bool) (j : Nat) (hj : j < 64) : lt (b2i b).toInt64 j = (b && decide (j = 0)) := by
  cases b
  · rw [show (b2i false).toInt64 = 0 from by decide, l_0]; rfl
  · rw [show (b2i true).toInt64 = 1 from by decide, Bool.true_and]
    exact (by decide +kernel : ∀ j, j < 64 → lt 1 j = decide (j = 0)) j hj
theorem bitOf_eqL (x : Int64) (i : Int32) : ((x.toUInt64 >>> (i.toInt64.toUInt64 &&& Int64.toUInt64 63)).toInt64 &&& 1) = (b2i (tbL x i)).toInt64 := by
  apply l_ext
  intro j hj
  rw [l_and, b2l_lt _ _ hj, bit1L j hj]
  have h1 : lt ((x.toUInt64 >>> (i.toInt64.toUInt64 &&& Int64.toUInt64 63)).toInt64) j = lt x (i.toBitVec.toNat % 64 + j) := by
    show (x.toUInt64 >>> (i.toInt64.toUInt64 &&& Int64.toUInt64 63)).toBitVec.getLsbD j = x.toUInt64.toBitVec.getLsbD _
    rw [UInt64.toBitVec_shiftRight]
    show (x.toUInt64.toBitVec >>> ((i.toInt64.toUInt64 &&& Int64.toUInt64 63).toBitVec % 64).toNat).getLsbD j = _
    rw [sh_v, BitVec.getLsbD_ushiftRight]
  rw [h1]
  by_cases e : j = 0
  · subst e; rfl
  · simp [e]
theorem b2l_i (b : Bool) : (b2i b).toInt64.toInt32 = b2i b := by cases b <;> decide
theorem bitOf_eq (x : Int64) (i : Int32) : ((x.toUInt64 >>> (i.toInt64.toUInt64 &&& Int64.toUInt64 63)).toInt64 &&& 1).toInt32 = b2i (tbL x i) := by rw [bitOf_eqL, b2l_i]
theorem sh_w (i : Int32) : ((i.toInt64 &&& 63).toBitVec.smod 64).toNat = i.toBitVec.toNat % 64 := by
  have e : (i.toInt64 &&& 63).toBitVec = BitVec.ofNat 64 (i.toBitVec.toNat % 64) := by
    apply BitVec.eq_of_toNat_eq
    have hr : (BitVec.ofNat 64 (i.toBitVec.toNat % 64)).toNat = i.toBitVec.toNat % 64 := by rw [BitVec.toNat_ofNat]; omega
    rw [hr]
    show (i.toInt64.toBitVec &&& 63#64).toNat = _
    rw [BitVec.toNat_and]
    show i.toInt64.toBitVec.toNat &&& 63 = _
    rw [show (63 : Nat) = 2 ^ 6 - 1 from rfl, Nat.and_two_pow_sub_one_eq_mod]
    have : i.toInt64.toBitVec = i.toBitVec.signExtend 64 := rfl
    rw [this, BitVec.toNat_signExtend, BitVec.toNat_setWidth]
    have := i.toBitVec.isLt
    split <;> omega
  rw [e]
  exact (by decide +kernel : ∀ n, n < 64 → ((BitVec.ofNat 64 n).smod 64).toNat = n) _ (Nat.mod_lt _ (by decide))
/-- the model's: >> and & 1 -/
theorem has_eqL (x : Int64) (i : Int32) : (x >>> (i.toInt64 &&& 63) &&& 1) = (b2i (tbL x i)).toInt64 := by
  apply l_ext
  intro j hj
  rw [l_and, b2l_lt _ _ hj, bit1L j hj]
  by_cases e : j = 0
  · subst e
    simp only [decide_true, Bool.and_true]
    unfold lt tbL
    rw [Int64.toBitVec_shiftRight]
    show (x.toBitVec.sshiftRight ((i.toInt64 &&& 63).toBitVec.smod 64).toNat).getLsbD 0 = lt x _
    rw [sh_w, BitVec.getLsbD_sshiftRight]
    have := Nat.mod_lt i.toBitVec.toNat (show 0 < 64 by decide)
    simp [this]
    rfl
  · simp [e]
end
section
/-! counting bits: the JDK's way, and the other way -/
theorem bit_byte {s Y d M m : Nat} (hd : d < 256) (hs : s ≤ 8) (hm : m < 2 ^ (8 - s)) : ((256 * Y + d) / 2 ^ s) &&& (256 * M + m) = 256 * ((Y / 2 ^ s) &&& M) + ((d / 2 ^ s) &&& m) := by
  have hm8 : m < 2 ^ 8 := Nat.lt_of_lt_of_le hm (Nat.pow_le_pow_right (by decide) (by omega))
  have hx : ((d / 2 ^ s) &&& m) < 2 ^ 8 := Nat.lt_of_le_of_lt Nat.and_le_right hm8
  apply Nat.eq_of_testBit_eq
  intro j
  rw [Nat.testBit_and, ← Nat.shiftRight_eq_div_pow, Nat.testBit_shiftRight, show (256 : Nat) = 2 ^ 8 from rfl, Nat.testBit_two_pow_mul_add _ hm8, Nat.testBit_two_pow_mul_add _ (show d < 2 ^ 8 from hd), Nat.testBit_two_pow_mul_add _ hx]
  by_cases hj : j < 8
  · rw [if_pos hj, if_pos hj, Nat.testBit_and, ← Nat.shiftRight_eq_div_pow, Nat.testBit_shiftRight]
    by_cases h2 : s + j < 8
    · rw [if_pos h2]
    · have : m.testBit j = false := Nat.testBit_lt_two_pow (Nat.lt_of_lt_of_le hm (Nat.pow_le_pow_right (by decide) (by omega)))
      rw [this, Bool.and_false, Bool.and_false]
  · rw [if_neg hj, if_neg hj, if_neg (by omega), Nat.testBit_and, ← Nat.shiftRight_eq_div_pow, Nat.testBit_shiftRight, show s + (j - 8) = s + j - 8 by omega]
def by8 (f : Nat → Nat) : Nat → Nat → Nat
  | 0, _ => 0
  | k + 1, n => 256 * by8 f k (n / 256) + f (n % 256)
def rep8 (m : Nat) : Nat → Nat
  | 0 => 0
  | k + 1 => 256 * rep8 m k + m
theorem by8_and {g : Nat → Nat} (s m : Nat) (hg : ∀ d, d < 256 → g d < 256) (hs : s ≤ 8) (hm : m < 2 ^ (8 - s)) : ∀ k n, (by8 g k n / 2 ^ s) &&& rep8 m k = by8 (fun d => (g d / 2 ^ s) &&& m) k n
  | 0, n => by simp [by8, rep8]
  | k + 1, n => by
    show ((256 * by8 g k (n / 256) + g (n % 256)) / 2 ^ s) &&& (256 * rep8 m k + m) = _
    rw [bit_byte (hg _ (Nat.mod_lt _ (by decide))) hs hm, by8_and s m hg hs hm k]
    rfl
theorem by8_id : ∀ k n, n < 256 ^ k → by8 (fun d => d) k n = n
  | 0, n, h => by have : n = 0 := by simpa using h
                  subst this; rfl
  | k + 1, n, h => by
    show 256 * by8 (fun d => d) k (n / 256) + n % 256 = n
    rw [by8_id k (n / 256) (Nat.div_lt_of_lt_mul (by rw [Nat.pow_succ] at h; omega))]
    omega
theorem by8_add (f g : Nat → Nat) : ∀ k n, by8 f k n + by8 g k n = by8 (fun d => f d + g d) k n
  | 0, n => rfl
  | k + 1, n => by
    show 256 * by8 f k (n / 256) + f (n % 256) + (256 * by8 g k (n / 256) + g (n % 256)) = 256 * by8 _ k (n / 256) + (f (n % 256) + g (n % 256))
    rw [← by8_add f g k]; omega
theorem by8_sub {f g : Nat → Nat} (h : ∀ d, d < 256 → g d ≤ f d) : ∀ k n, by8 g k n ≤ by8 f k n ∧ by8 f k n - by8 g k n = by8 (fun d => f d - g d) k n
  | 0, n => ⟨Nat.le_refl _, rfl⟩
  | k + 1, n => by
    obtain ⟨h1, h2⟩ := by8_sub h k (n / 256)
    have h3 := h (n % 256) (Nat.mod_lt _ (by decide))
    show 256 * by8 g k (n / 256) + g (n % 256) ≤ 256 * by8 f k (n / 256) + f (n % 256) ∧ 256 * by8 f k (n / 256) + f (n % 256) - (256 * by8 g k (n / 256) + g (n % 256)) = 256 * by8 _ k (n / 256) + (f (n % 256) - g (n % 256))
    rw [← h2]
    omega
theorem by8_cong {f g : Nat → Nat} (h : ∀ d, d < 256 → f d = g d) : ∀ k n, by8 f k n = by8 g k n
  | 0, n => rfl
  | k + 1, n => by
    show 256 * by8 f k (n / 256) + f (n % 256) = 256 * by8 g k (n / 256) + g (n % 256)
    rw [by8_cong h k, h _ (Nat.mod_lt _ (by decide))]
theorem by8_mod {g : Nat → Nat} (h : ∀ d, d < 256 → g d % 16 ≤ 4 ∧ g d < 256) : ∀ k n, by8 g k n % 16 ≤ 4
  | 0, n => by show 0 % 16 ≤ 4; decide
  | k + 1, n => by
    have := (h (n % 256) (Nat.mod_lt _ (by decide))).1
    show (256 * by8 g k (n / 256) + g (n % 256)) % 16 ≤ 4
    omega
theorem by8_nib {g : Nat → Nat} (h : ∀ d, d < 256 → g d % 16 ≤ 4 ∧ g d / 16 ≤ 4) : ∀ k n, (by8 g k n + by8 g k n / 16) &&& rep8 15 k = by8 (fun d => (g d + g d / 16) % 16) k n
  | 0, n => by simp [by8, rep8]
  | k + 1, n => by
    have h1 := h (n % 256) (Nat.mod_lt _ (by decide))
    have h2 := by8_mod (g := g) (fun d hd => ⟨(h d hd).1, by have := h d hd; omega⟩) k (n / 256)
    have ih := by8_nib h k (n / 256)
    show (256 * by8 g k (n / 256) + g (n % 256) + (256 * by8 g k (n / 256) + g (n % 256)) / 16) &&& (256 * rep8 15 k + 15) = 256 * by8 _ k (n / 256) + (g (n % 256) + g (n % 256) / 16) % 16
    generalize by8 g k (n / 256) = Y at h2 ih ⊢
    generalize g (n % 256) = b at h1 ⊢
    have e : 256 * Y + b + (256 * Y + b) / 16 = (256 * (Y + Y / 16) + (b + b / 16 + 16 * (Y % 16))) / 2 ^ 0 := by simp; omega
    rw [e, bit_byte (by omega) (by decide) (by decide), Nat.pow_zero, Nat.div_one, Nat.div_one, ih, show (15 : Nat) = 2 ^ 4 - 1 from rfl, Nat.and_two_pow_sub_one_eq_mod]
    omega
def sw1 (n M : Nat) : Nat := n - ((n / 2) &&& M)
def sw2 (n M : Nat) : Nat := (n &&& M) + ((n / 4) &&& M)
def sw3 (n M : Nat) : Nat := (n + n / 16) &&& M
def swF (d : Nat) : Nat := (sw2 (sw1 d 85) 51 + sw2 (sw1 d 85) 51 / 16) % 16
theorem swF_ok : ∀ d, d < 256 → swF d = cnt d.testBit 8 := by decide +kernel
theorem sw_by (k n : Nat) (h : n < 256 ^ k) : sw3 (sw2 (sw1 n (rep8 85 k)) (rep8 51 k)) (rep8 15 k) = by8 swF k n := by
  have e1 : sw1 n (rep8 85 k) = by8 (fun d => sw1 d 85) k n := by
    have a1 := by8_and (g := fun d => d) 1 85 (fun d hd => hd) (by decide) (by decide) k n
    rw [by8_id k n h] at a1
    have a2 := (by8_sub (f := fun d => d) (g := fun d => (d / 2 ^ 1) &&& 85) (fun d _ => Nat.le_trans Nat.and_le_left (Nat.div_le_self _ _)) k n).2
    rw [by8_id k n h, ← a1] at a2
    exact a2
  have q1 : ∀ d, d < 256 → sw1 d 85 < 256 := by decide +kernel
  have e2 : sw2 (sw1 n (rep8 85 k)) (rep8 51 k) = by8 (fun d => sw2 (sw1 d 85) 51) k n := by
    rw [e1]
    have a1 := by8_and (g := fun d => sw1 d 85) 0 51 q1 (by decide) (by decide) k n
    have a2 := by8_and (g := fun d => sw1 d 85) 2 51 q1 (by decide) (by decide) k n
    rw [Nat.pow_zero, Nat.div_one] at a1
    unfold sw2
    rw [a1, show (4 : Nat) = 2 ^ 2 from rfl, a2, by8_add]
    exact by8_cong (fun d _ => by rw [Nat.div_one]) k n
  rw [e2]
  exact by8_nib (g := fun d => sw2 (sw1 d 85) 51) (by decide +kernel) k n
theorem cnt_by8 : ∀ k n, cnt n.testBit (8 * k) = match k with
    | 0 => 0
    | k + 1 => cnt (n % 256).testBit 8 + cnt (n / 256).testBit (8 * k)
  | 0, n => rfl
  | k + 1, n => by
    show cnt n.testBit (8 * k + 8) = _
    rw [Nat.add_comm, cnt_split]
    refine congr (congrArg _ (cnt_congr fun j hj => ?_)) (cnt_congr fun j _ => ?_)
    · rw [show (256 : Nat) = 2 ^ 8 from rfl, Nat.testBit_mod_two_pow]; simp [hj]
    · rw [show (256 : Nat) = 2 ^ 8 from rfl, ← Nat.shiftRight_eq_div_pow, Nat.testBit_shiftRight]
theorem swF_le {d : Nat} : swF d < 16 := Nat.mod_lt _ (by decide)
theorem sw_i0 (A3 p0 p1 p2 : Nat) : 256 * (256 * (256 * A3 + p2) + p1) + p0 + (256 * (256 * A3 + p2) + p1) = 65536 * (256 * A3 + p2 + A3) + (256 * (p1 + p2) + (p0 + p1)) := by omega
theorem sw_i1 (A6 p2 p3 p4 p5 : Nat) : 256 * (256 * (256 * (256 * A6 + p5) + p4) + p3) + p2 + (256 * (256 * (256 * A6 + p5) + p4) + p3) = 65536 * (256 * (256 * A6 + p5) + p4 + (256 * A6 + p5)) + (256 * (p3 + p4) + (p2 + p3)) := by omega
theorem sw_i2 (X Y A6 p7 p0 p1 p2 p3 p4 p5 : Nat) (hX : X = 65536 * (256 * (256 * A6 + p5) + p4 + (256 * A6 + p5)) + (256 * (p3 + p4) + (p2 + p3))) (h6 : A6 = 256 * p7 + Y) : 65536 * X + (256 * (p1 + p2) + (p0 + p1)) + X = 4294967296 * (256 * (256 * A6 + p5) + p4 + (256 * A6 + p5) + A6 + p7) + (16777216 * (p3 + p4 + p5 + Y) + (65536 * (p2 + p3 + p4 + p5) + (256 * (p1 + p2 + p3 + p4) + (p0 + p1 + p2 + p3)))) := by
  subst hX; subst h6; omega
theorem sw_i3 (A6 p7 p0 p1 p2 p3 p4 p5 p6 : Nat) (h6 : A6 = 256 * p7 + p6) : 4294967296 * (256 * (256 * A6 + p5) + p4 + (256 * A6 + p5) + A6 + p7) + (16777216 * (p3 + p4 + p5 + p6) + (65536 * (p2 + p3 + p4 + p5) + (256 * (p1 + p2 + p3 + p4) + (p0 + p1 + p2 + p3)))) + (256 * (256 * A6 + p5) + p4 + (256 * A6 + p5) + A6 + p7) = 128 * (33554432 * (256 * (256 * A6 + p5) + p4 + (256 * A6 + p5) + A6 + p7) + (131072 * (p3 + p4 + p5 + p6) + (512 * (p2 + p3 + p4 + p5) + 2 * (p1 + p2 + p3 + p4))) + (2 * (256 * A6 + p5) + 2 * A6 + 2 * p7)) + (p0 + p1 + p2 + p3 + p4 + p5 + p6 + p7) := by
  subst h6; omega
theorem dv_lt {M Y lo : Nat} (hM : 0 < M) (h : lo < M) : (M * Y + lo) / M = Y := by rw [Nat.mul_add_div hM, Nat.div_eq_of_lt h, Nat.add_zero]
theorem sw_sum8 (p0 p1 p2 p3 p4 p5 p6 p7 A6 : Nat) (b0 : p0 ≤ 8) (b1 : p1 ≤ 8) (b2 : p2 ≤ 8) (b3 : p3 ≤ 8) (b4 : p4 ≤ 8) (b5 : p5 ≤ 8) (b6 : p6 ≤ 8) (b7 : p7 ≤ 8) (h6 : A6 = 256 * p7 + p6) (a A1 X : Nat) (ea : a = 256 * A1 + p0) (e1 : A1 = 256 * (256 * (256 * (256 * (256 * A6 + p5) + p4) + p3) + p2) + p1) (eX : X = 65536 * (256 * (256 * A6 + p5) + p4 + (256 * A6 + p5)) + (256 * (p3 + p4) + (p2 + p3))) :
    (a + a / 256 + (a + a / 256) / 65536 + (a + a / 256 + (a + a / 256) / 65536) / 4294967296) % 128 = p0 + p1 + p2 + p3 + p4 + p5 + p6 + p7 := by
  have r0 : p0 < 256 := by clear e1 eX h6 ea; omega
  have r1 : 256 * (p1 + p2) + (p0 + p1) < 65536 := by clear e1 eX h6 ea; omega
  have r2 : 16777216 * (p3 + p4 + p5 + p6) + (65536 * (p2 + p3 + p4 + p5) + (256 * (p1 + p2 + p3 + p4) + (p0 + p1 + p2 + p3))) < 4294967296 := by clear e1 eX h6 ea; omega
  have r3 : p0 + p1 + p2 + p3 + p4 + p5 + p6 + p7 < 128 := by clear e1 eX h6 ea; omega
  have h1 : a / 256 = A1 := by rw [ea]; exact dv_lt (by decide) r0
  have h2 : a + A1 = 65536 * X + (256 * (p1 + p2) + (p0 + p1)) := by
    rw [ea, e1, sw_i0, sw_i1, ← eX]
  have h3 : (a + A1) / 65536 = X := by rw [h2]; exact dv_lt (by decide) r1
  rw [h1, h3, h2, sw_i2 X p6 A6 p7 p0 p1 p2 p3 p4 p5 eX h6, dv_lt (by decide) r2, sw_i3 A6 p7 p0 p1 p2 p3 p4 p5 p6 h6, Nat.mul_add_mod]
  exact Nat.mod_eq_of_lt r3
theorem swar64 {n : Nat} (h : n < 2 ^ 64) : (let a := sw3 (sw2 (sw1 n 6148914691236517205) 3689348814741910323) 1085102592571150095
    let b := a + a / 256
    let c := b + b / 65536
    (c + c / 4294967296) % 128) = cnt n.testBit 64 := by
  have e := sw_by 8 n h
  rw [show rep8 85 8 = 6148914691236517205 from rfl, show rep8 51 8 = 3689348814741910323 from rfl, show rep8 15 8 = 1085102592571150095 from rfl] at e
  rw [e]
  show _ = cnt n.testBit (8 * 8)
  simp only [cnt_by8, by8]
  have b : ∀ m : Nat, swF (m % 256) = cnt (m % 256).testBit 8 := fun m => swF_ok _ (Nat.mod_lt _ (by decide))
  have q : ∀ m : Nat, cnt (m % 256).testBit 8 ≤ 8 := fun m => cnt_le _ _
  simp only [b]
  have q0 := q (n)
  have q1 := q (n / 256)
  have q2 := q (n / 256 / 256)
  have q3 := q (n / 256 / 256 / 256)
  have q4 := q (n / 256 / 256 / 256 / 256)
  have q5 := q (n / 256 / 256 / 256 / 256 / 256)
  have q6 := q (n / 256 / 256 / 256 / 256 / 256 / 256)
  have q7 := q (n / 256 / 256 / 256 / 256 / 256 / 256 / 256)
  generalize cnt (n % 256).testBit 8 = p0 at q0 ⊢
  generalize cnt (n / 256 % 256).testBit 8 = p1 at q1 ⊢
  generalize cnt (n / 256 / 256 % 256).testBit 8 = p2 at q2 ⊢
  generalize cnt (n / 256 / 256 / 256 % 256).testBit 8 = p3 at q3 ⊢
  generalize cnt (n / 256 / 256 / 256 / 256 % 256).testBit 8 = p4 at q4 ⊢
  generalize cnt (n / 256 / 256 / 256 / 256 / 256 % 256).testBit 8 = p5 at q5 ⊢
  generalize cnt (n / 256 / 256 / 256 / 256 / 256 / 256 % 256).testBit 8 = p6 at q6 ⊢
  generalize cnt (n / 256 / 256 / 256 / 256 / 256 / 256 / 256 % 256).testBit 8 = p7 at q7 ⊢
  clear b q e h
  have e6 : 256 * (256 * 0 + p7) + p6 = 256 * p7 + p6 := by omega
  rw [e6]
  refine (sw_sum8 p0 p1 p2 p3 p4 p5 p6 p7 _ q0 q1 q2 q3 q4 q5 q6 q7 rfl _ _ _ rfl rfl rfl).trans ?_
  omega
theorem sw_sum4 (p0 p1 p2 p3 : Nat) (b0 : p0 ≤ 8) (b1 : p1 ≤ 8) (b2 : p2 ≤ 8) (b3 : p3 ≤ 8) (a A1 : Nat) (ea : a = 256 * A1 + p0) (e1 : A1 = 256 * (256 * p3 + p2) + p1) :
    (a + a / 256 + (a + a / 256) / 65536) % 64 = p0 + p1 + p2 + p3 := by
  have r0 : p0 < 256 := by clear e1 ea; omega
  have r1 : 256 * (p1 + p2) + (p0 + p1) < 65536 := by clear e1 ea; omega
  have r3 : p0 + p1 + p2 + p3 < 64 := by clear e1 ea; omega
  have h1 : a / 256 = A1 := by rw [ea]; exact dv_lt (by decide) r0
  have h2 : a + A1 = 65536 * (256 * p3 + p2 + p3) + (256 * (p1 + p2) + (p0 + p1)) := by
    rw [ea, e1, sw_i0]
  have h3 : (a + A1) / 65536 = 256 * p3 + p2 + p3 := by rw [h2]; exact dv_lt (by decide) r1
  have h4 : 65536 * (256 * p3 + p2 + p3) + (256 * (p1 + p2) + (p0 + p1)) + (256 * p3 + p2 + p3) = 64 * (1024 * (256 * p3 + p2 + p3) + 4 * (p1 + p2) + 4 * p3) + (p0 + p1 + p2 + p3) := by clear h3 h2 h1 e1 ea r0 r1 r3; omega
  rw [h1, h3, h2, h4, Nat.mul_add_mod]
  exact Nat.mod_eq_of_lt r3
theorem swar32 {n : Nat} (h : n < 2 ^ 32) : (let a := sw3 (sw2 (sw1 n 1431655765) 858993459) 252645135
    let b := a + a / 256
    (b + b / 65536) % 64) = cnt n.testBit 32 := by
  have e := sw_by 4 n h
  rw [show rep8 85 4 = 1431655765 from rfl, show rep8 51 4 = 858993459 from rfl, show rep8 15 4 = 252645135 from rfl] at e
  rw [e]
  show _ = cnt n.testBit (8 * 4)
  simp only [cnt_by8, by8]
  have b : ∀ m : Nat, swF (m % 256) = cnt (m % 256).testBit 8 := fun m => swF_ok _ (Nat.mod_lt _ (by decide))
  have q : ∀ m : Nat, cnt (m % 256).testBit 8 ≤ 8 := fun m => cnt_le _ _
  simp only [b]
  have q0 := q (n)
  have q1 := q (n / 256)
  have q2 := q (n / 256 / 256)
  have q3 := q (n / 256 / 256 / 256)
  generalize cnt (n % 256).testBit 8 = p0 at q0 ⊢
  generalize cnt (n / 256 % 256).testBit 8 = p1 at q1 ⊢
  generalize cnt (n / 256 / 256 % 256).testBit 8 = p2 at q2 ⊢
  generalize cnt (n / 256 / 256 / 256 % 256).testBit 8 = p3 at q3 ⊢
  clear b q e h
  have e6 : 256 * (256 * 0 + p3) + p2 = 256 * p3 + p2 := by omega
  rw [e6]
  refine (sw_sum4 p0 p1 p2 p3 q0 q1 q2 q3 _ _ rfl rfl).trans ?_
  omega
/-- n without its lowest one -/
theorem cnt_low : ∀ (w n : Nat), 0 < n → n < 2 ^ w → cnt (n &&& (n - 1)).testBit w + 1 = cnt n.testBit w
  | 0, n, h0, h => by simp at h; omega
  | w + 1, n, h0, h => by
    have sp : ∀ m : Nat, cnt m.testBit (w + 1) = m % 2 + cnt (m / 2).testBit w := fun m => by
      rw [Nat.add_comm, cnt_split]
      refine congr (congrArg _ ?_) (cnt_congr fun j _ => ?_)
      · show 0 + (if m.testBit 0 then 1 else 0) = m % 2
        rw [Nat.testBit_zero]; by_cases q : m % 2 = 1 <;> simp [q]; omega
      · rw [Nat.testBit_div_two, Nat.add_comm]
    rw [sp, sp n]
    have ed : (n &&& (n - 1)) / 2 = (n / 2) &&& ((n - 1) / 2) := by
      apply Nat.eq_of_testBit_eq; intro j
      rw [Nat.testBit_div_two, Nat.testBit_and, Nat.testBit_and, Nat.testBit_div_two, Nat.testBit_div_two]
    have em : (n &&& (n - 1)) % 2 = 0 := by
      have := Nat.testBit_and n (n - 1) 0
      rw [Nat.testBit_zero, Nat.testBit_zero, Nat.testBit_zero] at this
      by_cases q : n % 2 = 1
      · have q2 : ¬ (n - 1) % 2 = 1 := by omega
        simp only [q, q2, decide_true, decide_false, Bool.and_false, decide_eq_false_iff_not] at this
        omega
      · simp only [q, decide_false, Bool.false_and, decide_eq_false_iff_not] at this
        omega
    rw [ed, em]
    by_cases q : n % 2 = 1
    · rw [show (n - 1) / 2 = n / 2 by omega, Nat.and_self]; omega
    · have := cnt_low w (n / 2) (by omega) (by rw [Nat.pow_succ] at h; omega)
      rw [show (n - 1) / 2 = n / 2 - 1 by omega]
      omega
end
section
/-! the class' static helpers, the JDK's bit counts -/
theorem b_JL_bitCount_0 {G : ev_G} {d k n : Nat} {h : ev_H} {R : Option Value → ev_H → Prop} {x0 : Int64}
  (k1 : Ev G d k n M_JL_bitCount 10 [.long (x0 - (((x0.toUInt64 >>> ((1 : Int32).toInt64.toUInt64 &&& Int64.toUInt64 63)).toInt64) &&& (6148914691236517205 : Int64))), ev_unk] [] h R)
  : Ev G d k n M_JL_bitCount 0 [.long x0, ev_unk] [] h R :=
  Ev.go (pc' := 4) (ls' := [.long x0, ev_unk]) (st' := [.long ((x0.toUInt64 >>> ((1 : Int32).toInt64.toUInt64 &&& Int64.toUInt64 63)).toInt64), .long x0]) [.lload_n 0, .lload_n 0, .iconst 1, .lushr] (by decide +kernel) rfl <|
  Ev.ldc2 k_JL_314 (by decide +kernel) <|
  Ev.go (pc' := 10) (ls' := [.long (x0 - (((x0.toUInt64 >>> ((1 : Int32).toInt64.toUInt64 &&& Int64.toUInt64 63)).toInt64) &&& (6148914691236517205 : Int64))), ev_unk]) (st' := []) [.land, .lsub, .lstore_n 0] (by decide +kernel) rfl <|
  k1
theorem b_JL_bitCount_10 {G : ev_G} {d k n : Nat} {h : ev_H} {R : Option Value → ev_H → Prop} {x0 : Int64}
  (k1 : Ev G d k n M_JL_bitCount 24 [.long ((x0 &&& (3689348814741910323 : Int64)) + (((x0.toUInt64 >>> ((2 : Int32).toInt64.toUInt64 &&& Int64.toUInt64 63)).toInt64) &&& (3689348814741910323 : Int64))), ev_unk] [] h R)
  : Ev G d k n M_JL_bitCount 10 [.long x0, ev_unk] [] h R :=
  Ev.go (pc' := 11) (ls' := [.long x0, ev_unk]) (st' := [.long x0]) [.lload_n 0] (by decide +kernel) rfl <|
  Ev.ldc2 k_JL_316 (by decide +kernel) <|
  Ev.go (pc' := 18) (ls' := [.long x0, ev_unk]) (st' := [.long ((x0.toUInt64 >>> ((2 : Int32).toInt64.toUInt64 &&& Int64.toUInt64 63)).toInt64), .long (x0 &&& (3689348814741910323 : Int64))]) [.land, .lload_n 0, .iconst 2, .lushr] (by decide +kernel) rfl <|
  Ev.ldc2 k_JL_316 (by decide +kernel) <|
  Ev.go (pc' := 24) (ls' := [.long ((x0 &&& (3689348814741910323 : Int64)) + (((x0.toUInt64 >>> ((2 : Int32).toInt64.toUInt64 &&& Int64.toUInt64 63)).toInt64) &&& (3689348814741910323 : Int64))), ev_unk]) (st' := []) [.land, .ladd, .lstore_n 0] (by decide +kernel) rfl <|
  k1
theorem b_JL_bitCount_24 {G : ev_G} {d k n : Nat} {h : ev_H} {R : Option Value → ev_H → Prop} {x0 : Int64}
  (k1 : Ev G d k n M_JL_bitCount 34 [.long ((x0 + ((x0.toUInt64 >>> ((4 : Int32).toInt64.toUInt64 &&& Int64.toUInt64 63)).toInt64)) &&& (1085102592571150095 : Int64)), ev_unk] [] h R)
  : Ev G d k n M_JL_bitCount 24 [.long x0, ev_unk] [] h R :=
  Ev.go (pc' := 29) (ls' := [.long x0, ev_unk]) (st' := [.long (x0 + ((x0.toUInt64 >>> ((4 : Int32).toInt64.toUInt64 &&& Int64.toUInt64 63)).toInt64))]) [.lload_n 0, .lload_n 0, .iconst 4, .lushr, .ladd] (by decide +kernel) rfl <|
  Ev.ldc2 k_JL_318 (by decide +kernel) <|
  Ev.go (pc' := 34) (ls' := [.long ((x0 + ((x0.toUInt64 >>> ((4 : Int32).toInt64.toUInt64 &&& Int64.toUInt64 63)).toInt64)) &&& (1085102592571150095 : Int64)), ev_unk]) (st' := []) [.land, .lstore_n 0] (by decide +kernel) rfl <|
  k1
theorem b_JL_bitCount_34 {G : ev_G} {d k n : Nat} {h : ev_H} {R : Option Value → ev_H → Prop} {x0 : Int64}
  (k1 : Ev G d k n M_JL_bitCount 41 [.long (x0 + ((x0.toUInt64 >>> ((8 : Int32).toInt64.toUInt64 &&& Int64.toUInt64 63)).toInt64)), ev_unk] [] h R)
  : Ev G d k n M_JL_bitCount 34 [.long x0, ev_unk] [] h R :=
  Ev.go (pc' := 41) (ls' := [.long (x0 + ((x0.toUInt64 >>> ((8 : Int32).toInt64.toUInt64 &&& Int64.toUInt64 63)).toInt64)), ev_unk]) (st' := []) [.lload_n 0, .lload_n 0, .bipush (8), .lushr, .ladd, .lstore_n 0] (by decide +kernel) rfl <|
  k1
theorem b_JL_bitCount_41 {G : ev_G} {d k n : Nat} {h : ev_H} {R : Option Value → ev_H → Prop} {x0 : Int64}
  (k1 : Ev G d k n M_JL_bitCount 48 [.long (x0 + ((x0.toUInt64 >>> ((16 : Int32).toInt64.toUInt64 &&& Int64.toUInt64 63)).toInt64)), ev_unk] [] h R)
  : Ev G d k n M_JL_bitCount 41 [.long x0, ev_unk] [] h R :=
  Ev.go (pc' := 48) (ls' := [.long (x0 + ((x0.toUInt64 >>> ((16 : Int32).toInt64.toUInt64 &&& Int64.toUInt64 63)).toInt64)), ev_unk]) (st' := []) [.lload_n 0, .lload_n 0, .bipush (16), .lushr, .ladd, .lstore_n 0] (by decide +kernel) rfl <|
  k1
theorem b_JL_bitCount_48 {G : ev_G} {d k n : Nat} {h : ev_H} {R : Option Value → ev_H → Prop} {x0 : Int64}
  (k1 : Ev G d k n M_JL_bitCount 55 [.long (x0 + ((x0.toUInt64 >>> ((32 : Int32).toInt64.toUInt64 &&& Int64.toUInt64 63)).toInt64)), ev_unk] [] h R)
  : Ev G d k n M_JL_bitCount 48 [.long x0, ev_unk] [] h R :=
  Ev.go (pc' := 55) (ls' := [.long (x0 + ((x0.toUInt64 >>> ((32 : Int32).toInt64.toUInt64 &&& Int64.toUInt64 63)).toInt64)), ev_unk]) (st' := []) [.lload_n 0, .lload_n 0, .bipush (32), .lushr, .ladd, .lstore_n 0] (by decide +kernel) rfl <|
  k1
theorem b_JL_bitCount_55 {G : ev_G} {d k n : Nat} {h : ev_H} {R : Option Value → ev_H → Prop} {x0 : Int64}
  (k1 : R (some (.int (x0.toInt32 &&& (127 : Int32)))) h)
  : Ev G d k n M_JL_bitCount 55 [.long x0, ev_unk] [] h R :=
  Ev.go (pc' := 60) (ls' := [.long x0, ev_unk]) (st' := [.int (x0.toInt32 &&& (127 : Int32))]) [.lload_n 0, .l2i, .bipush (127), .iand] (by decide +kernel) rfl <|
  Ev.ret (r := (some (.int (x0.toInt32 &&& (127 : Int32))))) (Or.inl ⟨_, rfl, by decide +kernel, _, rfl, rfl⟩) k1
theorem b_JI_bitCount_0 {G : ev_G} {d k n : Nat} {h : ev_H} {R : Option Value → ev_H → Prop} {x0 : Int32}
  (k1 : Ev G d k n M_JI_bitCount 10 [.int (x0 - (((x0.toUInt32 >>> ((1 : Int32).toUInt32 &&& Int32.toUInt32 31)).toInt32) &&& (1431655765 : Int32)))] [] h R)
  : Ev G d k n M_JI_bitCount 0 [.int x0] [] h R :=
  Ev.go (pc' := 4) (ls' := [.int x0]) (st' := [.int ((x0.toUInt32 >>> ((1 : Int32).toUInt32 &&& Int32.toUInt32 31)).toInt32), .int x0]) [.iload_n 0, .iload_n 0, .iconst 1, .iushr] (by decide +kernel) rfl <|
  Ev.ldcw k_JI_265 (by decide +kernel) <|
  Ev.go (pc' := 10) (ls' := [.int (x0 - (((x0.toUInt32 >>> ((1 : Int32).toUInt32 &&& Int32.toUInt32 31)).toInt32) &&& (1431655765 : Int32)))]) (st' := []) [.iand, .isub, .istore_n 0] (by decide +kernel) rfl <|
  k1
theorem b_JI_bitCount_10 {G : ev_G} {d k n : Nat} {h : ev_H} {R : Option Value → ev_H → Prop} {x0 : Int32}
  (k1 : Ev G d k n M_JI_bitCount 24 [.int ((x0 &&& (858993459 : Int32)) + (((x0.toUInt32 >>> ((2 : Int32).toUInt32 &&& Int32.toUInt32 31)).toInt32) &&& (858993459 : Int32)))] [] h R)
  : Ev G d k n M_JI_bitCount 10 [.int x0] [] h R :=
  Ev.go (pc' := 11) (ls' := [.int x0]) (st' := [.int x0]) [.iload_n 0] (by decide +kernel) rfl <|
  Ev.ldcw k_JI_266 (by decide +kernel) <|
  Ev.go (pc' := 18) (ls' := [.int x0]) (st' := [.int ((x0.toUInt32 >>> ((2 : Int32).toUInt32 &&& Int32.toUInt32 31)).toInt32), .int (x0 &&& (858993459 : Int32))]) [.iand, .iload_n 0, .iconst 2, .iushr] (by decide +kernel) rfl <|
  Ev.ldcw k_JI_266 (by decide +kernel) <|
  Ev.go (pc' := 24) (ls' := [.int ((x0 &&& (858993459 : Int32)) + (((x0.toUInt32 >>> ((2 : Int32).toUInt32 &&& Int32.toUInt32 31)).toInt32) &&& (858993459 : Int32)))]) (st' := []) [.iand, .iadd, .istore_n 0] (by decide +kernel) rfl <|
  k1
theorem b_JI_bitCount_24 {G : ev_G} {d k n : Nat} {h : ev_H} {R : Option Value → ev_H → Prop} {x0 : Int32}
  (k1 : Ev G d k n M_JI_bitCount 34 [.int ((x0 + ((x0.toUInt32 >>> ((4 : Int32).toUInt32 &&& Int32.toUInt32 31)).toInt32)) &&& (252645135 : Int32))] [] h R)
  : Ev G d k n M_JI_bitCount 24 [.int x0] [] h R :=
  Ev.go (pc' := 29) (ls' := [.int x0]) (st' := [.int (x0 + ((x0.toUInt32 >>> ((4 : Int32).toUInt32 &&& Int32.toUInt32 31)).toInt32))]) [.iload_n 0, .iload_n 0, .iconst 4, .iushr, .iadd] (by decide +kernel) rfl <|
  Ev.ldcw k_JI_267 (by decide +kernel) <|
  Ev.go (pc' := 34) (ls' := [.int ((x0 + ((x0.toUInt32 >>> ((4 : Int32).toUInt32 &&& Int32.toUInt32 31)).toInt32)) &&& (252645135 : Int32))]) (st' := []) [.iand, .istore_n 0] (by decide +kernel) rfl <|
  k1
theorem b_JI_bitCount_34 {G : ev_G} {d k n : Nat} {h : ev_H} {R : Option Value → ev_H → Prop} {x0 : Int32}
  (k1 : Ev G d k n M_JI_bitCount 41 [.int (x0 + ((x0.toUInt32 >>> ((8 : Int32).toUInt32 &&& Int32.toUInt32 31)).toInt32))] [] h R)
  : Ev G d k n M_JI_bitCount 34 [.int x0] [] h R :=
  Ev.go (pc' := 41) (ls' := [.int (x0 + ((x0.toUInt32 >>> ((8 : Int32).toUInt32 &&& Int32.toUInt32 31)).toInt32))]) (st' := []) [.iload_n 0, .iload_n 0, .bipush (8), .iushr, .iadd, .istore_n 0] (by decide +kernel) rfl <|
  k1
theorem b_JI_bitCount_41 {G : ev_G} {d k n : Nat} {h : ev_H} {R : Option Value → ev_H → Prop} {x0 : Int32}
  (k1 : Ev G d k n M_JI_bitCount 48 [.int (x0 + ((x0.toUInt32 >>> ((16 : Int32).toUInt32 &&& Int32.toUInt32 31)).toInt32))] [] h R)
  : Ev G d k n M_JI_bitCount 41 [.int x0] [] h R :=
  Ev.go (pc' := 48) (ls' := [.int (x0 + ((x0.toUInt32 >>> ((16 : Int32).toUInt32 &&& Int32.toUInt32 31)).toInt32))]) (st' := []) [.iload_n 0, .iload_n 0, .bipush (16), .iushr, .iadd, .istore_n 0] (by decide +kernel) rfl <|
  k1
theorem b_JI_bitCount_48 {G : ev_G} {d k n : Nat} {h : ev_H} {R : Option Value → ev_H → Prop} {x0 : Int32}
  (k1 : R (some (.int (x0 &&& (63 : Int32)))) h)
  : Ev G d k n M_JI_bitCount 48 [.int x0] [] h R :=
  Ev.go (pc' := 52) (ls' := [.int x0]) (st' := [.int (x0 &&& (63 : Int32))]) [.iload_n 0, .bipush (63), .iand] (by decide +kernel) rfl <|
  Ev.ret (r := (some (.int (x0 &&& (63 : Int32))))) (Or.inl ⟨_, rfl, by decide +kernel, _, rfl, rfl⟩) k1
theorem l_us (a : Nat) (c : Int32) (k : Nat) (hk : k < 64) (hc : c = nI k) (ha : a < 2 ^ 64) : ((lN a).toUInt64 >>> (c.toInt64.toUInt64 &&& Int64.toUInt64 63)).toInt64 = lN (a / 2 ^ k) := by
  subst hc
  apply l_ext
  intro j hj
  rw [l_ushr k hk, lt_lN _ _ ha, lt_lN _ _ (Nat.lt_of_le_of_lt (Nat.div_le_self _ _) ha), ← Nat.shiftRight_eq_div_pow, Nat.testBit_shiftRight]
theorem l_andN (a b : Nat) (ha : a < 2 ^ 64) : lN a &&& lN b = lN (a &&& b) := by
  apply Int64.toBitVec_inj.1
  show BitVec.ofNat 64 a &&& BitVec.ofNat 64 b = BitVec.ofNat 64 (a &&& b)
  apply BitVec.eq_of_getLsbD_eq
  intro i hi
  simp [hi]
theorem i_us (a : Nat) (c : Int32) (k : Nat) (hk : k < 32) (hc : c = nI k) (ha : a < 2 ^ 32) : ((nI a).toUInt32 >>> (c.toUInt32 &&& Int32.toUInt32 31)).toInt32 = nI (a / 2 ^ k) := by
  subst hc
  apply b_ext
  intro j hj
  rw [b_ushr k hk, bt_nI _ _ ha, bt_nI _ _ (Nat.lt_of_le_of_lt (Nat.div_le_self _ _) ha), ← Nat.shiftRight_eq_div_pow, Nat.testBit_shiftRight]
theorem i_andN (a b : Nat) : nI a &&& nI b = nI (a &&& b) := by
  apply Int32.toBitVec_inj.1
  show BitVec.ofNat 32 a &&& BitVec.ofNat 32 b = BitVec.ofNat 32 (a &&& b)
  apply BitVec.eq_of_getLsbD_eq
  intro i hi
  simp [hi]
theorem and_le_b {a b c : Nat} (h : b < c) : (a &&& b) < c := Nat.lt_of_le_of_lt Nat.and_le_right h
theorem l_of (x : Int64) : ∃ n, n < 2 ^ 64 ∧ x = lN n := ⟨x.toBitVec.toNat, x.toBitVec.isLt, by apply Int64.toBitVec_inj.1; show x.toBitVec = BitVec.ofNat 64 x.toBitVec.toNat; simp⟩
theorem i_of (x : Int32) : ∃ n, n < 2 ^ 32 ∧ x = nI n := ⟨x.toBitVec.toNat, x.toBitVec.isLt, by apply Int32.toBitVec_inj.1; show x.toBitVec = BitVec.ofNat 32 x.toBitVec.toNat; simp⟩
theorem pop_lN {n : Nat} (h : n < 2 ^ 64) : pop (lN n) = cnt n.testBit 64 := cnt_congr fun k _ => lt_lN n k h
theorem pop32_nI {n : Nat} (h : n < 2 ^ 32) : pop32 (nI n) = cnt n.testBit 32 := cnt_congr fun k _ => bt_nI n k h
theorem s_JL_bitCount {G : ev_G} {d : Nat} {h : ev_H} {R : Option Value → ev_H → Prop} {x : Int64} (hR : R (some (.int (nI (pop x)))) h) : Ev G d 0 0 M_JL_bitCount 0 [.long x, ev_unk] [] h R := by
  obtain ⟨n, hn, rfl⟩ := l_of x
  rw [pop_lN hn, ← swar64 hn] at hR
  dsimp only at hR
  have e1 : lN n - (((lN n).toUInt64 >>> ((1 : Int32).toInt64.toUInt64 &&& Int64.toUInt64 63)).toInt64 &&& (6148914691236517205 : Int64)) = lN (sw1 n 6148914691236517205) := by
    rw [l_us n 1 1 (by decide) rfl hn, show (6148914691236517205 : Int64) = lN 6148914691236517205 from rfl, l_andN _ _ (Nat.lt_of_le_of_lt (Nat.div_le_self _ _) hn), lN_sub (Nat.le_trans Nat.and_le_left (Nat.div_le_self _ _))]
    rfl
  have h1 : sw1 n 6148914691236517205 < 2 ^ 64 := Nat.lt_of_le_of_lt (Nat.sub_le _ _) hn
  refine b_JL_bitCount_0 ?_
  rw [e1]
  generalize sw1 n 6148914691236517205 = a at h1 hR ⊢
  have e2 : (lN a &&& (3689348814741910323 : Int64)) + (((lN a).toUInt64 >>> ((2 : Int32).toInt64.toUInt64 &&& Int64.toUInt64 63)).toInt64 &&& (3689348814741910323 : Int64)) = lN (sw2 a 3689348814741910323) := by
    rw [l_us a 2 2 (by decide) rfl h1, show (3689348814741910323 : Int64) = lN 3689348814741910323 from rfl, l_andN _ _ h1, l_andN _ _ (Nat.lt_of_le_of_lt (Nat.div_le_self _ _) h1), lN_add]
    rfl
  have h2 : sw2 a 3689348814741910323 < 2 ^ 63 := by
    have := @Nat.and_le_right a 3689348814741910323
    have := @Nat.and_le_right (a / 4) 3689348814741910323
    unfold sw2; omega
  refine b_JL_bitCount_10 ?_
  rw [e2]
  generalize sw2 a 3689348814741910323 = b at h2 hR ⊢
  have h2' : b < 2 ^ 64 := by omega
  have e3 : (lN b + ((lN b).toUInt64 >>> ((4 : Int32).toInt64.toUInt64 &&& Int64.toUInt64 63)).toInt64) &&& (1085102592571150095 : Int64) = lN (sw3 b 1085102592571150095) := by
    rw [l_us b 4 4 (by decide) rfl h2', lN_add, show (1085102592571150095 : Int64) = lN 1085102592571150095 from rfl, l_andN _ _ (by have : b / 2 ^ 4 ≤ b := Nat.div_le_self _ _; omega)]
    rfl
  have h3 : sw3 b 1085102592571150095 ≤ 1085102592571150095 := Nat.and_le_right
  refine b_JL_bitCount_24 ?_
  rw [e3]
  generalize sw3 b 1085102592571150095 = c at h3 hR ⊢
  have e4 : lN c + ((lN c).toUInt64 >>> ((8 : Int32).toInt64.toUInt64 &&& Int64.toUInt64 63)).toInt64 = lN (c + c / 256) := by
    rw [l_us c 8 8 (by decide) rfl (by omega), lN_add]
  have h4 : c + c / 256 ≤ 1200000000000000000 := by omega
  refine b_JL_bitCount_34 ?_
  rw [e4]
  generalize c + c / 256 = f at h4 hR ⊢
  have e5 : lN f + ((lN f).toUInt64 >>> ((16 : Int32).toInt64.toUInt64 &&& Int64.toUInt64 63)).toInt64 = lN (f + f / 65536) := by
    rw [l_us f 16 16 (by decide) rfl (by omega), lN_add]
  have h5 : f + f / 65536 ≤ 1300000000000000000 := by omega
  refine b_JL_bitCount_41 ?_
  rw [e5]
  generalize f + f / 65536 = g at h5 hR ⊢
  have e6 : lN g + ((lN g).toUInt64 >>> ((32 : Int32).toInt64.toUInt64 &&& Int64.toUInt64 63)).toInt64 = lN (g + g / 4294967296) := by
    rw [l_us g 32 32 (by decide) rfl (by omega), lN_add]
  refine b_JL_bitCount_48 ?_
  rw [e6]
  refine b_JL_bitCount_55 ?_
  rw [lN_i, show (127 : Int32) = nI (2 ^ 7 - 1) from rfl, i_andN, Nat.and_two_pow_sub_one_eq_mod]
  exact hR
theorem s_JI_bitCount {G : ev_G} {d : Nat} {h : ev_H} {R : Option Value → ev_H → Prop} {x : Int32} (hR : R (some (.int (nI (pop32 x)))) h) : Ev G d 0 0 M_JI_bitCount 0 [.int x] [] h R := by
  obtain ⟨n, hn, rfl⟩ := i_of x
  rw [pop32_nI hn, ← swar32 hn] at hR
  dsimp only at hR
  have e1 : nI n - (((nI n).toUInt32 >>> ((1 : Int32).toUInt32 &&& Int32.toUInt32 31)).toInt32 &&& (1431655765 : Int32)) = nI (sw1 n 1431655765) := by
    rw [i_us n 1 1 (by decide) rfl hn, show (1431655765 : Int32) = nI 1431655765 from rfl, i_andN, pk_sub (Nat.le_trans Nat.and_le_left (Nat.div_le_self _ _))]
    rfl
  have h1 : sw1 n 1431655765 < 2 ^ 32 := Nat.lt_of_le_of_lt (Nat.sub_le _ _) hn
  refine b_JI_bitCount_0 ?_
  rw [e1]
  generalize sw1 n 1431655765 = a at h1 hR ⊢
  have e2 : (nI a &&& (858993459 : Int32)) + (((nI a).toUInt32 >>> ((2 : Int32).toUInt32 &&& Int32.toUInt32 31)).toInt32 &&& (858993459 : Int32)) = nI (sw2 a 858993459) := by
    rw [i_us a 2 2 (by decide) rfl h1, show (858993459 : Int32) = nI 858993459 from rfl, i_andN, i_andN, nI_add]
    rfl
  have h2 : sw2 a 858993459 < 2 ^ 31 := by
    have := @Nat.and_le_right a 858993459
    have := @Nat.and_le_right (a / 4) 858993459
    unfold sw2; omega
  refine b_JI_bitCount_10 ?_
  rw [e2]
  generalize sw2 a 858993459 = b at h2 hR ⊢
  have e3 : (nI b + ((nI b).toUInt32 >>> ((4 : Int32).toUInt32 &&& Int32.toUInt32 31)).toInt32) &&& (252645135 : Int32) = nI (sw3 b 252645135) := by
    rw [i_us b 4 4 (by decide) rfl (by omega), nI_add, show (252645135 : Int32) = nI 252645135 from rfl, i_andN]
    rfl
  have h3 : sw3 b 252645135 ≤ 252645135 := Nat.and_le_right
  refine b_JI_bitCount_24 ?_
  rw [e3]
  generalize sw3 b 252645135 = c at h3 hR ⊢
  have e4 : nI c + ((nI c).toUInt32 >>> ((8 : Int32).toUInt32 &&& Int32.toUInt32 31)).toInt32 = nI (c + c / 256) := by
    rw [i_us c 8 8 (by decide) rfl (by omega), nI_add]
  have h4 : c + c / 256 ≤ 300000000 := by omega
  refine b_JI_bitCount_34 ?_
  rw [e4]
  generalize c + c / 256 = f at h4 hR ⊢
  have e5 : nI f + ((nI f).toUInt32 >>> ((16 : Int32).toUInt32 &&& Int32.toUInt32 31)).toInt32 = nI (f + f / 65536) := by
    rw [i_us f 16 16 (by decide) rfl (by omega), nI_add]
  refine b_JI_bitCount_41 ?_
  rw [e5]
  refine b_JI_bitCount_48 ?_
  rw [show (63 : Int32) = nI (2 ^ 6 - 1) from rfl, i_andN, Nat.and_two_pow_sub_one_eq_mod]
  exact hR
theorem b_X_isIn_0 {G : ev_G} {d k n : Nat} {h : ev_H} {R : Option Value → ev_H → Prop} {x0 : Int32} {x1 : Int32}
  (k1 : (((x0.toUInt32 >>> (x1.toUInt32 &&& Int32.toUInt32 31)).toInt32) &&& (1 : Int32)) = (0 : Int32) → R (some (.int (0 : Int32))) h)
  (k2 : ¬ (((x0.toUInt32 >>> (x1.toUInt32 &&& Int32.toUInt32 31)).toInt32) &&& (1 : Int32)) = (0 : Int32) → R (some (.int (1 : Int32))) h)
  : Ev G d k n M_X_isIn 0 [.int x0, .int x1] [] h R :=
  Ev.go (pc' := 5) (ls' := [.int x0, .int x1]) (st' := [.int (((x0.toUInt32 >>> (x1.toUInt32 &&& Int32.toUInt32 31)).toInt32) &&& (1 : Int32))]) [.iload_n 0, .iload_n 1, .iushr, .iconst 1, .iand] (by decide +kernel) rfl <|
  Ev.br (i := .ifCond .eq (7)) (P := (((x0.toUInt32 >>> (x1.toUInt32 &&& Int32.toUInt32 31)).toInt32) &&& (1 : Int32)) = (0 : Int32)) (t := 12) (f := 8) (r := []) (by decide +kernel) rfl (fun c1 =>
    Ev.go (pc' := 13) (ls' := [.int x0, .int x1]) (st' := [.int (0 : Int32)]) [.iconst 0] (by decide +kernel) rfl <|
    Ev.ret (r := (some (.int (0 : Int32)))) (Or.inl ⟨_, rfl, by decide +kernel, _, rfl, rfl⟩) (k1 c1)
  ) (fun c1 =>
    Ev.go (pc' := 13) (ls' := [.int x0, .int x1]) (st' := [.int (1 : Int32)]) [.iconst 1, .goto (4)] (by decide +kernel) rfl <|
    Ev.ret (r := (some (.int (1 : Int32)))) (Or.inl ⟨_, rfl, by decide +kernel, _, rfl, rfl⟩) (k2 c1)
  )
theorem b_X_bitOf_0 {G : ev_G} {d k n : Nat} {h : ev_H} {R : Option Value → ev_H → Prop} {x0 : Int64} {x2 : Int32}
  (k1 : R (some (.int (((x0.toUInt64 >>> (x2.toInt64.toUInt64 &&& Int64.toUInt64 63)).toInt64) &&& (1 : Int64)).toInt32)) h)
  : Ev G d k n M_X_bitOf 0 [.long x0, ev_unk, .int x2] [] h R :=
  Ev.go (pc' := 6) (ls' := [.long x0, ev_unk, .int x2]) (st' := [.int (((x0.toUInt64 >>> (x2.toInt64.toUInt64 &&& Int64.toUInt64 63)).toInt64) &&& (1 : Int64)).toInt32]) [.lload_n 0, .iload_n 2, .lushr, .lconst 1, .land, .l2i] (by decide +kernel) rfl <|
  Ev.ret (r := (some (.int (((x0.toUInt64 >>> (x2.toInt64.toUInt64 &&& Int64.toUInt64 63)).toInt64) &&& (1 : Int64)).toInt32))) (Or.inl ⟨_, rfl, by decide +kernel, _, rfl, rfl⟩) k1
theorem b_X_above_0 {G : ev_G} {d k n : Nat} {h : ev_H} {R : Option Value → ev_H → Prop} {x0 : Int32}
  (k1 : R (some (.int ((-2 : Int32) <<< (x0 &&& 31)))) h)
  : Ev G d k n M_X_above 0 [.int x0] [] h R :=
  Ev.go (pc' := 4) (ls' := [.int x0]) (st' := [.int ((-2 : Int32) <<< (x0 &&& 31))]) [.bipush (-2), .iload_n 0, .ishl] (by decide +kernel) rfl <|
  Ev.ret (r := (some (.int ((-2 : Int32) <<< (x0 &&& 31))))) (Or.inl ⟨_, rfl, by decide +kernel, _, rfl, rfl⟩) k1
theorem b_X_isBelow_0 {G : ev_G} {d k n : Nat} {h : ev_H} {R : Option Value → ev_H → Prop} {x0 : Int32} {x1 : Int32}
  (k1 : x0 < (0 : Int32) → R (some (.int (0 : Int32))) h)
  (k2 : ¬ x0 < (0 : Int32) → x0 < x1 → R (some (.int (1 : Int32))) h)
  (k3 : ¬ x0 < (0 : Int32) → ¬ x0 < x1 → R (some (.int (0 : Int32))) h)
  : Ev G d k n M_X_isBelow 0 [.int x0, .int x1] [] h R :=
  Ev.go (pc' := 1) (ls' := [.int x0, .int x1]) (st' := [.int x0]) [.iload_n 0] (by decide +kernel) rfl <|
  Ev.br (i := .ifCond .lt (12)) (P := x0 < (0 : Int32)) (t := 13) (f := 4) (r := []) (by decide +kernel) rfl (fun c1 =>
    Ev.go (pc' := 14) (ls' := [.int x0, .int x1]) (st' := [.int (0 : Int32)]) [.iconst 0] (by decide +kernel) rfl <|
    Ev.ret (r := (some (.int (0 : Int32)))) (Or.inl ⟨_, rfl, by decide +kernel, _, rfl, rfl⟩) (k1 c1)
  ) (fun c1 =>
    Ev.go (pc' := 6) (ls' := [.int x0, .int x1]) (st' := [.int x1, .int x0]) [.iload_n 0, .iload_n 1] (by decide +kernel) rfl <|
    Ev.br (i := .if_icmp .ge (7)) (P := x0 < x1) (t := 9) (f := 13) (r := []) (by decide +kernel) rfl (fun c2 =>
      Ev.go (pc' := 14) (ls' := [.int x0, .int x1]) (st' := [.int (1 : Int32)]) [.iconst 1, .goto (4)] (by decide +kernel) rfl <|
      Ev.ret (r := (some (.int (1 : Int32)))) (Or.inl ⟨_, rfl, by decide +kernel, _, rfl, rfl⟩) (k2 c1 c2)
    ) (fun c2 =>
      Ev.go (pc' := 14) (ls' := [.int x0, .int x1]) (st' := [.int (0 : Int32)]) [.iconst 0] (by decide +kernel) rfl <|
      Ev.ret (r := (some (.int (0 : Int32)))) (Or.inl ⟨_, rfl, by decide +kernel, _, rfl, rfl⟩) (k3 c1 c2)
    )
  )
theorem b_X_isUpper_0 {G : ev_G} {d k n : Nat} {h : ev_H} {R : Option Value → ev_H → Prop} {x0 : Int32}
  (k1 : x0 < (1 : Int32) → R (some (.int (0 : Int32))) h)
  (k2 : ¬ x0 < (1 : Int32) → (24 : Int32) < x0 → R (some (.int (0 : Int32))) h)
  (k3 : ¬ x0 < (1 : Int32) → ¬ (24 : Int32) < x0 → R (some (.int (1 : Int32))) h)
  : Ev G d k n M_X_isUpper 0 [.int x0] [] h R :=
  Ev.go (pc' := 2) (ls' := [.int x0]) (st' := [.int (1 : Int32), .int x0]) [.iload_n 0, .iconst 1] (by decide +kernel) rfl <|
  Ev.br (i := .if_icmp .lt (13)) (P := x0 < (1 : Int32)) (t := 15) (f := 5) (r := []) (by decide +kernel) rfl (fun c1 =>
    Ev.go (pc' := 16) (ls' := [.int x0]) (st' := [.int (0 : Int32)]) [.iconst 0] (by decide +kernel) rfl <|
    Ev.ret (r := (some (.int (0 : Int32)))) (Or.inl ⟨_, rfl, by decide +kernel, _, rfl, rfl⟩) (k1 c1)
  ) (fun c1 =>
    Ev.go (pc' := 8) (ls' := [.int x0]) (st' := [.int (24 : Int32), .int x0]) [.iload_n 0, .bipush (24)] (by decide +kernel) rfl <|
    Ev.br (i := .if_icmp .gt (7)) (P := (24 : Int32) < x0) (t := 15) (f := 11) (r := []) (by decide +kernel) rfl (fun c2 =>
      Ev.go (pc' := 16) (ls' := [.int x0]) (st' := [.int (0 : Int32)]) [.iconst 0] (by decide +kernel) rfl <|
      Ev.ret (r := (some (.int (0 : Int32)))) (Or.inl ⟨_, rfl, by decide +kernel, _, rfl, rfl⟩) (k2 c1 c2)
    ) (fun c2 =>
      Ev.go (pc' := 16) (ls' := [.int x0]) (st' := [.int (1 : Int32)]) [.iconst 1, .goto (4)] (by decide +kernel) rfl <|
      Ev.ret (r := (some (.int (1 : Int32)))) (Or.inl ⟨_, rfl, by decide +kernel, _, rfl, rfl⟩) (k3 c1 c2)
    )
  )
theorem b_X_unlike_0 {G : ev_G} {d k n : Nat} {h : ev_H} {R : Option Value → ev_H → Prop} {x0 : Int64} {x2 : Int64}
  (k1 : R (some (.int (nI (pop (x0 ^^^ x2))))) h)
  : Ev G (d + 1) k n M_X_unlike 0 [.long x0, ev_unk, .long x2, ev_unk] [] h R :=
  Ev.go (pc' := 3) (ls' := [.long x0, ev_unk, .long x2, ev_unk]) (st' := [.long (x0 ^^^ x2)]) [.lload_n 0, .lload_n 2, .lxor] (by decide +kernel) rfl <|
  Ev.cS0 (M' := M_JL_bitCount) (as := [.long (x0 ^^^ x2)]) (rest := []) l_X_286 M_JL_bitCount_ok M_JL_bitCount_st (by decide +kernel) rfl rfl (Nat.le_of_ble_eq_true rfl) (Nat.le_of_ble_eq_true rfl) (s_JL_bitCount <| show Ev G (d + 1) _ _ M_X_unlike 6 [.long x0, ev_unk, .long x2, ev_unk] [.int (nI (pop (x0 ^^^ x2)))] h R from
    Ev.ret (r := (some (.int (nI (pop (x0 ^^^ x2)))))) (Or.inl ⟨_, rfl, by decide +kernel, _, rfl, rfl⟩) k1
  )
theorem i32 : (32 : Int32) = nI 32 := rfl
theorem s_X_isIn {G : ev_G} {d : Nat} {h : ev_H} {R : Option Value → ev_H → Prop} {s i : Int32} (hR : R (some (.int (b2i (inI s i)))) h) : Ev G d 0 0 M_X_isIn 0 [.int s, .int i] [] h R := by
  refine b_X_isIn_0 (fun c => ?_) (fun c => ?_) <;> rw [isIn_eq] at c
  · rw [(b2i_0 _).mp c] at hR; exact hR
  · have : inI s i = true := by cases e : inI s i <;> simp_all [b2i]
    rw [this] at hR; exact hR
theorem s_X_bitOf {G : ev_G} {d : Nat} {h : ev_H} {R : Option Value → ev_H → Prop} {x : Int64} {i : Int32} (hR : R (some (.int (b2i (tbL x i)))) h) : Ev G d 0 0 M_X_bitOf 0 [.long x, ev_unk, .int i] [] h R :=
  b_X_bitOf_0 (by rw [bitOf_eq]; exact hR)
theorem s_X_above {G : ev_G} {d : Nat} {h : ev_H} {R : Option Value → ev_H → Prop} {i : Int32} (hR : R (some (.int ((-2 : Int32) <<< (i &&& 31)))) h) : Ev G d 0 0 M_X_above 0 [.int i] [] h R := b_X_above_0 hR
theorem s_X_isBelow {G : ev_G} {d : Nat} {h : ev_H} {R : Option Value → ev_H → Prop} {x y : Int32} (hR : R (some (.int (b2i (decide (0 ≤ x ∧ x < y))))) h) : Ev G d 0 0 M_X_isBelow 0 [.int x, .int y] [] h R := by
  refine b_X_isBelow_0 (fun c => ?_) (fun c c2 => ?_) (fun c c2 => ?_)
  · rw [decide_eq_false (fun q => absurd c (Int32.not_lt.mpr q.1))] at hR; exact hR
  · rw [decide_eq_true ⟨Int32.not_lt.mp c, c2⟩] at hR; exact hR
  · rw [decide_eq_false (fun q => c2 q.2)] at hR; exact hR
theorem s_X_unlike {G : ev_G} {d : Nat} {h : ev_H} {R : Option Value → ev_H → Prop} {x y : Int64} (hR : R (some (.int (nI (pop (x ^^^ y))))) h) : Ev G (d + 1) 0 0 M_X_unlike 0 [.long x, ev_unk, .long y, ev_unk] [] h R := b_X_unlike_0 hR
end
section
/-- what is not needed of the locals -/
def ev_wk : List Value → List Value → Prop
  | [], [] => True
  | a :: l, b :: l' => (b = ev_unk ∨ b = a) ∧ ev_wk l l'
  | _, _ => False
theorem ev_wk_get : ∀ {l l' : List Value}, ev_wk l l' → ∀ (i : Nat) (v : Value), l'[i]? = some v → ev_known v = true → l[i]? = some v
  | [], [], _, i, v, h, _ => by simp at h
  | a :: l, b :: l', ⟨h1, h2⟩, 0, v, h, hk => by
    simp at h; subst h
    rcases h1 with rfl | rfl
    · cases hk
    · rfl
  | a :: l, b :: l', ⟨h1, h2⟩, i + 1, v, h, hk => by
    have := ev_wk_get h2 i v (by simpa using h) hk
    simpa using this
theorem Ev.forget {G : ev_G} {d k n : Nat} {M : ev_M} {pc : Nat} {ls st ls' : List Value} {h : ev_H} {R : Option Value → ev_H → Prop} (hw : ev_wk ls ls') (hE : Ev G d k n M pc ls' st h R) : Ev G d k n M pc ls st h R :=
  fun p e Rm s m args below meth c Q hx h1 h2 hkk H locs cells slots A g1 g2 g3 g4 g5 => hE p e Rm s m args below meth c Q hx h1 h2 hkk H locs cells slots A g1 g2 g3 g4 ⟨g5.1, g5.2.1, fun q hq => by
    obtain ⟨v, hv, hk, e⟩ := ev_prs_in.mp hq
    exact g5.2.2 q (ev_prs_in.mpr ⟨v, ev_wk_get hw _ _ hv hk, hk, e⟩)⟩
/-! THE STORE: what an object of Store, and of Filter, is -/
/-- a step of a filter: kind, sign, place, bound, number -/
abbrev AStp : Type := Nat × Nat × Nat × Nat × Int64
/-- bits, parts, size, breadths, codes, tags, filter -/
abbrev AS : Type := Nat × Nat × Nat × (Nat → Nat) × (Nat → Int64) × (Nat → Nat) × List AStp
def sB (S : AS) : Nat := S.1
def sP (S : AS) : Nat := S.2.1
def sN (S : AS) : Nat := S.2.2.1
def sBr (S : AS) : Nat → Nat := S.2.2.2.1
def sCo (S : AS) : Nat → Int64 := S.2.2.2.2.1
def sTg (S : AS) : Nat → Nat := S.2.2.2.2.2.1
def sFl (S : AS) : List AStp := S.2.2.2.2.2.2
def sumT (f : Nat → Nat) : Nat → Nat
  | 0 => 0
  | n + 1 => sumT f n + f n
theorem sumT_mono (f : Nat → Nat) : ∀ {m n : Nat}, m ≤ n → sumT f m ≤ sumT f n := by
  intro m n h
  obtain ⟨k, rfl⟩ := Nat.exists_eq_add_of_le h
  clear h
  induction k with
  | zero => exact Nat.le_refl _
  | succ k ih => exact Nat.le_trans ih (Nat.le_add_right _ _)
theorem sumT_congr {f g : Nat → Nat} : ∀ {n : Nat}, (∀ k, k < n → f k = g k) → sumT f n = sumT g n
  | 0, _ => rfl
  | n + 1, h => by unfold sumT; rw [sumT_congr (fun k hk => h k (Nat.lt_succ_of_lt hk)), h n (Nat.lt_succ_self n)]
theorem sumT_le {f : Nat → Nat} {c : Nat} : ∀ {n : Nat}, (∀ k, k < n → f k ≤ c) → sumT f n ≤ n * c
  | 0, _ => by simp [sumT]
  | n + 1, h => by
    have := sumT_le (fun k hk => h k (Nat.lt_succ_of_lt hk))
    have := h n (Nat.lt_succ_self n)
    rw [Nat.succ_mul]; unfold sumT; omega
/-- the first below n that holds, or n -/
def fst (p : Nat → Bool) : Nat → Nat
  | 0 => 0
  | n + 1 => if fst p n < n then fst p n else if p n then n else n + 1
theorem fst_le (p : Nat → Bool) : ∀ n, fst p n ≤ n
  | 0 => Nat.le_refl _
  | n + 1 => by have := fst_le p n; unfold fst; split <;> (try split) <;> omega
theorem fst_no (p : Nat → Bool) : ∀ n j, j < fst p n → p j = false
  | 0, j, h => by unfold fst at h; omega
  | n + 1, j, h => by
    have ih := fst_no p n
    have hl := fst_le p n
    unfold fst at h
    by_cases q : fst p n < n
    · rw [if_pos q] at h; exact ih j h
    · rw [if_neg q] at h
      by_cases hp : p n = true
      · rw [if_pos hp] at h; exact ih j (by omega)
      · rw [if_neg hp] at h
        by_cases e : j = n
        · subst e; cases hq : p j
          · rfl
          · exact absurd hq hp
        · exact ih j (by omega)
theorem fst_yes (p : Nat → Bool) : ∀ n, fst p n < n → p (fst p n) = true
  | 0, h => by omega
  | n + 1, h => by
    have ih := fst_yes p n
    have hl := fst_le p n
    unfold fst at h ⊢
    by_cases q : fst p n < n
    · rw [if_pos q]; exact ih q
    · rw [if_neg q] at h ⊢
      by_cases hp : p n = true
      · rw [if_pos hp]; exact hp
      · rw [if_neg hp] at h; omega
theorem fst_eq {p : Nat → Bool} {n i : Nat} (hi : i < n) (hp : p i = true) (hn : ∀ j, j < i → p j = false) : fst p n = i := by
  have h1 := fst_le p n
  have h2 := fst_no p n
  have h3 := fst_yes p n
  rcases Nat.lt_trichotomy (fst p n) i with q | q | q
  · have := h3 (by omega); rw [hn _ q] at this; cases this
  · exact q
  · have := h2 i q; rw [hp] at this; cases this
theorem fst_none {p : Nat → Bool} {n : Nat} (hn : ∀ j, j < n → p j = false) : fst p n = n := by
  have h1 := fst_le p n
  have h3 := fst_yes p n
  rcases Nat.lt_or_ge (fst p n) n with q | q
  · have := h3 q; rw [hn _ q] at this; cases this
  · omega
theorem fst_congr {p q : Nat → Bool} : ∀ {n : Nat}, (∀ k, k < n → p k = q k) → fst p n = fst q n
  | 0, _ => rfl
  | n + 1, h => by unfold fst; rw [fst_congr (fun k hk => h k (Nat.lt_succ_of_lt hk)), h n (Nat.lt_succ_self n)]
/-- its number, or -1 -/
def frI (p : Nat → Bool) (n : Nat) : Int32 := if fst p n < n then nI (fst p n) else -1
theorem nl_self {n : Nat} (h : n < 2147483648) : ¬ nI n < nI n := nI_nlt (Nat.le_refl _) h
/-- what the rows of a store must keep to, for the machine's sake -/
def sOk (S : AS) : Prop := 4 ≤ sB S ∧ sB S ≤ 48 ∧ 1 ≤ sP S ∧ sP S ≤ 6 ∧ sN S ≤ 32 ∧ (∀ i, i < sP S → sBr S i ≤ 24) ∧ (∀ i, i < sN S → sTg S i ≤ 9) ∧ sumT (sBr S) (sP S) = sB S
def FiR (h : ev_H) (f : Nat) (fl : List AStp) : Prop := hat h f (oC 1 [.ref (f + 1), .ref (f + 2), .ref (f + 3), .ref (f + 4), .ref (f + 5)]) ∧ ∃ (ks ss ps bs : Nat → Int32) (frs : Nat → Int64), hat h (f + 1) (aI fl.length ks) ∧ hat h (f + 2) (aI fl.length ss) ∧ hat h (f + 3) (aI fl.length ps) ∧ hat h (f + 4) (aI fl.length bs) ∧ hat h (f + 5) (aL fl.length frs) ∧ ∀ i s, fl[i]? = some s → ks i = nI s.1 ∧ ss i = nI s.2.1 ∧ ps i = nI s.2.2.1 ∧ bs i = nI s.2.2.2.1 ∧ frs i = s.2.2.2.2
def FvR (h : ev_H) (fv : Value) (fl : List AStp) : Prop := (fl = [] ∧ fv = .null) ∨ (fl ≠ [] ∧ ∃ f, fv = .ref f ∧ 126 ≤ f ∧ FiR h f fl)
def StR (h : ev_H) (a : Nat) (S : AS) : Prop := ∃ (brf tgf : Nat → Int32) (cof : Nat → Int64) (fv : Value), hat h a (oC 6 [.int (nI (sB S)), .int (nI (sP S)), .ref (a + 1), .int (nI (sN S)), .ref (a + 2), .ref (a + 3), fv]) ∧ hat h (a + 1) (aI 6 brf) ∧ hat h (a + 2) (aL 32 cof) ∧ hat h (a + 3) (aI 32 tgf) ∧ (∀ i, i < sP S → brf i = nI (sBr S i)) ∧ (∀ i, i < sN S → cof i = sCo S i ∧ tgf i = nI (sTg S i)) ∧ FvR h fv (sFl S)
/-! loops that count up -/
theorem up_to {P : Nat → Prop} {N : Nat} (hs : ∀ i, i < N → P (i + 1) → P i) (hx : P N) : ∀ i, i ≤ N → P i := by
  intro i hi
  obtain ⟨k, rfl⟩ := Nat.exists_eq_add_of_le hi
  clear hi
  induction k generalizing i with
  | zero => exact hx
  | succ k ih => exact hs i (by omega) (ih (i + 1) (fun i hi h => hs i (by omega) (by exact h)) (by rw [show i + 1 + k = i + (k + 1) by omega]; exact hx))
theorem up0 {P : Nat → Prop} (N : Nat) (hs : ∀ i, i < N → P (i + 1) → P i) (hx : P N) : P 0 := up_to hs hx 0 (Nat.zero_le _)
theorem b2i_n0 {b : Bool} (h : ¬ b2i b = 0) : b = true := by cases b <;> simp_all [b2i]
theorem b2i_e0 {b : Bool} (h : b2i b = 0) : b = false := (b2i_0 b).mp h
theorem ixn {j n : Nat} (h : j < n) (hn : n < 2147483648) : ev_ix (nI j) j n := ⟨rfl, h, hn⟩
theorem setI_lt0 (p : Nat → Bool) : setI (fun j => decide (j < 0) && p j) = 0 := (setI_congr fun j _ => by simp).trans setI_0.symm
theorem setI_add (p : Nat → Bool) {i : Nat} (hi : i < 32) (hp : p i = true) : setI (fun j => decide (j < i) && p j) ||| (1 <<< (nI i &&& 31)) = setI (fun j => decide (j < i + 1) && p j) := by
  rw [setI_one hi, setI_or]
  refine setI_congr fun j _ => ?_
  by_cases e : j = i
  · subst e; simp [hp]
  · by_cases h : j < i
    · simp [h, e, Nat.lt_succ_of_lt h]
    · simp [h, e, show ¬ j < i + 1 by omega]
theorem setI_skip (p : Nat → Bool) {i : Nat} (hp : p i = false) : setI (fun j => decide (j < i) && p j) = setI (fun j => decide (j < i + 1) && p j) := by
  refine setI_congr fun j _ => ?_
  by_cases e : j = i
  · subst e; simp [hp]
  · by_cases h : j < i
    · simp [h, Nat.lt_succ_of_lt h]
    · simp [h, show ¬ j < i + 1 by omega]
theorem b_St_within_0 {G : ev_G} {d k n : Nat} {h : ev_H} {R : Option Value → ev_H → Prop} {x0 : Nat} {x1 : Int32} {x2 : Int64} {x4 : Int32}
  (k1 : Ev G (d + 2) k n M_St_within 6 [.ref x0, .int x1, .long x2, ev_unk, .int x4, .int (0 : Int32), .int (0 : Int32)] [] h R)
  : Ev G (d + 2) k n M_St_within 0 [.ref x0, .int x1, .long x2, ev_unk, .int x4, ev_unk, ev_unk] [] h R :=
  Ev.go (pc' := 6) (ls' := [.ref x0, .int x1, .long x2, ev_unk, .int x4, .int (0 : Int32), .int (0 : Int32)]) (st' := []) [.iconst 0, .istore 5, .iconst 0, .istore 6] (by decide +kernel) rfl <|
  k1
theorem b_St_within_6 {G : ev_G} {d k n : Nat} {h : ev_H} {R : Option Value → ev_H → Prop} {x0 : Nat} {x1 : Int32} {x2 : Int64} {x4 : Int32} {x5 : Int32} {x6 : Int32} {f_bits_1 : Int32} {f_parts_2 : Int32} {f_size_3 : Int32} {fv4 : Value} {g5 : Nat → Int64} {j6 : Nat}
  (a1 : hat h x0 (oC 6 [.int f_bits_1, .int f_parts_2, .ref (x0 + 1), .int f_size_3, .ref (x0 + 2), .ref (x0 + 3), fv4]))
  (a2 : hat h (x0 + 2) (aL 32 g5))
  (i3 : x6 < f_size_3 → ¬ (b2i (inI x1 x6)) = (0 : Int32) → ev_ix x6 j6 32)
  (k1 : x6 < f_size_3 → (b2i (inI x1 x6)) = (0 : Int32) → Ev G (d + 2) k n M_St_within 6 [.ref x0, .int x1, .long x2, ev_unk, .int x4, .int x5, .int (x6 + (1 : Int32))] [] h R)
  (k2 : x6 < f_size_3 → ¬ (b2i (inI x1 x6)) = (0 : Int32) → x4 < (nI (pop ((g5 j6) ^^^ x2))) → Ev G (d + 2) k n M_St_within 6 [.ref x0, .int x1, .long x2, ev_unk, .int x4, .int x5, .int (x6 + (1 : Int32))] [] h R)
  (k3 : x6 < f_size_3 → ¬ (b2i (inI x1 x6)) = (0 : Int32) → ¬ x4 < (nI (pop ((g5 j6) ^^^ x2))) → Ev G (d + 2) k n M_St_within 6 [.ref x0, .int x1, .long x2, ev_unk, .int x4, .int (x5 ||| ((1 : Int32) <<< (x6 &&& 31))), .int (x6 + (1 : Int32))] [] h R)
  (k4 : ¬ x6 < f_size_3 → R (some (.int x5)) h)
  : Ev G (d + 2) k n M_St_within 6 [.ref x0, .int x1, .long x2, ev_unk, .int x4, .int x5, .int x6] [] h R :=
  Ev.go (pc' := 9) (ls' := [.ref x0, .int x1, .long x2, ev_unk, .int x4, .int x5, .int x6]) (st' := [.ref x0, .int x6]) [.iload 6, .aload_n 0] (by decide +kernel) rfl <|
  Ev.getf f_St_22 (by decide +kernel) a1 rfl <|
  Ev.br (i := .if_icmp .ge (43)) (P := x6 < f_size_3) (t := 15) (f := 55) (r := []) (by decide +kernel) rfl (fun c1 =>
    Ev.go (pc' := 18) (ls' := [.ref x0, .int x1, .long x2, ev_unk, .int x4, .int x5, .int x6]) (st' := [.int x6, .int x1]) [.iload_n 1, .iload 6] (by decide +kernel) rfl <|
    Ev.cSN0 (M' := M_X_isIn) (as := [.int x1, .int x6]) (rest := []) l_St_65 M_X_isIn_ok M_X_isIn_st (by decide +kernel) rfl rfl (Nat.le_of_ble_eq_true rfl) (Nat.le_of_ble_eq_true rfl) (s_X_isIn <| show Ev G (d + 2) _ _ M_St_within 21 [.ref x0, .int x1, .long x2, ev_unk, .int x4, .int x5, .int x6] [.int (b2i (inI x1 x6))] h R from
      Ev.br (i := .ifCond .eq (28)) (P := (b2i (inI x1 x6)) = (0 : Int32)) (t := 49) (f := 24) (r := []) (by decide +kernel) rfl (fun c2 =>
        Ev.go (pc' := 6) (ls' := [.ref x0, .int x1, .long x2, ev_unk, .int x4, .int x5, .int (x6 + (1 : Int32))]) (st' := []) [.iinc 6 (1), .goto (-46)] (by decide +kernel) rfl <|
        (k1 c1 c2)
      ) (fun c2 =>
        Ev.go (pc' := 25) (ls' := [.ref x0, .int x1, .long x2, ev_unk, .int x4, .int x5, .int x6]) (st' := [.ref x0]) [.aload_n 0] (by decide +kernel) rfl <|
        Ev.getf f_St_25 (by decide +kernel) a1 rfl <|
        Ev.go (pc' := 30) (ls' := [.ref x0, .int x1, .long x2, ev_unk, .int x4, .int x5, .int x6]) (st' := [.int x6, .ref (x0 + 2)]) [.iload 6] (by decide +kernel) rfl <|
        Ev.lald (j := j6) (by decide +kernel) a2 (i3 c1 c2) <|
        Ev.go (pc' := 32) (ls' := [.ref x0, .int x1, .long x2, ev_unk, .int x4, .int x5, .int x6]) (st' := [.long x2, .long (g5 j6)]) [.lload_n 2] (by decide +kernel) rfl <|
        Ev.cSN0 (M' := M_X_unlike) (as := [.long (g5 j6), .long x2]) (rest := []) l_St_69 M_X_unlike_ok M_X_unlike_st (by decide +kernel) rfl rfl (Nat.le_of_ble_eq_true rfl) (Nat.le_of_ble_eq_true rfl) (s_X_unlike <| show Ev G (d + 2) _ _ M_St_within 35 [.ref x0, .int x1, .long x2, ev_unk, .int x4, .int x5, .int x6] [.int (nI (pop ((g5 j6) ^^^ x2)))] h R from
          Ev.go (pc' := 37) (ls' := [.ref x0, .int x1, .long x2, ev_unk, .int x4, .int x5, .int x6]) (st' := [.int x4, .int (nI (pop ((g5 j6) ^^^ x2)))]) [.iload 4] (by decide +kernel) rfl <|
          Ev.br (i := .if_icmp .gt (12)) (P := x4 < (nI (pop ((g5 j6) ^^^ x2)))) (t := 49) (f := 40) (r := []) (by decide +kernel) rfl (fun c3 =>
            Ev.go (pc' := 6) (ls' := [.ref x0, .int x1, .long x2, ev_unk, .int x4, .int x5, .int (x6 + (1 : Int32))]) (st' := []) [.iinc 6 (1), .goto (-46)] (by decide +kernel) rfl <|
            (k2 c1 c2 c3)
          ) (fun c3 =>
            Ev.go (pc' := 6) (ls' := [.ref x0, .int x1, .long x2, ev_unk, .int x4, .int (x5 ||| ((1 : Int32) <<< (x6 &&& 31))), .int (x6 + (1 : Int32))]) (st' := []) [.iload 5, .iconst 1, .iload 6, .ishl, .ior, .istore 5, .iinc 6 (1), .goto (-46)] (by decide +kernel) rfl <|
            (k3 c1 c2 c3)
          )
        )
      )
    )
  ) (fun c1 =>
    Ev.go (pc' := 57) (ls' := [.ref x0, .int x1, .long x2, ev_unk, .int x4, .int x5, .int x6]) (st' := [.int x5]) [.iload 5] (by decide +kernel) rfl <|
    Ev.ret (r := (some (.int x5))) (Or.inl ⟨_, rfl, by decide +kernel, _, rfl, rfl⟩) (k4 c1)
  )
theorem b_St_whereIs_0 {G : ev_G} {d k n : Nat} {h : ev_H} {R : Option Value → ev_H → Prop} {x0 : Nat} {x1 : Int64}
  (k1 : Ev G d k n M_St_whereIs 2 [.ref x0, .long x1, ev_unk, .int (0 : Int32)] [] h R)
  : Ev G d k n M_St_whereIs 0 [.ref x0, .long x1, ev_unk, ev_unk] [] h R :=
  Ev.go (pc' := 2) (ls' := [.ref x0, .long x1, ev_unk, .int (0 : Int32)]) (st' := []) [.iconst 0, .istore_n 3] (by decide +kernel) rfl <|
  k1
theorem b_St_whereIs_2 {G : ev_G} {d k n : Nat} {h : ev_H} {R : Option Value → ev_H → Prop} {x0 : Nat} {x1 : Int64} {x3 : Int32} {f_bits_1 : Int32} {f_parts_2 : Int32} {f_size_3 : Int32} {fv4 : Value} {g5 : Nat → Int64} {j6 : Nat}
  (a1 : hat h x0 (oC 6 [.int f_bits_1, .int f_parts_2, .ref (x0 + 1), .int f_size_3, .ref (x0 + 2), .ref (x0 + 3), fv4]))
  (a2 : hat h (x0 + 2) (aL 32 g5))
  (i3 : x3 < f_size_3 → ev_ix x3 j6 32)
  (k1 : x3 < f_size_3 → (g5 j6) = x1 → R (some (.int x3)) h)
  (k2 : x3 < f_size_3 → ¬ (g5 j6) = x1 → Ev G d k n M_St_whereIs 2 [.ref x0, .long x1, ev_unk, .int (x3 + (1 : Int32))] [] h R)
  (k3 : ¬ x3 < f_size_3 → R (some (.int (-1 : Int32))) h)
  : Ev G d k n M_St_whereIs 2 [.ref x0, .long x1, ev_unk, .int x3] [] h R :=
  Ev.go (pc' := 4) (ls' := [.ref x0, .long x1, ev_unk, .int x3]) (st' := [.ref x0, .int x3]) [.iload_n 3, .aload_n 0] (by decide +kernel) rfl <|
  Ev.getf f_St_22 (by decide +kernel) a1 rfl <|
  Ev.br (i := .if_icmp .ge (22)) (P := x3 < f_size_3) (t := 10) (f := 29) (r := []) (by decide +kernel) rfl (fun c1 =>
    Ev.go (pc' := 11) (ls' := [.ref x0, .long x1, ev_unk, .int x3]) (st' := [.ref x0]) [.aload_n 0] (by decide +kernel) rfl <|
    Ev.getf f_St_25 (by decide +kernel) a1 rfl <|
    Ev.go (pc' := 15) (ls' := [.ref x0, .long x1, ev_unk, .int x3]) (st' := [.int x3, .ref (x0 + 2)]) [.iload_n 3] (by decide +kernel) rfl <|
    Ev.lald (j := j6) (by decide +kernel) a2 (i3 c1) <|
    Ev.go (pc' := 17) (ls' := [.ref x0, .long x1, ev_unk, .int x3]) (st' := [.long x1, .long (g5 j6)]) [.lload_n 1] (by decide +kernel) rfl <|
    Ev.brl (c := .ne) (o := 5) (P := (g5 j6) = x1) (t := 21) (f := 23) (t1 := 23) (by decide +kernel) (by decide +kernel) rfl rfl (fun c2 =>
      Ev.go (pc' := 22) (ls' := [.ref x0, .long x1, ev_unk, .int x3]) (st' := [.int x3]) [.iload_n 3] (by decide +kernel) rfl <|
      Ev.ret (r := (some (.int x3))) (Or.inl ⟨_, rfl, by decide +kernel, _, rfl, rfl⟩) (k1 c1 c2)
    ) (fun c2 =>
      Ev.go (pc' := 2) (ls' := [.ref x0, .long x1, ev_unk, .int (x3 + (1 : Int32))]) (st' := []) [.iinc 3 (1), .goto (-24)] (by decide +kernel) rfl <|
      (k2 c1 c2)
    )
  ) (fun c1 =>
    Ev.go (pc' := 30) (ls' := [.ref x0, .long x1, ev_unk, .int x3]) (st' := [.int (-1 : Int32)]) [.iconst (-1)] (by decide +kernel) rfl <|
    Ev.ret (r := (some (.int (-1 : Int32)))) (Or.inl ⟨_, rfl, by decide +kernel, _, rfl, rfl⟩) (k3 c1)
  )
theorem b_St_keyOf_0 {G : ev_G} {d k n : Nat} {h : ev_H} {R : Option Value → ev_H → Prop} {x0 : Nat} {x1 : Int32} {x2 : Int32}
  (k1 : Ev G d k n M_St_keyOf 5 [.ref x0, .int x1, .int x2, .int (0 : Int32), .int (0 : Int32)] [] h R)
  : Ev G d k n M_St_keyOf 0 [.ref x0, .int x1, .int x2, ev_unk, ev_unk] [] h R :=
  Ev.go (pc' := 5) (ls' := [.ref x0, .int x1, .int x2, .int (0 : Int32), .int (0 : Int32)]) (st' := []) [.iconst 0, .istore_n 3, .iconst 0, .istore 4] (by decide +kernel) rfl <|
  k1
theorem b_St_keyOf_5 {G : ev_G} {d k n : Nat} {h : ev_H} {R : Option Value → ev_H → Prop} {x0 : Nat} {x1 : Int32} {x2 : Int32} {x3 : Int32} {x4 : Int32} {f_bits_1 : Int32} {f_parts_2 : Int32} {f_size_3 : Int32} {fv4 : Value} {g5 : Nat → Int32} {j6 : Nat} {g7 : Nat → Int64} {j8 : Nat} {j9 : Nat}
  (a1 : hat h x0 (oC 6 [.int f_bits_1, .int f_parts_2, .ref (x0 + 1), .int f_size_3, .ref (x0 + 2), .ref (x0 + 3), fv4]))
  (a2 : hat h (x0 + 1) (aI 6 g5))
  (a4 : hat h (x0 + 2) (aL 32 g7))
  (i3 : x4 < x2 → ev_ix x4 j6 6)
  (i5 : ¬ x4 < x2 → ev_ix x1 j8 32)
  (i6 : ¬ x4 < x2 → ev_ix x2 j9 6)
  (k1 : x4 < x2 → Ev G d k n M_St_keyOf 5 [.ref x0, .int x1, .int x2, .int (x3 + (g5 j6)), .int (x4 + (1 : Int32))] [] h R)
  (k2 : ¬ x4 < x2 → R (some (.int ((((g7 j8).toUInt64 >>> (x3.toInt64.toUInt64 &&& Int64.toUInt64 63)).toInt64) &&& (((1 : Int64) <<< ((g5 j9).toInt64 &&& 63)) - (1 : Int64))).toInt32)) h)
  : Ev G d k n M_St_keyOf 5 [.ref x0, .int x1, .int x2, .int x3, .int x4] [] h R :=
  Ev.go (pc' := 8) (ls' := [.ref x0, .int x1, .int x2, .int x3, .int x4]) (st' := [.int x2, .int x4]) [.iload 4, .iload_n 2] (by decide +kernel) rfl <|
  Ev.br (i := .if_icmp .ge (19)) (P := x4 < x2) (t := 11) (f := 27) (r := []) (by decide +kernel) rfl (fun c1 =>
    Ev.go (pc' := 13) (ls' := [.ref x0, .int x1, .int x2, .int x3, .int x4]) (st' := [.ref x0, .int x3]) [.iload_n 3, .aload_n 0] (by decide +kernel) rfl <|
    Ev.getf f_St_18 (by decide +kernel) a1 rfl <|
    Ev.go (pc' := 18) (ls' := [.ref x0, .int x1, .int x2, .int x3, .int x4]) (st' := [.int x4, .ref (x0 + 1), .int x3]) [.iload 4] (by decide +kernel) rfl <|
    Ev.iald (j := j6) (by decide +kernel) a2 (i3 c1) <|
    Ev.go (pc' := 5) (ls' := [.ref x0, .int x1, .int x2, .int (x3 + (g5 j6)), .int (x4 + (1 : Int32))]) (st' := []) [.iadd, .istore_n 3, .iinc 4 (1), .goto (-19)] (by decide +kernel) rfl <|
    (k1 c1)
  ) (fun c1 =>
    Ev.go (pc' := 28) (ls' := [.ref x0, .int x1, .int x2, .int x3, .int x4]) (st' := [.ref x0]) [.aload_n 0] (by decide +kernel) rfl <|
    Ev.getf f_St_25 (by decide +kernel) a1 rfl <|
    Ev.go (pc' := 32) (ls' := [.ref x0, .int x1, .int x2, .int x3, .int x4]) (st' := [.int x1, .ref (x0 + 2)]) [.iload_n 1] (by decide +kernel) rfl <|
    Ev.lald (j := j8) (by decide +kernel) a4 (i5 c1) <|
    Ev.go (pc' := 37) (ls' := [.ref x0, .int x1, .int x2, .int x3, .int x4]) (st' := [.ref x0, .long (1 : Int64), .long (((g7 j8).toUInt64 >>> (x3.toInt64.toUInt64 &&& Int64.toUInt64 63)).toInt64)]) [.iload_n 3, .lushr, .lconst 1, .aload_n 0] (by decide +kernel) rfl <|
    Ev.getf f_St_18 (by decide +kernel) a1 rfl <|
    Ev.go (pc' := 41) (ls' := [.ref x0, .int x1, .int x2, .int x3, .int x4]) (st' := [.int x2, .ref (x0 + 1), .long (1 : Int64), .long (((g7 j8).toUInt64 >>> (x3.toInt64.toUInt64 &&& Int64.toUInt64 63)).toInt64)]) [.iload_n 2] (by decide +kernel) rfl <|
    Ev.iald (j := j9) (by decide +kernel) a2 (i6 c1) <|
    Ev.go (pc' := 47) (ls' := [.ref x0, .int x1, .int x2, .int x3, .int x4]) (st' := [.int ((((g7 j8).toUInt64 >>> (x3.toInt64.toUInt64 &&& Int64.toUInt64 63)).toInt64) &&& (((1 : Int64) <<< ((g5 j9).toInt64 &&& 63)) - (1 : Int64))).toInt32]) [.lshl, .lconst 1, .lsub, .land, .l2i] (by decide +kernel) rfl <|
    Ev.ret (r := (some (.int ((((g7 j8).toUInt64 >>> (x3.toInt64.toUInt64 &&& Int64.toUInt64 63)).toInt64) &&& (((1 : Int64) <<< ((g5 j9).toInt64 &&& 63)) - (1 : Int64))).toInt32))) (Or.inl ⟨_, rfl, by decide +kernel, _, rfl, rfl⟩) (k2 c1)
  )
theorem b_St_all_0 {G : ev_G} {d k n : Nat} {h : ev_H} {R : Option Value → ev_H → Prop} {x0 : Nat} {f_bits_1 : Int32} {f_parts_2 : Int32} {f_size_3 : Int32} {fv4 : Value}
  (a1 : hat h x0 (oC 6 [.int f_bits_1, .int f_parts_2, .ref (x0 + 1), .int f_size_3, .ref (x0 + 2), .ref (x0 + 3), fv4]))
  (k1 : f_size_3 = (32 : Int32) → R (some (.int (-1 : Int32))) h)
  (k2 : ¬ f_size_3 = (32 : Int32) → R (some (.int (((1 : Int32) <<< (f_size_3 &&& 31)) - (1 : Int32)))) h)
  : Ev G d k n M_St_all 0 [.ref x0] [] h R :=
  Ev.go (pc' := 1) (ls' := [.ref x0]) (st' := [.ref x0]) [.aload_n 0] (by decide +kernel) rfl <|
  Ev.getf f_St_22 (by decide +kernel) a1 rfl <|
  Ev.go (pc' := 6) (ls' := [.ref x0]) (st' := [.int (32 : Int32), .int f_size_3]) [.bipush (32)] (by decide +kernel) rfl <|
  Ev.br (i := .if_icmp .ne (7)) (P := f_size_3 = (32 : Int32)) (t := 9) (f := 13) (r := []) (by decide +kernel) rfl (fun c1 =>
    Ev.go (pc' := 21) (ls' := [.ref x0]) (st' := [.int (-1 : Int32)]) [.iconst (-1), .goto (11)] (by decide +kernel) rfl <|
    Ev.ret (r := (some (.int (-1 : Int32)))) (Or.inl ⟨_, rfl, by decide +kernel, _, rfl, rfl⟩) (k1 c1)
  ) (fun c1 =>
    Ev.go (pc' := 15) (ls' := [.ref x0]) (st' := [.ref x0, .int (1 : Int32)]) [.iconst 1, .aload_n 0] (by decide +kernel) rfl <|
    Ev.getf f_St_22 (by decide +kernel) a1 rfl <|
    Ev.go (pc' := 21) (ls' := [.ref x0]) (st' := [.int (((1 : Int32) <<< (f_size_3 &&& 31)) - (1 : Int32))]) [.ishl, .iconst 1, .isub] (by decide +kernel) rfl <|
    Ev.ret (r := (some (.int (((1 : Int32) <<< (f_size_3 &&& 31)) - (1 : Int32))))) (Or.inl ⟨_, rfl, by decide +kernel, _, rfl, rfl⟩) (k2 c1)
  )
theorem b_St_onesAt_0 {G : ev_G} {d k n : Nat} {h : ev_H} {R : Option Value → ev_H → Prop} {x0 : Nat} {x1 : Int32} {x2 : Int32}
  (k1 : Ev G (d + 1) k n M_St_onesAt 5 [.ref x0, .int x1, .int x2, .int (0 : Int32), .int (0 : Int32)] [] h R)
  : Ev G (d + 1) k n M_St_onesAt 0 [.ref x0, .int x1, .int x2, ev_unk, ev_unk] [] h R :=
  Ev.go (pc' := 5) (ls' := [.ref x0, .int x1, .int x2, .int (0 : Int32), .int (0 : Int32)]) (st' := []) [.iconst 0, .istore_n 3, .iconst 0, .istore 4] (by decide +kernel) rfl <|
  k1
theorem b_St_onesAt_5 {G : ev_G} {d k n : Nat} {h : ev_H} {R : Option Value → ev_H → Prop} {x0 : Nat} {x1 : Int32} {x2 : Int32} {x3 : Int32} {x4 : Int32} {f_bits_1 : Int32} {f_parts_2 : Int32} {f_size_3 : Int32} {fv4 : Value} {g5 : Nat → Int64} {j6 : Nat}
  (a1 : hat h x0 (oC 6 [.int f_bits_1, .int f_parts_2, .ref (x0 + 1), .int f_size_3, .ref (x0 + 2), .ref (x0 + 3), fv4]))
  (a2 : hat h (x0 + 2) (aL 32 g5))
  (i3 : x4 < f_size_3 → ¬ (b2i (inI x1 x4)) = (0 : Int32) → ev_ix x4 j6 32)
  (k1 : x4 < f_size_3 → (b2i (inI x1 x4)) = (0 : Int32) → Ev G (d + 1) k n M_St_onesAt 5 [.ref x0, .int x1, .int x2, .int x3, .int (x4 + (1 : Int32))] [] h R)
  (k2 : x4 < f_size_3 → ¬ (b2i (inI x1 x4)) = (0 : Int32) → Ev G (d + 1) k n M_St_onesAt 5 [.ref x0, .int x1, .int x2, .int (x3 + (b2i (tbL (g5 j6) x2))), .int (x4 + (1 : Int32))] [] h R)
  (k3 : ¬ x4 < f_size_3 → R (some (.int x3)) h)
  : Ev G (d + 1) k n M_St_onesAt 5 [.ref x0, .int x1, .int x2, .int x3, .int x4] [] h R :=
  Ev.go (pc' := 8) (ls' := [.ref x0, .int x1, .int x2, .int x3, .int x4]) (st' := [.ref x0, .int x4]) [.iload 4, .aload_n 0] (by decide +kernel) rfl <|
  Ev.getf f_St_22 (by decide +kernel) a1 rfl <|
  Ev.br (i := .if_icmp .ge (32)) (P := x4 < f_size_3) (t := 14) (f := 43) (r := []) (by decide +kernel) rfl (fun c1 =>
    Ev.go (pc' := 17) (ls' := [.ref x0, .int x1, .int x2, .int x3, .int x4]) (st' := [.int x4, .int x1]) [.iload_n 1, .iload 4] (by decide +kernel) rfl <|
    Ev.cSN0 (M' := M_X_isIn) (as := [.int x1, .int x4]) (rest := []) l_St_65 M_X_isIn_ok M_X_isIn_st (by decide +kernel) rfl rfl (Nat.le_of_ble_eq_true rfl) (Nat.le_of_ble_eq_true rfl) (s_X_isIn <| show Ev G (d + 1) _ _ M_St_onesAt 20 [.ref x0, .int x1, .int x2, .int x3, .int x4] [.int (b2i (inI x1 x4))] h R from
      Ev.br (i := .ifCond .eq (17)) (P := (b2i (inI x1 x4)) = (0 : Int32)) (t := 37) (f := 23) (r := []) (by decide +kernel) rfl (fun c2 =>
        Ev.go (pc' := 5) (ls' := [.ref x0, .int x1, .int x2, .int x3, .int (x4 + (1 : Int32))]) (st' := []) [.iinc 4 (1), .goto (-35)] (by decide +kernel) rfl <|
        (k1 c1 c2)
      ) (fun c2 =>
        Ev.go (pc' := 25) (ls' := [.ref x0, .int x1, .int x2, .int x3, .int x4]) (st' := [.ref x0, .int x3]) [.iload_n 3, .aload_n 0] (by decide +kernel) rfl <|
        Ev.getf f_St_25 (by decide +kernel) a1 rfl <|
        Ev.go (pc' := 30) (ls' := [.ref x0, .int x1, .int x2, .int x3, .int x4]) (st' := [.int x4, .ref (x0 + 2), .int x3]) [.iload 4] (by decide +kernel) rfl <|
        Ev.lald (j := j6) (by decide +kernel) a2 (i3 c1 c2) <|
        Ev.go (pc' := 32) (ls' := [.ref x0, .int x1, .int x2, .int x3, .int x4]) (st' := [.int x2, .long (g5 j6), .int x3]) [.iload_n 2] (by decide +kernel) rfl <|
        Ev.cSN0 (M' := M_X_bitOf) (as := [.long (g5 j6), .int x2]) (rest := [.int x3]) l_St_45 M_X_bitOf_ok M_X_bitOf_st (by decide +kernel) rfl rfl (Nat.le_of_ble_eq_true rfl) (Nat.le_of_ble_eq_true rfl) (s_X_bitOf <| show Ev G (d + 1) _ _ M_St_onesAt 35 [.ref x0, .int x1, .int x2, .int x3, .int x4] [.int (b2i (tbL (g5 j6) x2)), .int x3] h R from
          Ev.go (pc' := 5) (ls' := [.ref x0, .int x1, .int x2, .int (x3 + (b2i (tbL (g5 j6) x2))), .int (x4 + (1 : Int32))]) (st' := []) [.iadd, .istore_n 3, .iinc 4 (1), .goto (-35)] (by decide +kernel) rfl <|
          (k2 c1 c2)
        )
      )
    )
  ) (fun c1 =>
    Ev.go (pc' := 44) (ls' := [.ref x0, .int x1, .int x2, .int x3, .int x4]) (st' := [.int x3]) [.iload_n 3] (by decide +kernel) rfl <|
    Ev.ret (r := (some (.int x3))) (Or.inl ⟨_, rfl, by decide +kernel, _, rfl, rfl⟩) (k3 c1)
  )
theorem b_St_farFromAll_0 {G : ev_G} {d k n : Nat} {h : ev_H} {R : Option Value → ev_H → Prop} {x0 : Nat} {x1 : Int32} {x2 : Int64}
  (k1 : Ev G (d + 2) k n M_St_farFromAll 6 [.ref x0, .int x1, .long x2, ev_unk, .int (0 : Int32), .int (0 : Int32)] [] h R)
  : Ev G (d + 2) k n M_St_farFromAll 0 [.ref x0, .int x1, .long x2, ev_unk, ev_unk, ev_unk] [] h R :=
  Ev.go (pc' := 6) (ls' := [.ref x0, .int x1, .long x2, ev_unk, .int (0 : Int32), .int (0 : Int32)]) (st' := []) [.iconst 0, .istore 4, .iconst 0, .istore 5] (by decide +kernel) rfl <|
  k1
theorem b_St_farFromAll_6 {G : ev_G} {d k n : Nat} {h : ev_H} {R : Option Value → ev_H → Prop} {x0 : Nat} {x1 : Int32} {x2 : Int64} {x4 : Int32} {x5 : Int32} {f_bits_1 : Int32} {f_parts_2 : Int32} {f_size_3 : Int32} {fv4 : Value} {g5 : Nat → Int64} {j6 : Nat}
  (a1 : hat h x0 (oC 6 [.int f_bits_1, .int f_parts_2, .ref (x0 + 1), .int f_size_3, .ref (x0 + 2), .ref (x0 + 3), fv4]))
  (a2 : hat h (x0 + 2) (aL 32 g5))
  (i3 : x5 < f_size_3 → ¬ (b2i (inI x1 x5)) = (0 : Int32) → ev_ix x5 j6 32)
  (k1 : x5 < f_size_3 → (b2i (inI x1 x5)) = (0 : Int32) → Ev G (d + 2) k n M_St_farFromAll 6 [.ref x0, .int x1, .long x2, ev_unk, .int x4, .int (x5 + (1 : Int32))] [] h R)
  (k2 : x5 < f_size_3 → ¬ (b2i (inI x1 x5)) = (0 : Int32) → Ev G (d + 2) k n M_St_farFromAll 6 [.ref x0, .int x1, .long x2, ev_unk, .int (x4 + (nI (pop ((g5 j6) ^^^ x2)))), .int (x5 + (1 : Int32))] [] h R)
  (k3 : ¬ x5 < f_size_3 → R (some (.int x4)) h)
  : Ev G (d + 2) k n M_St_farFromAll 6 [.ref x0, .int x1, .long x2, ev_unk, .int x4, .int x5] [] h R :=
  Ev.go (pc' := 9) (ls' := [.ref x0, .int x1, .long x2, ev_unk, .int x4, .int x5]) (st' := [.ref x0, .int x5]) [.iload 5, .aload_n 0] (by decide +kernel) rfl <|
  Ev.getf f_St_22 (by decide +kernel) a1 rfl <|
  Ev.br (i := .if_icmp .ge (34)) (P := x5 < f_size_3) (t := 15) (f := 46) (r := []) (by decide +kernel) rfl (fun c1 =>
    Ev.go (pc' := 18) (ls' := [.ref x0, .int x1, .long x2, ev_unk, .int x4, .int x5]) (st' := [.int x5, .int x1]) [.iload_n 1, .iload 5] (by decide +kernel) rfl <|
    Ev.cSN0 (M' := M_X_isIn) (as := [.int x1, .int x5]) (rest := []) l_St_65 M_X_isIn_ok M_X_isIn_st (by decide +kernel) rfl rfl (Nat.le_of_ble_eq_true rfl) (Nat.le_of_ble_eq_true rfl) (s_X_isIn <| show Ev G (d + 2) _ _ M_St_farFromAll 21 [.ref x0, .int x1, .long x2, ev_unk, .int x4, .int x5] [.int (b2i (inI x1 x5))] h R from
      Ev.br (i := .ifCond .eq (19)) (P := (b2i (inI x1 x5)) = (0 : Int32)) (t := 40) (f := 24) (r := []) (by decide +kernel) rfl (fun c2 =>
        Ev.go (pc' := 6) (ls' := [.ref x0, .int x1, .long x2, ev_unk, .int x4, .int (x5 + (1 : Int32))]) (st' := []) [.iinc 5 (1), .goto (-37)] (by decide +kernel) rfl <|
        (k1 c1 c2)
      ) (fun c2 =>
        Ev.go (pc' := 27) (ls' := [.ref x0, .int x1, .long x2, ev_unk, .int x4, .int x5]) (st' := [.ref x0, .int x4]) [.iload 4, .aload_n 0] (by decide +kernel) rfl <|
        Ev.getf f_St_25 (by decide +kernel) a1 rfl <|
        Ev.go (pc' := 32) (ls' := [.ref x0, .int x1, .long x2, ev_unk, .int x4, .int x5]) (st' := [.int x5, .ref (x0 + 2), .int x4]) [.iload 5] (by decide +kernel) rfl <|
        Ev.lald (j := j6) (by decide +kernel) a2 (i3 c1 c2) <|
        Ev.go (pc' := 34) (ls' := [.ref x0, .int x1, .long x2, ev_unk, .int x4, .int x5]) (st' := [.long x2, .long (g5 j6), .int x4]) [.lload_n 2] (by decide +kernel) rfl <|
        Ev.cSN0 (M' := M_X_unlike) (as := [.long (g5 j6), .long x2]) (rest := [.int x4]) l_St_69 M_X_unlike_ok M_X_unlike_st (by decide +kernel) rfl rfl (Nat.le_of_ble_eq_true rfl) (Nat.le_of_ble_eq_true rfl) (s_X_unlike <| show Ev G (d + 2) _ _ M_St_farFromAll 37 [.ref x0, .int x1, .long x2, ev_unk, .int x4, .int x5] [.int (nI (pop ((g5 j6) ^^^ x2))), .int x4] h R from
          Ev.go (pc' := 6) (ls' := [.ref x0, .int x1, .long x2, ev_unk, .int (x4 + (nI (pop ((g5 j6) ^^^ x2)))), .int (x5 + (1 : Int32))]) (st' := []) [.iadd, .istore 4, .iinc 5 (1), .goto (-37)] (by decide +kernel) rfl <|
          (k2 c1 c2)
        )
      )
    )
  ) (fun c1 =>
    Ev.go (pc' := 48) (ls' := [.ref x0, .int x1, .long x2, ev_unk, .int x4, .int x5]) (st' := [.int x4]) [.iload 4] (by decide +kernel) rfl <|
    Ev.ret (r := (some (.int x4))) (Or.inl ⟨_, rfl, by decide +kernel, _, rfl, rfl⟩) (k3 c1)
  )
section S14
variable {G : ev_G} {d : Nat} {h : ev_H} {R : Option Value → ev_H → Prop} {a : Nat} {S : AS}
/-- near: counted in p, no more than r far -/
def nrP (S : AS) (p : Nat → Bool) (num : Int64) (r : Nat) (j : Nat) : Bool := decide (j < sN S) && p j && decide (pop (sCo S j ^^^ num) ≤ r)
theorem s_St_within (hS : StR h a S) (ok : sOk S) {set : Int32} {num : Int64} {r : Nat} (hr : r < 2147483648) (hR : R (some (.int (setI (nrP S (bt set) num r)))) h) : Ev G (d + 2) 0 0 M_St_within 0 [.ref a, .int set, .long num, ev_unk, .int (nI r), ev_unk, ev_unk] [] h R := by
  obtain ⟨brf, tgf, cof, fv, h1, h2, h3, h4, e1, e2, -⟩ := hS
  have hz := ok.2.2.2.2.1
  have key : ∀ i, i < sN S → nrP S (bt set) num r i = (bt set i && decide (pop (cof i ^^^ num) ≤ r)) := fun i hi => by unfold nrP; rw [decide_eq_true hi, Bool.true_and, (e2 i hi).1]
  refine b_St_within_0 ?_
  have := up0 (P := fun i => Ev G (d + 2) 0 0 M_St_within 6 [.ref a, .int set, .long num, ev_unk, .int (nI r), .int (setI (fun j => decide (j < i) && nrP S (bt set) num r j)), .int (nI i)] [] h R) (sN S) ?_ ?_
  · rw [setI_lt0] at this
    exact this
  · intro i hi ih
    have hl : nI i < nI (sN S) := nI_lt hi (by omega)
    refine b_St_within_6 h1 h3 (fun _ _ => ixn (by omega) (by decide)) (fun _ c => ?_) (fun _ c c2 => ?_) (fun _ c c2 => ?_) (fun c => absurd hl c)
    · rw [inI_n (by omega)] at c
      rw [nI_1, setI_skip _ (by rw [key i hi, b2i_e0 c]; rfl)]; exact ih
    · have := (nI_ltI (by omega) (by have := pop_le (cof i ^^^ num); omega)).mp c2
      rw [nI_1, setI_skip _ (by rw [key i hi, decide_eq_false (by omega), Bool.and_false])]; exact ih
    · rw [inI_n (by omega)] at c
      have : ¬ r < pop (cof i ^^^ num) := fun q => c2 (nI_lt q (by have := pop_le (cof i ^^^ num); omega))
      rw [nI_1, setI_add _ (by omega) (by rw [key i hi, b2i_n0 c, decide_eq_true (by omega)]; rfl)]; exact ih
  · refine b_St_within_6 h1 h3 (j6 := 0) (fun c => absurd c (nI_nlt (Nat.le_refl _) (by omega))) (fun c => absurd c (nI_nlt (Nat.le_refl _) (by omega))) (fun c => absurd c (nI_nlt (Nat.le_refl _) (by omega))) (fun c => absurd c (nI_nlt (Nat.le_refl _) (by omega))) (fun _ => ?_)
    rw [show setI (fun j => decide (j < sN S) && nrP S (bt set) num r j) = setI (nrP S (bt set) num r) from setI_congr fun j _ => by unfold nrP; by_cases q : j < sN S <;> simp [q]]
    exact hR
/-- where a number is -/
def whP (S : AS) (num : Int64) (j : Nat) : Bool := decide (sCo S j = num)
theorem s_St_whereIs (hS : StR h a S) (ok : sOk S) {num : Int64} (hR : R (some (.int (frI (whP S num) (sN S)))) h) : Ev G d 0 0 M_St_whereIs 0 [.ref a, .long num, ev_unk, ev_unk] [] h R := by
  obtain ⟨brf, tgf, cof, fv, h1, h2, h3, h4, e1, e2, -⟩ := hS
  have hz := ok.2.2.2.2.1
  refine b_St_whereIs_0 ?_
  have := up0 (P := fun i => (∀ j, j < i → whP S num j = false) → Ev G d 0 0 M_St_whereIs 2 [.ref a, .long num, ev_unk, .int (nI i)] [] h R) (sN S) ?_ ?_
  · exact this (fun j hj => by omega)
  · intro i hi ih hn
    have hl : nI i < nI (sN S) := nI_lt hi (by omega)
    have key : whP S num i = decide (cof i = num) := by unfold whP; rw [(e2 i hi).1]
    refine b_St_whereIs_2 h1 h3 (fun _ => ixn (by omega) (by decide)) (fun _ c => ?_) (fun _ c => ?_) (fun c => absurd hl c)
    · rw [frI, fst_eq hi (by rw [key, decide_eq_true c]) hn, if_pos hi] at hR; exact hR
    · rw [nI_1]
      refine ih fun j hj => ?_
      by_cases e : j = i
      · subst e; rw [key, decide_eq_false c]
      · exact hn j (by omega)
  · intro hn
    refine b_St_whereIs_2 h1 h3 (j6 := 0) (fun c => absurd c (nl_self (by omega))) (fun c => absurd c (nl_self (by omega))) (fun c => absurd c (nl_self (by omega))) (fun _ => ?_)
    rw [frI, fst_none hn, if_neg (Nat.lt_irrefl _)] at hR; exact hR
/-- where a part begins -/
def stt (S : AS) (p : Nat) : Nat := sumT (sBr S) p
/-- what of a number lies there -/
def keyN (x : Int64) (st br : Nat) : Nat := x.toBitVec.toNat / 2 ^ st % 2 ^ br
theorem keyN_lt (x : Int64) (st br : Nat) : keyN x st br < 2 ^ br := Nat.mod_lt _ (Nat.two_pow_pos _)
theorem lN_toNat (x : Int64) : lN x.toBitVec.toNat = x := Int64.toBitVec_inj.1 (by show BitVec.ofNat 64 x.toBitVec.toNat = _; simp)
theorem l_shN (n : Nat) {k : Nat} (hk : k < 64) : lN n <<< ((nI k).toInt64 &&& 63) = lN (n * 2 ^ k) := by
  apply l_ext
  intro j hj
  rw [l_shl k hk _ hj]
  show _ = (BitVec.ofNat 64 (n * 2 ^ k)).getLsbD j
  rw [BitVec.getLsbD_ofNat, decide_eq_true hj, Bool.true_and, Nat.mul_comm, Nat.testBit_two_pow_mul]
  by_cases q : k ≤ j
  · rw [decide_eq_true q, Bool.true_and, Bool.true_and]
    show (BitVec.ofNat 64 n).getLsbD (j - k) = _
    rw [BitVec.getLsbD_ofNat, decide_eq_true (by omega), Bool.true_and]
  · simp [q]
theorem key_eq (x : Int64) {st br : Nat} (hs : st < 64) (hb : br ≤ 31) : ((x.toUInt64 >>> ((nI st).toInt64.toUInt64 &&& Int64.toUInt64 63)).toInt64 &&& ((1 : Int64) <<< ((nI br).toInt64 &&& 63) - (1 : Int64))) = lN (keyN x st br) := by
  have h1 : (1 : Int64) <<< ((nI br).toInt64 &&& 63) = lN (2 ^ br) := by
    have := l_shN 1 (show br < 64 by omega); rw [Nat.one_mul] at this; exact this
  have h2 : lN (2 ^ br) - (1 : Int64) = lN (2 ^ br - 1) := lN_sub (Nat.two_pow_pos br)
  have h3 := l_us x.toBitVec.toNat (nI st) st hs rfl x.toBitVec.isLt
  rw [lN_toNat] at h3
  rw [h1, h2, h3, l_andN _ _ (Nat.lt_of_le_of_lt (Nat.div_le_self _ _) x.toBitVec.isLt), Nat.and_two_pow_sub_one_eq_mod]
  rfl
theorem stt_le (ok : sOk S) {p : Nat} (hp : p ≤ sP S) : stt S p ≤ 48 := Nat.le_trans (sumT_mono _ hp) (by rw [ok.2.2.2.2.2.2.2]; exact ok.2.1)
theorem s_St_keyOf (hS : StR h a S) (ok : sOk S) {c p : Nat} (hc : c < sN S) (hp : p < sP S) (hR : R (some (.int (nI (keyN (sCo S c) (stt S p) (sBr S p))))) h) : Ev G d 0 0 M_St_keyOf 0 [.ref a, .int (nI c), .int (nI p), ev_unk, ev_unk] [] h R := by
  obtain ⟨brf, tgf, cof, fv, h1, h2, h3, h4, e1, e2, -⟩ := hS
  have hz := ok.2.2.2.2.1
  have hz2 := ok.2.2.2.1
  refine b_St_keyOf_0 ?_
  have := up0 (P := fun i => Ev G d 0 0 M_St_keyOf 5 [.ref a, .int (nI c), .int (nI p), .int (nI (stt S i)), .int (nI i)] [] h R) p ?_ ?_
  · exact this
  · intro i hi ih
    have hl : nI i < nI p := nI_lt hi (by omega)
    refine b_St_keyOf_5 h1 h2 h3 (fun _ => ixn (by omega) (by decide)) (j8 := 0) (j9 := 0) (fun c => absurd hl c) (fun c => absurd hl c) (fun _ => ?_) (fun c => absurd hl c)
    rw [e1 i (by omega), nI_add, nI_1]; exact ih
  · refine b_St_keyOf_5 h1 h2 h3 (j6 := 0) (fun c => absurd c (nl_self (by omega))) (fun _ => ixn (by omega) (by decide)) (fun _ => ixn (by omega) (by decide)) (fun c => absurd c (nl_self (by omega))) (fun _ => ?_)
    have := stt_le ok (Nat.le_of_lt hp)
    rw [(e2 c hc).1, e1 p hp, key_eq _ (by omega) (by have := ok.2.2.2.2.2.1 p hp; omega), lN_i]
    exact hR
def allP (S : AS) (j : Nat) : Bool := decide (j < sN S)
theorem all_eq {n : Nat} (hn : n < 32) : (1 : Int32) <<< (nI n &&& 31) - 1 = setI (fun j => decide (j < n)) := (by decide +kernel : ∀ n, n < 32 → (1 : Int32) <<< (nI n &&& 31) - 1 = setI (fun j => decide (j < n))) n hn
theorem s_St_all (hS : StR h a S) (ok : sOk S) (hR : R (some (.int (setI (allP S)))) h) : Ev G d 0 0 M_St_all 0 [.ref a] [] h R := by
  obtain ⟨brf, tgf, cof, fv, h1, -⟩ := hS
  have hz := ok.2.2.2.2.1
  refine b_St_all_0 h1 (fun c => ?_) (fun c => ?_)
  · have : sN S = 32 := (nI_eq (by omega) (by omega)).mp c
    rw [show setI (allP S) = -1 by unfold allP; rw [this]; decide +kernel] at hR; exact hR
  · have : sN S ≠ 32 := fun q => c (by rw [q]; rfl)
    rw [all_eq (by omega)]; exact hR
theorem s_St_onesAt (hS : StR h a S) (ok : sOk S) {set : Int32} {b : Nat} (hb : b < 64) (hR : R (some (.int (nI (cnt (fun j => bt set j && lt (sCo S j) b) (sN S))))) h) : Ev G (d + 1) 0 0 M_St_onesAt 0 [.ref a, .int set, .int (nI b), ev_unk, ev_unk] [] h R := by
  obtain ⟨brf, tgf, cof, fv, h1, h2, h3, h4, e1, e2, -⟩ := hS
  have hz := ok.2.2.2.2.1
  refine b_St_onesAt_0 ?_
  have := up0 (P := fun i => Ev G (d + 1) 0 0 M_St_onesAt 5 [.ref a, .int set, .int (nI b), .int (nI (cnt (fun j => bt set j && lt (sCo S j) b) i)), .int (nI i)] [] h R) (sN S) ?_ ?_
  · exact this
  · intro i hi ih
    have hl : nI i < nI (sN S) := nI_lt hi (by omega)
    have st : cnt (fun j => bt set j && lt (sCo S j) b) (i + 1) = cnt (fun j => bt set j && lt (sCo S j) b) i + if bt set i && lt (sCo S i) b then 1 else 0 := rfl
    refine b_St_onesAt_5 h1 h3 (fun _ _ => ixn (by omega) (by decide)) (fun _ c => ?_) (fun _ c => ?_) (fun c => absurd hl c)
    · rw [inI_n (by omega)] at c
      rw [st, b2i_e0 c] at ih
      rw [nI_1]; exact ih
    · rw [inI_n (by omega)] at c
      rw [st, b2i_n0 c] at ih
      rw [nI_1, (e2 i hi).1, tbL_n hb]
      cases q : lt (sCo S i) b <;> rw [q] at ih
      · rw [show nI (cnt (fun j => bt set j && lt (sCo S j) b) i) + b2i false = nI (cnt (fun j => bt set j && lt (sCo S j) b) i + 0) from nI_add _ 0]; exact ih
      · rw [show nI (cnt (fun j => bt set j && lt (sCo S j) b) i) + b2i true = nI (cnt (fun j => bt set j && lt (sCo S j) b) i + 1) from nI_add _ 1]; exact ih
  · exact b_St_onesAt_5 h1 h3 (j6 := 0) (fun c => absurd c (nl_self (by omega))) (fun c => absurd c (nl_self (by omega))) (fun c => absurd c (nl_self (by omega))) (fun _ => hR)
theorem s_St_farFromAll (hS : StR h a S) (ok : sOk S) {set : Int32} {num : Int64} (hR : R (some (.int (nI (sumT (fun j => if bt set j then pop (sCo S j ^^^ num) else 0) (sN S))))) h) : Ev G (d + 2) 0 0 M_St_farFromAll 0 [.ref a, .int set, .long num, ev_unk, ev_unk, ev_unk] [] h R := by
  obtain ⟨brf, tgf, cof, fv, h1, h2, h3, h4, e1, e2, -⟩ := hS
  have hz := ok.2.2.2.2.1
  refine b_St_farFromAll_0 ?_
  have := up0 (P := fun i => Ev G (d + 2) 0 0 M_St_farFromAll 6 [.ref a, .int set, .long num, ev_unk, .int (nI (sumT (fun j => if bt set j then pop (sCo S j ^^^ num) else 0) i)), .int (nI i)] [] h R) (sN S) ?_ ?_
  · exact this
  · intro i hi ih
    have hl : nI i < nI (sN S) := nI_lt hi (by omega)
    have st : sumT (fun j => if bt set j then pop (sCo S j ^^^ num) else 0) (i + 1) = sumT (fun j => if bt set j then pop (sCo S j ^^^ num) else 0) i + if bt set i then pop (sCo S i ^^^ num) else 0 := rfl
    refine b_St_farFromAll_6 h1 h3 (fun _ _ => ixn (by omega) (by decide)) (fun _ c => ?_) (fun _ c => ?_) (fun c => absurd hl c)
    · rw [inI_n (by omega)] at c
      rw [st, b2i_e0 c] at ih
      rw [nI_1]; exact ih
    · rw [inI_n (by omega)] at c
      rw [st, b2i_n0 c] at ih
      rw [nI_1, (e2 i hi).1, nI_add]; exact ih
  · exact b_St_farFromAll_6 h1 h3 (j6 := 0) (fun c => absurd c (nl_self (by omega))) (fun c => absurd c (nl_self (by omega))) (fun c => absurd c (nl_self (by omega))) (fun _ => hR)
theorem s_St_keyOf' {cI pI : Int32} {c p : Nat} (hS : StR h a S) (ok : sOk S) (hc : cI = nI c ∧ c < sN S) (hp : pI = nI p ∧ p < sP S) (hR : R (some (.int (nI (keyN (sCo S c) (stt S p) (sBr S p))))) h) : Ev G d 0 0 M_St_keyOf 0 [.ref a, .int cI, .int pI, ev_unk, ev_unk] [] h R := by
  obtain ⟨rfl, hc⟩ := hc; obtain ⟨rfl, hp⟩ := hp; exact s_St_keyOf hS ok hc hp hR
theorem s_St_onesAt' {bI : Int32} {b : Nat} {set : Int32} (hS : StR h a S) (ok : sOk S) (hb : bI = nI b ∧ b < 64) (hR : R (some (.int (nI (cnt (fun j => bt set j && lt (sCo S j) b) (sN S))))) h) : Ev G (d + 1) 0 0 M_St_onesAt 0 [.ref a, .int set, .int bI, ev_unk, ev_unk] [] h R := by
  obtain ⟨rfl, hb⟩ := hb; exact s_St_onesAt hS ok hb hR
theorem s_St_within' {rI : Int32} {r : Nat} {set : Int32} {num : Int64} (hS : StR h a S) (ok : sOk S) (hr : rI = nI r ∧ r < 2147483648) (hR : R (some (.int (setI (nrP S (bt set) num r)))) h) : Ev G (d + 2) 0 0 M_St_within 0 [.ref a, .int set, .long num, ev_unk, .int rI, ev_unk, ev_unk] [] h R := by
  obtain ⟨rfl, hr⟩ := hr; exact s_St_within hS ok hr hR
end S14
end
section
/-! FILTERS -/
/-- the value of a step, for a code -/
def vlN (S : AS) (c : Nat) (s : AStp) : Nat := if s.1 = 3 then pop (sCo S c) else if s.1 = 4 then sTg S c else if s.1 = 5 then c else if s.1 = 6 then (if lt (sCo S c) s.2.2.1 then 1 else 0) else if s.1 = 7 then (if s.2.2.1 < sP S then keyN (sCo S c) (stt S s.2.2.1) (sBr S s.2.2.1) else 0) else pop (sCo S c ^^^ s.2.2.2.2)
def fcB (S : AS) (c : Nat) (s : AStp) : Bool := if s.2.1 = 60 then decide (vlN S c s < s.2.2.2.1) else if s.2.1 = 61 then decide (vlN S c s = s.2.2.2.1) else decide (s.2.2.2.1 < vlN S c s)
def stp1 (S : AS) (c : Nat) (s : AStp) (st : List Bool) : List Bool := if s.1 = 0 then (match st with
    | b :: r => (!b) :: r
    | [] => []) else if s.1 = 1 then (match st with
    | y :: x :: r => (x && y) :: r
    | r => r) else if s.1 = 2 then (match st with
    | y :: x :: r => (x || y) :: r
    | r => r) else fcB S c s :: st
def evP (S : AS) (c : Nat) (fl : List AStp) : Nat → List Bool
  | 0 => []
  | i + 1 => match fl[i]? with
    | some s => stp1 S c s (evP S c fl i)
    | none => evP S c fl i
def dp1 (s : AStp) (d : Nat) : Nat := if s.1 = 0 then d else if s.1 = 1 then d - 1 else if s.1 = 2 then d - 1 else d + 1
def dpP (fl : List AStp) : Nat → Nat
  | 0 => 0
  | i + 1 => match fl[i]? with
    | some s => dp1 s (dpP fl i)
    | none => dpP fl i
def stpOk (s : AStp) : Prop := s.1 ≤ 8 ∧ s.2.1 < 100 ∧ s.2.2.1 < 48 ∧ s.2.2.2.1 < 100000000
/-- steps that make one answer, at most 30 waiting -/
def flOk (fl : List AStp) : Prop := fl.length ≤ 300 ∧ (∀ i s, fl[i]? = some s → stpOk s ∧ (s.1 = 0 → 1 ≤ dpP fl i) ∧ ((s.1 = 1 ∨ s.1 = 2) → 2 ≤ dpP fl i) ∧ dpP fl i ≤ 30) ∧ dpP fl fl.length = 1
def holdsB (S : AS) (c : Nat) : Bool := (evP S c (sFl S) (sFl S).length).headD false
/-- which codes count -/
def ctP (S : AS) (j : Nat) : Bool := decide (j < sN S) && ((sFl S).isEmpty || holdsB S j)
theorem evP_len (S : AS) (c : Nat) {fl : List AStp} (ok : flOk fl) : ∀ i, i ≤ fl.length → (evP S c fl i).length = dpP fl i
  | 0, _ => rfl
  | i + 1, hi => by
    have ih := evP_len S c ok i (by omega)
    have hg : fl[i]? = some fl[i] := List.getElem?_eq_getElem (by omega)
    obtain ⟨-, q0, q1, -⟩ := ok.2.1 i _ hg
    show (match fl[i]? with
      | some s => stp1 S c s (evP S c fl i)
      | none => evP S c fl i).length = match fl[i]? with
      | some s => dp1 s (dpP fl i)
      | none => dpP fl i
    rw [hg]
    show (stp1 S c fl[i] (evP S c fl i)).length = dp1 fl[i] (dpP fl i)
    rw [← ih] at q0 q1 ⊢
    unfold stp1 dp1
    by_cases e0 : fl[i].1 = 0
    · rw [if_pos e0, if_pos e0]; split <;> simp_all
    · by_cases e1 : fl[i].1 = 1
      · rw [if_neg e0, if_neg e0, if_pos e1, if_pos e1]
        have := q1 (Or.inl e1)
        match h : evP S c fl i, this with
        | y :: x :: r, _ => simp
      · by_cases e2 : fl[i].1 = 2
        · rw [if_neg e0, if_neg e0, if_neg e1, if_neg e1, if_pos e2, if_pos e2]
          have := q1 (Or.inr e2)
          match h : evP S c fl i, this with
          | y :: x :: r, _ => simp
        · rw [if_neg e0, if_neg e0, if_neg e1, if_neg e1, if_neg e2, if_neg e2]; simp
/-- a stack of answers as the bits of an int -/
def stI (l : List Bool) : Int32 := setI (fun j => l.getD j false)
theorem bt_stI (l : List Bool) (j : Nat) : bt (stI l) j = (decide (j < 32) && l.getD j false) := bt_setI _ j
theorem stI_nil : stI [] = 0 := by decide +kernel
theorem stI_top (b : Bool) (r : List Bool) : stI (b :: r) &&& 1 = b2i b := by
  apply b_ext; intro j hj
  rw [b_and, bt_stI, bit1I j hj, decide_eq_true hj, Bool.true_and]
  cases j with
  | zero => cases b <;> simp <;> decide
  | succ j => cases b <;> simp [b2i, b_0, bit1I _ hj]
theorem stI_not (b : Bool) (r : List Bool) : stI (b :: r) ^^^ 1 = stI ((!b) :: r) := by
  apply b_ext; intro j hj
  rw [b_xor, bt_stI, bt_stI, bit1I j hj, decide_eq_true hj]
  cases j with
  | zero => cases b <;> rfl
  | succ j => simp
theorem stI_rest (b : Bool) {r : List Bool} (hr : r.length ≤ 31) : ((stI (b :: r)).toUInt32 >>> ((1 : Int32).toUInt32 &&& Int32.toUInt32 31)).toInt32 = stI r := by
  apply b_ext; intro j hj
  have := b_ushr 1 (by decide) (stI (b :: r)) j
  rw [show nI 1 = (1 : Int32) from rfl] at this
  rw [this, bt_stI, bt_stI, decide_eq_true hj, Nat.add_comm]
  by_cases q : j + 1 < 32
  · simp [q]
  · have e : j = 31 := by omega
    subst e
    have : r[31]? = none := List.getElem?_eq_none hr
    simp [List.getD, this]
theorem stI_and0 (x : Bool) (r : List Bool) : stI (x :: r) &&& (-2) = stI (false :: r) := by
  apply b_ext; intro j hj
  rw [b_and, bt_stI, bt_stI, decide_eq_true hj]
  have : bt (-2) j = !decide (j = 0) := (by decide +kernel : ∀ j, j < 32 → bt (-2) j = !decide (j = 0)) j hj
  rw [this]
  cases j with
  | zero => simp
  | succ j => simp
theorem stI_or (x b : Bool) (r : List Bool) : stI (x :: r) ||| b2i b = stI ((x || b) :: r) := by
  apply b_ext; intro j hj
  rw [b_or, bt_stI, bt_stI, decide_eq_true hj]
  cases j with
  | zero => cases x <;> cases b <;> simp [b2i, b_0, bit1I _ hj]
  | succ j => cases b <;> simp [b2i, b_0, bit1I _ hj]
theorem stI_push (b : Bool) {l : List Bool} (hl : l.length ≤ 31) : stI l <<< ((1 : Int32) &&& 31) ||| (if b then 1 else 0) = stI (b :: l) := by
  apply b_ext; intro j hj
  have := b_shl 1 (by decide) (stI l) hj
  rw [show nI 1 = (1 : Int32) from rfl] at this
  rw [b_or, this, bt_stI, bt_stI, decide_eq_true hj]
  cases j with
  | zero => cases b <;> simp [b_0] <;> decide
  | succ j => cases b <;> simp [b_0, bit1I _ hj] <;> intros <;> omega
theorem b_Fi_valueOf_0 {G : ev_G} {d k n : Nat} {h : ev_H} {R : Option Value → ev_H → Prop} {x0 : Nat} {x1 : Nat} {x2 : Int32} {x3 : Int32} {N1 : Nat} {g2 : Nat → Int32} {j3 : Nat} {N4 : Nat} {g5 : Nat → Int32} {f_bits_6 : Int32} {f_parts_7 : Int32} {f_size_8 : Int32} {fv9 : Value} {g10 : Nat → Int64} {j11 : Nat} {g12 : Nat → Int32} {S13 : AS} {c_14 : Nat} {p_15 : Nat} {N16 : Nat} {g17 : Nat → Int64}
  (a1 : hat h x0 (oC 1 [.ref (x0 + 1), .ref (x0 + 2), .ref (x0 + 3), .ref (x0 + 4), .ref (x0 + 5)]))
  (a2 : hat h (x0 + 3) (aI N1 g2))
  (a4 : hat h (x0 + 1) (aI N4 g5))
  (a6 : hat h x1 (oC 6 [.int f_bits_6, .int f_parts_7, .ref (x1 + 1), .int f_size_8, .ref (x1 + 2), .ref (x1 + 3), fv9]))
  (a7 : hat h (x1 + 2) (aL 32 g10))
  (a9 : hat h (x1 + 3) (aI 32 g12))
  (a17 : hat h (x0 + 5) (aL N16 g17))
  (i3 : ev_ix x3 j3 N1)
  (i5 : ev_ix x3 j3 N4)
  (i8 : (g5 j3) = (3 : Int32) → ev_ix x2 j11 32)
  (i10 : (g5 j3) = (4 : Int32) → ev_ix x2 j11 32)
  (i11 : (g5 j3) = (6 : Int32) → ev_ix x2 j11 32)
  (pr12 : (g5 j3) = (7 : Int32) → (g2 j3) < f_parts_7 → StR h x1 S13)
  (pr13 : (g5 j3) = (7 : Int32) → (g2 j3) < f_parts_7 → sOk S13)
  (pr14 : (g5 j3) = (7 : Int32) → (g2 j3) < f_parts_7 → x2 = nI c_14 ∧ c_14 < sN S13)
  (pr15 : (g5 j3) = (7 : Int32) → (g2 j3) < f_parts_7 → (g2 j3) = nI p_15 ∧ p_15 < sP S13)
  (i16 : ¬ (g5 j3) = (3 : Int32) → ¬ (g5 j3) = (4 : Int32) → ¬ (g5 j3) = (5 : Int32) → ¬ (g5 j3) = (6 : Int32) → ¬ (g5 j3) = (7 : Int32) → ev_ix x2 j11 32)
  (i18 : ¬ (g5 j3) = (3 : Int32) → ¬ (g5 j3) = (4 : Int32) → ¬ (g5 j3) = (5 : Int32) → ¬ (g5 j3) = (6 : Int32) → ¬ (g5 j3) = (7 : Int32) → ev_ix x3 j3 N16)
  (k1 : (g5 j3) = (3 : Int32) → R (some (.int (nI (pop (g10 j11))))) h)
  (k2 : (g5 j3) = (4 : Int32) → R (some (.int (g12 j11))) h)
  (k3 : (g5 j3) = (5 : Int32) → R (some (.int x2)) h)
  (k4 : (g5 j3) = (6 : Int32) → R (some (.int (b2i (tbL (g10 j11) (g2 j3))))) h)
  (k5 : (g5 j3) = (7 : Int32) → (g2 j3) < f_parts_7 → R (some (.int (nI (keyN (sCo S13 c_14) (stt S13 p_15) (sBr S13 p_15))))) h)
  (k6 : (g5 j3) = (7 : Int32) → ¬ (g2 j3) < f_parts_7 → R (some (.int (0 : Int32))) h)
  (k7 : ¬ (g5 j3) = (3 : Int32) → ¬ (g5 j3) = (4 : Int32) → ¬ (g5 j3) = (5 : Int32) → ¬ (g5 j3) = (6 : Int32) → ¬ (g5 j3) = (7 : Int32) → R (some (.int (nI (pop ((g10 j11) ^^^ (g17 j3)))))) h)
  : Ev G (d + 2) k n M_Fi_valueOf 0 [.ref x0, .ref x1, .int x2, .int x3, ev_unk] [] h R :=
  Ev.go (pc' := 1) (ls' := [.ref x0, .ref x1, .int x2, .int x3, ev_unk]) (st' := [.ref x0]) [.aload_n 0] (by decide +kernel) rfl <|
  Ev.getf f_Fi_33 (by decide +kernel) a1 rfl <|
  Ev.go (pc' := 5) (ls' := [.ref x0, .ref x1, .int x2, .int x3, ev_unk]) (st' := [.int x3, .ref (x0 + 3)]) [.iload_n 3] (by decide +kernel) rfl <|
  Ev.iald (j := j3) (by decide +kernel) a2 i3 <|
  Ev.go (pc' := 9) (ls' := [.ref x0, .ref x1, .int x2, .int x3, .int (g2 j3)]) (st' := [.ref x0]) [.istore 4, .aload_n 0] (by decide +kernel) rfl <|
  Ev.getf f_Fi_23 (by decide +kernel) a1 rfl <|
  Ev.go (pc' := 13) (ls' := [.ref x0, .ref x1, .int x2, .int x3, .int (g2 j3)]) (st' := [.int x3, .ref (x0 + 1)]) [.iload_n 3] (by decide +kernel) rfl <|
  Ev.iald (j := j3) (by decide +kernel) a4 i5 <|
  if c1_0 : (g5 j3) = (3 : Int32) then Ev.tsw (t := 48) (off := 34) (o := 86) (lo := 3) (hi := 7) (offs := #[34, 44, 51, 53, 65]) (len := 34) (by decide +kernel) (by rw [c1_0]; decide) (by rw [c1_0]; decide) (by rw [c1_0]; decide) rfl <|
    Ev.go (pc' := 49) (ls' := [.ref x0, .ref x1, .int x2, .int x3, .int (g2 j3)]) (st' := [.ref x1]) [.aload_n 1] (by decide +kernel) rfl <|
    Ev.getf f_Fi_54 (by decide +kernel) a6 rfl <|
    Ev.go (pc' := 53) (ls' := [.ref x0, .ref x1, .int x2, .int x3, .int (g2 j3)]) (st' := [.int x2, .ref (x1 + 2)]) [.iload_n 2] (by decide +kernel) rfl <|
    Ev.lald (j := j11) (by decide +kernel) a7 (i8 c1_0) <|
    Ev.cS0 (M' := M_JL_bitCount) (as := [.long (g10 j11)]) (rest := []) l_Fi_59 M_JL_bitCount_ok M_JL_bitCount_st (by decide +kernel) rfl rfl (Nat.le_of_ble_eq_true rfl) (Nat.le_of_ble_eq_true rfl) (s_JL_bitCount <| show Ev G (d + 2) _ _ M_Fi_valueOf 57 [.ref x0, .ref x1, .int x2, .int x3, .int (g2 j3)] [.int (nI (pop (g10 j11)))] h R from
      Ev.ret (r := (some (.int (nI (pop (g10 j11)))))) (Or.inl ⟨_, rfl, by decide +kernel, _, rfl, rfl⟩) (k1 c1_0)
    )
  else
  if c1_1 : (g5 j3) = (4 : Int32) then Ev.tsw (t := 58) (off := 44) (o := 86) (lo := 3) (hi := 7) (offs := #[34, 44, 51, 53, 65]) (len := 34) (by decide +kernel) (by rw [c1_1]; decide) (by rw [c1_1]; decide) (by rw [c1_1]; decide) rfl <|
    Ev.go (pc' := 59) (ls' := [.ref x0, .ref x1, .int x2, .int x3, .int (g2 j3)]) (st' := [.ref x1]) [.aload_n 1] (by decide +kernel) rfl <|
    Ev.getf f_Fi_65 (by decide +kernel) a6 rfl <|
    Ev.go (pc' := 63) (ls' := [.ref x0, .ref x1, .int x2, .int x3, .int (g2 j3)]) (st' := [.int x2, .ref (x1 + 3)]) [.iload_n 2] (by decide +kernel) rfl <|
    Ev.iald (j := j11) (by decide +kernel) a9 (i10 c1_1) <|
    Ev.ret (r := (some (.int (g12 j11)))) (Or.inl ⟨_, rfl, by decide +kernel, _, rfl, rfl⟩) (k2 c1_1)
  else
  if c1_2 : (g5 j3) = (5 : Int32) then Ev.tsw (t := 65) (off := 51) (o := 86) (lo := 3) (hi := 7) (offs := #[34, 44, 51, 53, 65]) (len := 34) (by decide +kernel) (by rw [c1_2]; decide) (by rw [c1_2]; decide) (by rw [c1_2]; decide) rfl <|
    Ev.go (pc' := 66) (ls' := [.ref x0, .ref x1, .int x2, .int x3, .int (g2 j3)]) (st' := [.int x2]) [.iload_n 2] (by decide +kernel) rfl <|
    Ev.ret (r := (some (.int x2))) (Or.inl ⟨_, rfl, by decide +kernel, _, rfl, rfl⟩) (k3 c1_2)
  else
  if c1_3 : (g5 j3) = (6 : Int32) then Ev.tsw (t := 67) (off := 53) (o := 86) (lo := 3) (hi := 7) (offs := #[34, 44, 51, 53, 65]) (len := 34) (by decide +kernel) (by rw [c1_3]; decide) (by rw [c1_3]; decide) (by rw [c1_3]; decide) rfl <|
    Ev.go (pc' := 68) (ls' := [.ref x0, .ref x1, .int x2, .int x3, .int (g2 j3)]) (st' := [.ref x1]) [.aload_n 1] (by decide +kernel) rfl <|
    Ev.getf f_Fi_54 (by decide +kernel) a6 rfl <|
    Ev.go (pc' := 72) (ls' := [.ref x0, .ref x1, .int x2, .int x3, .int (g2 j3)]) (st' := [.int x2, .ref (x1 + 2)]) [.iload_n 2] (by decide +kernel) rfl <|
    Ev.lald (j := j11) (by decide +kernel) a7 (i11 c1_3) <|
    Ev.go (pc' := 75) (ls' := [.ref x0, .ref x1, .int x2, .int x3, .int (g2 j3)]) (st' := [.int (g2 j3), .long (g10 j11)]) [.iload 4] (by decide +kernel) rfl <|
    Ev.cSN0 (M' := M_X_bitOf) (as := [.long (g10 j11), .int (g2 j3)]) (rest := []) l_Fi_68 M_X_bitOf_ok M_X_bitOf_st (by decide +kernel) rfl rfl (Nat.le_of_ble_eq_true rfl) (Nat.le_of_ble_eq_true rfl) (s_X_bitOf <| show Ev G (d + 2) _ _ M_Fi_valueOf 78 [.ref x0, .ref x1, .int x2, .int x3, .int (g2 j3)] [.int (b2i (tbL (g10 j11) (g2 j3)))] h R from
      Ev.ret (r := (some (.int (b2i (tbL (g10 j11) (g2 j3)))))) (Or.inl ⟨_, rfl, by decide +kernel, _, rfl, rfl⟩) (k4 c1_3)
    )
  else
  if c1_4 : (g5 j3) = (7 : Int32) then Ev.tsw (t := 79) (off := 65) (o := 86) (lo := 3) (hi := 7) (offs := #[34, 44, 51, 53, 65]) (len := 34) (by decide +kernel) (by rw [c1_4]; decide) (by rw [c1_4]; decide) (by rw [c1_4]; decide) rfl <|
    Ev.go (pc' := 82) (ls' := [.ref x0, .ref x1, .int x2, .int x3, .int (g2 j3)]) (st' := [.ref x1, .int (g2 j3)]) [.iload 4, .aload_n 1] (by decide +kernel) rfl <|
    Ev.getf f_Fi_74 (by decide +kernel) a6 rfl <|
    Ev.br (i := .if_icmp .ge (13)) (P := (g2 j3) < f_parts_7) (t := 88) (f := 98) (r := []) (by decide +kernel) rfl (fun c2 =>
      Ev.go (pc' := 92) (ls' := [.ref x0, .ref x1, .int x2, .int x3, .int (g2 j3)]) (st' := [.int (g2 j3), .int x2, .ref x1]) [.aload_n 1, .iload_n 2, .iload 4] (by decide +kernel) rfl <|
      Ev.cV0 (M' := M_St_keyOf) (as := [.int x2, .int (g2 j3)]) (rest := []) l_Fi_77 M_St_keyOf_ok M_St_keyOf_in M_St_keyOf_se (by decide +kernel) ⟨_, a6⟩ rfl rfl rfl (Nat.le_of_ble_eq_true rfl) (Nat.le_of_ble_eq_true rfl) (s_St_keyOf' (pr12 c1_4 c2) (pr13 c1_4 c2) (pr14 c1_4 c2) (pr15 c1_4 c2) <| show Ev G (d + 2) _ _ M_Fi_valueOf 95 [.ref x0, .ref x1, .int x2, .int x3, .int (g2 j3)] [.int (nI (keyN (sCo S13 c_14) (stt S13 p_15) (sBr S13 p_15)))] h R from
        Ev.go (pc' := 99) (ls' := [.ref x0, .ref x1, .int x2, .int x3, .int (g2 j3)]) (st' := [.int (nI (keyN (sCo S13 c_14) (stt S13 p_15) (sBr S13 p_15)))]) [.goto (4)] (by decide +kernel) rfl <|
        Ev.ret (r := (some (.int (nI (keyN (sCo S13 c_14) (stt S13 p_15) (sBr S13 p_15)))))) (Or.inl ⟨_, rfl, by decide +kernel, _, rfl, rfl⟩) (k5 c1_4 c2)
      )
    ) (fun c2 =>
      Ev.go (pc' := 99) (ls' := [.ref x0, .ref x1, .int x2, .int x3, .int (g2 j3)]) (st' := [.int (0 : Int32)]) [.iconst 0] (by decide +kernel) rfl <|
      Ev.ret (r := (some (.int (0 : Int32)))) (Or.inl ⟨_, rfl, by decide +kernel, _, rfl, rfl⟩) (k6 c1_4 c2)
    )
  else
  Ev.tswd (t := 100) (o := 86) (lo := 3) (hi := 7) (offs := #[34, 44, 51, 53, 65]) (len := 34) (by decide +kernel) (by have qc1_0 := ne_i (v := 3) (3 : Int32) (by decide) c1_0; have qc1_1 := ne_i (v := 4) (4 : Int32) (by decide) c1_1; have qc1_2 := ne_i (v := 5) (5 : Int32) (by decide) c1_2; have qc1_3 := ne_i (v := 6) (6 : Int32) (by decide) c1_3; have qc1_4 := ne_i (v := 7) (7 : Int32) (by decide) c1_4; omega) rfl <|
    Ev.go (pc' := 101) (ls' := [.ref x0, .ref x1, .int x2, .int x3, .int (g2 j3)]) (st' := [.ref x1]) [.aload_n 1] (by decide +kernel) rfl <|
    Ev.getf f_Fi_54 (by decide +kernel) a6 rfl <|
    Ev.go (pc' := 105) (ls' := [.ref x0, .ref x1, .int x2, .int x3, .int (g2 j3)]) (st' := [.int x2, .ref (x1 + 2)]) [.iload_n 2] (by decide +kernel) rfl <|
    Ev.lald (j := j11) (by decide +kernel) a7 (i16 c1_0 c1_1 c1_2 c1_3 c1_4) <|
    Ev.go (pc' := 107) (ls' := [.ref x0, .ref x1, .int x2, .int x3, .int (g2 j3)]) (st' := [.ref x0, .long (g10 j11)]) [.aload_n 0] (by decide +kernel) rfl <|
    Ev.getf f_Fi_45 (by decide +kernel) a1 rfl <|
    Ev.go (pc' := 111) (ls' := [.ref x0, .ref x1, .int x2, .int x3, .int (g2 j3)]) (st' := [.int x3, .ref (x0 + 5), .long (g10 j11)]) [.iload_n 3] (by decide +kernel) rfl <|
    Ev.lald (j := j3) (by decide +kernel) a17 (i18 c1_0 c1_1 c1_2 c1_3 c1_4) <|
    Ev.cSN0 (M' := M_X_unlike) (as := [.long (g10 j11), .long (g17 j3)]) (rest := []) l_Fi_81 M_X_unlike_ok M_X_unlike_st (by decide +kernel) rfl rfl (Nat.le_of_ble_eq_true rfl) (Nat.le_of_ble_eq_true rfl) (s_X_unlike <| show Ev G (d + 2) _ _ M_Fi_valueOf 115 [.ref x0, .ref x1, .int x2, .int x3, .int (g2 j3)] [.int (nI (pop ((g10 j11) ^^^ (g17 j3))))] h R from
      Ev.ret (r := (some (.int (nI (pop ((g10 j11) ^^^ (g17 j3))))))) (Or.inl ⟨_, rfl, by decide +kernel, _, rfl, rfl⟩) (k7 c1_0 c1_1 c1_2 c1_3 c1_4)
    )
  
section S15
variable {G : ev_G} {d : Nat} {h : ev_H} {R : Option Value → ev_H → Prop} {a f : Nat} {S : AS} {fl : List AStp}
theorem nI3 {a : Nat} (h : a < 100) (k : Nat) (hk : k < 100) : nI a = nI k ↔ a = k := nI_eq (by omega) (by omega)
theorem s_Fi_valueOf (hF : FiR h f fl) (hS : StR h a S) (ok : sOk S) {c i : Nat} {s : AStp} (hc : c < sN S) (hi : fl[i]? = some s) (hs : stpOk s) (hlen : fl.length ≤ 300) (h3 : 3 ≤ s.1) (hR : R (some (.int (nI (vlN S c s)))) h) : Ev G (d + 2) 0 0 M_Fi_valueOf 0 [.ref f, .ref a, .int (nI c), .int (nI i), ev_unk] [] h R := by
  have hS0 := hS
  obtain ⟨brf, tgf, cof, fv, t1, t2, t3, t4, e1, e2, -⟩ := hS
  obtain ⟨f0, ks, ss, ps, bs, frs, f1, f2, f3, f4, f5, hst⟩ := hF
  obtain ⟨g1, g2, g3, g4, g5⟩ := hst i s hi
  have hil : i < fl.length := (List.getElem?_eq_some_iff.mp hi).1
  have hz := ok.2.2.2.2.1
  have hz2 := ok.2.2.2.1
  have hk := hs.1
  have hix : ev_ix (nI i) i fl.length := ixn hil (by omega)
  have hcx : ev_ix (nI c) c 32 := ixn (by omega) (by decide)
  have w : ∀ k : Nat, k < 100 → (ks i = nI k ↔ s.1 = k) := fun k hk => by rw [g1]; exact nI3 (by omega) k hk
  refine b_Fi_valueOf_0 f0 f3 f1 t1 t3 t4 f5 (S13 := S) (c_14 := c) (p_15 := s.2.2.1) hix hix (fun _ => hcx) (fun _ => hcx) (fun _ => hcx) (fun _ _ => hS0) (fun _ _ => ok) (fun _ _ => ⟨rfl, hc⟩) (fun _ q => ⟨g3, ?_⟩) (fun _ _ _ _ _ => hcx) (fun _ _ _ _ _ => hix) (fun q => ?_) (fun q => ?_) (fun q => ?_) (fun q => ?_) (fun q q2 => ?_) (fun q q2 => ?_) (fun q q2 q3 q4 q5 => ?_)
  · rw [g3] at q; exact (nI_ltI (by have := hs.2.2.1; omega) (by omega)).mp q
  · have := (w 3 (by decide)).mp q
    unfold vlN at hR; rw [if_pos this] at hR; rw [(e2 c hc).1]; exact hR
  · have := (w 4 (by decide)).mp q
    unfold vlN at hR; rw [if_neg (by omega), if_pos this] at hR; rw [(e2 c hc).2]; exact hR
  · have := (w 5 (by decide)).mp q
    unfold vlN at hR; rw [if_neg (by omega), if_neg (by omega), if_pos this] at hR; exact hR
  · have := (w 6 (by decide)).mp q
    unfold vlN at hR; rw [if_neg (by omega), if_neg (by omega), if_neg (by omega), if_pos this] at hR
    rw [(e2 c hc).1, g3, tbL_n (by have := hs.2.2.1; omega)]
    cases q9 : lt (sCo S c) s.2.2.1 <;> rw [q9] at hR <;> exact hR
  · have := (w 7 (by decide)).mp q
    rw [g3] at q2
    have hp := (nI_ltI (by have := hs.2.2.1; omega) (by omega)).mp q2
    unfold vlN at hR; rw [if_neg (by omega), if_neg (by omega), if_neg (by omega), if_neg (by omega), if_pos this, if_pos hp] at hR; exact hR
  · have := (w 7 (by decide)).mp q
    rw [g3] at q2
    have hp : ¬ s.2.2.1 < sP S := fun z => q2 (nI_lt z (by omega))
    unfold vlN at hR; rw [if_neg (by omega), if_neg (by omega), if_neg (by omega), if_neg (by omega), if_pos this, if_neg hp] at hR; exact hR
  · have q3' := fun z => q ((w 3 (by decide)).mpr z)
    have q4' := fun z => q2 ((w 4 (by decide)).mpr z)
    have q5' := fun z => q3 ((w 5 (by decide)).mpr z)
    have q6' := fun z => q4 ((w 6 (by decide)).mpr z)
    have q7' := fun z => q5 ((w 7 (by decide)).mpr z)
    unfold vlN at hR; rw [if_neg q3', if_neg q4', if_neg q5', if_neg q6', if_neg q7'] at hR
    rw [(e2 c hc).1, g5]; exact hR
theorem s_Fi_valueOf' {cI iI : Int32} {c i : Nat} {s : AStp} (hF : FiR h f fl) (hS : StR h a S) (ok : sOk S) (hc : cI = nI c ∧ c < sN S) (hi : iI = nI i ∧ fl[i]? = some s ∧ stpOk s ∧ fl.length ≤ 300 ∧ 3 ≤ s.1) (hR : R (some (.int (nI (vlN S c s)))) h) : Ev G (d + 2) 0 0 M_Fi_valueOf 0 [.ref f, .ref a, .int cI, .int iI, ev_unk] [] h R := by
  obtain ⟨rfl, hc⟩ := hc; obtain ⟨rfl, hi, hs, hl, h3⟩ := hi; exact s_Fi_valueOf hF hS ok hc hi hs hl h3 hR
theorem vlN_lt (ok : sOk S) {c : Nat} (hc : c < sN S) (s : AStp) : vlN S c s < 2147483648 := by
  have hz := ok.2.2.2.2.1
  unfold vlN
  split
  · have := pop_le (sCo S c); omega
  split
  · have := ok.2.2.2.2.2.2.1 c hc; omega
  split
  · omega
  split
  · split <;> omega
  split
  · split
    · rename_i hp
      have h1 := keyN_lt (sCo S c) (stt S s.2.2.1) (sBr S s.2.2.1)
      have h2 := ok.2.2.2.2.2.1 _ hp
      have : 2 ^ sBr S s.2.2.1 ≤ 2 ^ 24 := Nat.pow_le_pow_right (by decide) h2
      omega
    · omega
  · have := pop_le (sCo S c ^^^ s.2.2.2.2); omega
end S15
theorem b_Fi_holdsFact_0 {G : ev_G} {d k n : Nat} {h : ev_H} {R : Option Value → ev_H → Prop} {x0 : Nat} {x1 : Nat} {x2 : Int32} {x3 : Int32} {S1 : AS} {L2 : List AStp} {c_3 : Nat} {i_4 : Nat} {s_5 : AStp} {N6 : Nat} {g7 : Nat → Int32} {j8 : Nat} {N9 : Nat} {g10 : Nat → Int32}
  (a7 : hat h x0 (oC 1 [.ref (x0 + 1), .ref (x0 + 2), .ref (x0 + 3), .ref (x0 + 4), .ref (x0 + 5)]))
  (a8 : hat h (x0 + 2) (aI N6 g7))
  (a10 : hat h (x0 + 4) (aI N9 g10))
  (pr1 : FiR h x0 L2)
  (pr2 : StR h x1 S1)
  (pr3 : sOk S1)
  (pr4 : x2 = nI c_3 ∧ c_3 < sN S1)
  (pr5 : x3 = nI i_4 ∧ L2[i_4]? = some s_5 ∧ stpOk s_5 ∧ L2.length ≤ 300 ∧ 3 ≤ s_5.1)
  (r6 : ∃ fs, hat h x0 (oC 1 fs))
  (i9 : ev_ix x3 j8 N6)
  (i11 : (g7 j8) = (60 : Int32) → ev_ix x3 j8 N9)
  (i12 : ¬ (g7 j8) = (60 : Int32) → ev_ix x3 j8 N6)
  (i13 : ¬ (g7 j8) = (60 : Int32) → (g7 j8) = (61 : Int32) → ev_ix x3 j8 N9)
  (i14 : ¬ (g7 j8) = (60 : Int32) → ¬ (g7 j8) = (61 : Int32) → ev_ix x3 j8 N9)
  (k1 : (g7 j8) = (60 : Int32) → (nI (vlN S1 c_3 s_5)) < (g10 j8) → R (some (.int (1 : Int32))) h)
  (k2 : (g7 j8) = (60 : Int32) → ¬ (nI (vlN S1 c_3 s_5)) < (g10 j8) → R (some (.int (0 : Int32))) h)
  (k3 : ¬ (g7 j8) = (60 : Int32) → (g7 j8) = (61 : Int32) → (nI (vlN S1 c_3 s_5)) = (g10 j8) → R (some (.int (1 : Int32))) h)
  (k4 : ¬ (g7 j8) = (60 : Int32) → (g7 j8) = (61 : Int32) → ¬ (nI (vlN S1 c_3 s_5)) = (g10 j8) → R (some (.int (0 : Int32))) h)
  (k5 : ¬ (g7 j8) = (60 : Int32) → ¬ (g7 j8) = (61 : Int32) → (g10 j8) < (nI (vlN S1 c_3 s_5)) → R (some (.int (1 : Int32))) h)
  (k6 : ¬ (g7 j8) = (60 : Int32) → ¬ (g7 j8) = (61 : Int32) → ¬ (g10 j8) < (nI (vlN S1 c_3 s_5)) → R (some (.int (0 : Int32))) h)
  : Ev G (d + 3) k n M_Fi_holdsFact 0 [.ref x0, .ref x1, .int x2, .int x3, ev_unk] [] h R :=
  Ev.go (pc' := 4) (ls' := [.ref x0, .ref x1, .int x2, .int x3, ev_unk]) (st' := [.int x3, .int x2, .ref x1, .ref x0]) [.aload_n 0, .aload_n 1, .iload_n 2, .iload_n 3] (by decide +kernel) rfl <|
  Ev.cV0 (M' := M_Fi_valueOf) (as := [.ref x1, .int x2, .int x3]) (rest := []) l_Fi_50 M_Fi_valueOf_ok M_Fi_valueOf_in M_Fi_valueOf_se (by decide +kernel) r6 rfl rfl rfl (Nat.le_of_ble_eq_true rfl) (Nat.le_of_ble_eq_true rfl) (s_Fi_valueOf' pr1 pr2 pr3 pr4 pr5 <| show Ev G (d + 3) _ _ M_Fi_holdsFact 7 [.ref x0, .ref x1, .int x2, .int x3, ev_unk] [.int (nI (vlN S1 c_3 s_5))] h R from
    Ev.go (pc' := 10) (ls' := [.ref x0, .ref x1, .int x2, .int x3, .int (nI (vlN S1 c_3 s_5))]) (st' := [.ref x0]) [.istore 4, .aload_n 0] (by decide +kernel) rfl <|
    Ev.getf f_Fi_29 (by decide +kernel) a7 rfl <|
    Ev.go (pc' := 14) (ls' := [.ref x0, .ref x1, .int x2, .int x3, .int (nI (vlN S1 c_3 s_5))]) (st' := [.int x3, .ref (x0 + 2)]) [.iload_n 3] (by decide +kernel) rfl <|
    Ev.iald (j := j8) (by decide +kernel) a8 i9 <|
    Ev.go (pc' := 17) (ls' := [.ref x0, .ref x1, .int x2, .int x3, .int (nI (vlN S1 c_3 s_5))]) (st' := [.int (60 : Int32), .int (g7 j8)]) [.bipush (60)] (by decide +kernel) rfl <|
    Ev.br (i := .if_icmp .ne (20)) (P := (g7 j8) = (60 : Int32)) (t := 20) (f := 37) (r := []) (by decide +kernel) rfl (fun c1 =>
      Ev.go (pc' := 23) (ls' := [.ref x0, .ref x1, .int x2, .int x3, .int (nI (vlN S1 c_3 s_5))]) (st' := [.ref x0, .int (nI (vlN S1 c_3 s_5))]) [.iload 4, .aload_n 0] (by decide +kernel) rfl <|
      Ev.getf f_Fi_37 (by decide +kernel) a7 rfl <|
      Ev.go (pc' := 27) (ls' := [.ref x0, .ref x1, .int x2, .int x3, .int (nI (vlN S1 c_3 s_5))]) (st' := [.int x3, .ref (x0 + 4), .int (nI (vlN S1 c_3 s_5))]) [.iload_n 3] (by decide +kernel) rfl <|
      Ev.iald (j := j8) (by decide +kernel) a10 (i11 c1) <|
      Ev.br (i := .if_icmp .ge (7)) (P := (nI (vlN S1 c_3 s_5)) < (g10 j8)) (t := 31) (f := 35) (r := []) (by decide +kernel) rfl (fun c2 =>
        Ev.go (pc' := 36) (ls' := [.ref x0, .ref x1, .int x2, .int x3, .int (nI (vlN S1 c_3 s_5))]) (st' := [.int (1 : Int32)]) [.iconst 1, .goto (4)] (by decide +kernel) rfl <|
        Ev.ret (r := (some (.int (1 : Int32)))) (Or.inl ⟨_, rfl, by decide +kernel, _, rfl, rfl⟩) (k1 c1 c2)
      ) (fun c2 =>
        Ev.go (pc' := 36) (ls' := [.ref x0, .ref x1, .int x2, .int x3, .int (nI (vlN S1 c_3 s_5))]) (st' := [.int (0 : Int32)]) [.iconst 0] (by decide +kernel) rfl <|
        Ev.ret (r := (some (.int (0 : Int32)))) (Or.inl ⟨_, rfl, by decide +kernel, _, rfl, rfl⟩) (k2 c1 c2)
      )
    ) (fun c1 =>
      Ev.go (pc' := 38) (ls' := [.ref x0, .ref x1, .int x2, .int x3, .int (nI (vlN S1 c_3 s_5))]) (st' := [.ref x0]) [.aload_n 0] (by decide +kernel) rfl <|
      Ev.getf f_Fi_29 (by decide +kernel) a7 rfl <|
      Ev.go (pc' := 42) (ls' := [.ref x0, .ref x1, .int x2, .int x3, .int (nI (vlN S1 c_3 s_5))]) (st' := [.int x3, .ref (x0 + 2)]) [.iload_n 3] (by decide +kernel) rfl <|
      Ev.iald (j := j8) (by decide +kernel) a8 (i12 c1) <|
      Ev.go (pc' := 45) (ls' := [.ref x0, .ref x1, .int x2, .int x3, .int (nI (vlN S1 c_3 s_5))]) (st' := [.int (61 : Int32), .int (g7 j8)]) [.bipush (61)] (by decide +kernel) rfl <|
      Ev.br (i := .if_icmp .ne (22)) (P := (g7 j8) = (61 : Int32)) (t := 48) (f := 67) (r := []) (by decide +kernel) rfl (fun c2 =>
        Ev.go (pc' := 51) (ls' := [.ref x0, .ref x1, .int x2, .int x3, .int (nI (vlN S1 c_3 s_5))]) (st' := [.ref x0, .int (nI (vlN S1 c_3 s_5))]) [.iload 4, .aload_n 0] (by decide +kernel) rfl <|
        Ev.getf f_Fi_37 (by decide +kernel) a7 rfl <|
        Ev.go (pc' := 55) (ls' := [.ref x0, .ref x1, .int x2, .int x3, .int (nI (vlN S1 c_3 s_5))]) (st' := [.int x3, .ref (x0 + 4), .int (nI (vlN S1 c_3 s_5))]) [.iload_n 3] (by decide +kernel) rfl <|
        Ev.iald (j := j8) (by decide +kernel) a10 (i13 c1 c2) <|
        Ev.br (i := .if_icmp .ne (7)) (P := (nI (vlN S1 c_3 s_5)) = (g10 j8)) (t := 59) (f := 63) (r := []) (by decide +kernel) rfl (fun c3 =>
          Ev.go (pc' := 83) (ls' := [.ref x0, .ref x1, .int x2, .int x3, .int (nI (vlN S1 c_3 s_5))]) (st' := [.int (1 : Int32)]) [.iconst 1, .goto (23)] (by decide +kernel) rfl <|
          Ev.ret (r := (some (.int (1 : Int32)))) (Or.inl ⟨_, rfl, by decide +kernel, _, rfl, rfl⟩) (k3 c1 c2 c3)
        ) (fun c3 =>
          Ev.go (pc' := 83) (ls' := [.ref x0, .ref x1, .int x2, .int x3, .int (nI (vlN S1 c_3 s_5))]) (st' := [.int (0 : Int32)]) [.iconst 0, .goto (19)] (by decide +kernel) rfl <|
          Ev.ret (r := (some (.int (0 : Int32)))) (Or.inl ⟨_, rfl, by decide +kernel, _, rfl, rfl⟩) (k4 c1 c2 c3)
        )
      ) (fun c2 =>
        Ev.go (pc' := 70) (ls' := [.ref x0, .ref x1, .int x2, .int x3, .int (nI (vlN S1 c_3 s_5))]) (st' := [.ref x0, .int (nI (vlN S1 c_3 s_5))]) [.iload 4, .aload_n 0] (by decide +kernel) rfl <|
        Ev.getf f_Fi_37 (by decide +kernel) a7 rfl <|
        Ev.go (pc' := 74) (ls' := [.ref x0, .ref x1, .int x2, .int x3, .int (nI (vlN S1 c_3 s_5))]) (st' := [.int x3, .ref (x0 + 4), .int (nI (vlN S1 c_3 s_5))]) [.iload_n 3] (by decide +kernel) rfl <|
        Ev.iald (j := j8) (by decide +kernel) a10 (i14 c1 c2) <|
        Ev.br (i := .if_icmp .le (7)) (P := (g10 j8) < (nI (vlN S1 c_3 s_5))) (t := 78) (f := 82) (r := []) (by decide +kernel) rfl (fun c3 =>
          Ev.go (pc' := 83) (ls' := [.ref x0, .ref x1, .int x2, .int x3, .int (nI (vlN S1 c_3 s_5))]) (st' := [.int (1 : Int32)]) [.iconst 1, .goto (4)] (by decide +kernel) rfl <|
          Ev.ret (r := (some (.int (1 : Int32)))) (Or.inl ⟨_, rfl, by decide +kernel, _, rfl, rfl⟩) (k5 c1 c2 c3)
        ) (fun c3 =>
          Ev.go (pc' := 83) (ls' := [.ref x0, .ref x1, .int x2, .int x3, .int (nI (vlN S1 c_3 s_5))]) (st' := [.int (0 : Int32)]) [.iconst 0] (by decide +kernel) rfl <|
          Ev.ret (r := (some (.int (0 : Int32)))) (Or.inl ⟨_, rfl, by decide +kernel, _, rfl, rfl⟩) (k6 c1 c2 c3)
        )
      )
    )
  )
section S15
variable {G : ev_G} {d : Nat} {h : ev_H} {R : Option Value → ev_H → Prop} {a f : Nat} {S : AS} {fl : List AStp}
theorem s_Fi_holdsFact {cI iI : Int32} {c i : Nat} {s : AStp} (hF : FiR h f fl) (hS : StR h a S) (ok : sOk S) (hc : cI = nI c ∧ c < sN S) (hi : iI = nI i ∧ fl[i]? = some s ∧ stpOk s ∧ fl.length ≤ 300 ∧ 3 ≤ s.1) (hR : R (some (.int (b2i (fcB S c s)))) h) : Ev G (d + 3) 0 0 M_Fi_holdsFact 0 [.ref f, .ref a, .int cI, .int iI, ev_unk] [] h R := by
  have hF0 := hF
  obtain ⟨f0, ks, ss, ps, bs, frs, f1, f2, f3, f4, f5, hst⟩ := hF
  obtain ⟨g1, g2, g3, g4, g5⟩ := hst i s hi.2.1
  have hil : i < fl.length := (List.getElem?_eq_some_iff.mp hi.2.1).1
  have hix : ev_ix iI i fl.length := by rw [hi.1]; exact ixn hil (by have := hi.2.2.2.1; omega)
  have hv := vlN_lt ok hc.2 s
  have hs := hi.2.2.1
  have w : ∀ k : Nat, k < 100 → (ss i = nI k ↔ s.2.1 = k) := fun k hk => by rw [g2]; exact nI3 hs.2.1 k hk
  have u : ∀ x : Nat, x < 2147483648 → (nI x < bs i ↔ x < s.2.2.2.1) := fun x hx => by rw [g4]; exact nI_ltI hx (by have := hs.2.2.2; omega)
  have u' : bs i < nI (vlN S c s) ↔ s.2.2.2.1 < vlN S c s := by rw [g4]; exact nI_ltI (by have := hs.2.2.2; omega) hv
  refine b_Fi_holdsFact_0 f0 f2 f4 hF0 hS ok hc hi ⟨_, f0⟩ hix (fun _ => hix) (fun _ => hix) (fun _ _ => hix) (fun _ _ => hix) (fun q q2 => ?_) (fun q q2 => ?_) (fun q q3 q2 => ?_) (fun q q3 q2 => ?_) (fun q q3 q2 => ?_) (fun q q3 q2 => ?_)
  · unfold fcB at hR; rw [if_pos ((w 60 (by decide)).mp q), decide_eq_true ((u _ hv).mp q2)] at hR; exact hR
  · unfold fcB at hR; rw [if_pos ((w 60 (by decide)).mp q), decide_eq_false (fun z => q2 ((u _ hv).mpr z))] at hR; exact hR
  · unfold fcB at hR; rw [if_neg (fun z => q ((w 60 (by decide)).mpr z)), if_pos ((w 61 (by decide)).mp q3), decide_eq_true ((nI_eq (by omega) (by have := hs.2.2.2; omega)).mp (q2.trans g4))] at hR; exact hR
  · unfold fcB at hR; rw [if_neg (fun z => q ((w 60 (by decide)).mpr z)), if_pos ((w 61 (by decide)).mp q3), decide_eq_false (fun z => q2 (by rw [g4, z]))] at hR; exact hR
  · unfold fcB at hR; rw [if_neg (fun z => q ((w 60 (by decide)).mpr z)), if_neg (fun z => q3 ((w 61 (by decide)).mpr z)), decide_eq_true (u'.mp q2)] at hR; exact hR
  · unfold fcB at hR; rw [if_neg (fun z => q ((w 60 (by decide)).mpr z)), if_neg (fun z => q3 ((w 61 (by decide)).mpr z)), decide_eq_false (fun z => q2 (u'.mpr z))] at hR; exact hR
end S15
theorem b_Fi_holds_0 {G : ev_G} {d k n : Nat} {h : ev_H} {R : Option Value → ev_H → Prop} {x0 : Nat} {x1 : Nat} {x2 : Int32}
  (k1 : Ev G (d + 1) k n M_Fi_holds 5 [.ref x0, .ref x1, .int x2, .int (0 : Int32), .int (0 : Int32), ev_unk, ev_unk] [] h R)
  : Ev G (d + 1) k n M_Fi_holds 0 [.ref x0, .ref x1, .int x2, ev_unk, ev_unk, ev_unk, ev_unk] [] h R :=
  Ev.go (pc' := 5) (ls' := [.ref x0, .ref x1, .int x2, .int (0 : Int32), .int (0 : Int32), ev_unk, ev_unk]) (st' := []) [.iconst 0, .istore_n 3, .iconst 0, .istore 4] (by decide +kernel) rfl <|
  k1
theorem b_Fi_holds_5 {G : ev_G} {d k n : Nat} {h : ev_H} {R : Option Value → ev_H → Prop} {x0 : Nat} {x1 : Nat} {x2 : Int32} {x3 : Int32} {x4 : Int32} {N1 : Nat} {g2 : Nat → Int32} {j3 : Nat}
  (a1 : hat h x0 (oC 1 [.ref (x0 + 1), .ref (x0 + 2), .ref (x0 + 3), .ref (x0 + 4), .ref (x0 + 5)]))
  (a2 : hat h (x0 + 1) (aI N1 g2))
  (i3 : x4 < (nI N1) → ev_ix x4 j3 N1)
  (k1 : x4 < (nI N1) → (g2 j3) = (0 : Int32) → Ev G (d + 1) k n M_Fi_holds 5 [.ref x0, .ref x1, .int x2, .int (x3 ^^^ (1 : Int32)), .int (x4 + (1 : Int32)), ev_unk, ev_unk] [] h R)
  (k2 : x4 < (nI N1) → (g2 j3) = (1 : Int32) → (x3 &&& (1 : Int32)) = (1 : Int32) → Ev G (d + 1) k n M_Fi_holds 5 [.ref x0, .ref x1, .int x2, .int ((x3.toUInt32 >>> ((1 : Int32).toUInt32 &&& Int32.toUInt32 31)).toInt32), .int (x4 + (1 : Int32)), ev_unk, ev_unk] [] h R)
  (k3 : x4 < (nI N1) → (g2 j3) = (1 : Int32) → ¬ (x3 &&& (1 : Int32)) = (1 : Int32) → Ev G (d + 1) k n M_Fi_holds 5 [.ref x0, .ref x1, .int x2, .int (((x3.toUInt32 >>> ((1 : Int32).toUInt32 &&& Int32.toUInt32 31)).toInt32) &&& (-2 : Int32)), .int (x4 + (1 : Int32)), ev_unk, ev_unk] [] h R)
  (k4 : x4 < (nI N1) → (g2 j3) = (2 : Int32) → Ev G (d + 1) k n M_Fi_holds 5 [.ref x0, .ref x1, .int x2, .int (((x3.toUInt32 >>> ((1 : Int32).toUInt32 &&& Int32.toUInt32 31)).toInt32) ||| (x3 &&& (1 : Int32))), .int (x4 + (1 : Int32)), ev_unk, ev_unk] [] h R)
  (k5 : x4 < (nI N1) → ¬ (g2 j3) = (0 : Int32) → ¬ (g2 j3) = (1 : Int32) → ¬ (g2 j3) = (2 : Int32) → Ev G d 0 0 M_Fi_holdsFact 0 [.ref x0, .ref x1, .int x2, .int x4, ev_unk] [] h (fun r h1 => Ev G (d + 1) k n M_Fi_holds 107 [.ref x0, .ref x1, .int x2, .int x3, .int x4, .int (x3 &&& (1 : Int32)), .int ((x3.toUInt32 >>> ((1 : Int32).toUInt32 &&& Int32.toUInt32 31)).toInt32)] (r.toList ++ [.int (x3 <<< ((1 : Int32) &&& 31))]) h1 R))
  (k6 : ¬ x4 < (nI N1) → (x3 &&& (1 : Int32)) = (1 : Int32) → R (some (.int (1 : Int32))) h)
  (k7 : ¬ x4 < (nI N1) → ¬ (x3 &&& (1 : Int32)) = (1 : Int32) → R (some (.int (0 : Int32))) h)
  : Ev G (d + 1) k n M_Fi_holds 5 [.ref x0, .ref x1, .int x2, .int x3, .int x4, ev_unk, ev_unk] [] h R :=
  Ev.go (pc' := 8) (ls' := [.ref x0, .ref x1, .int x2, .int x3, .int x4, ev_unk, ev_unk]) (st' := [.ref x0, .int x4]) [.iload 4, .aload_n 0] (by decide +kernel) rfl <|
  Ev.getf f_Fi_23 (by decide +kernel) a1 rfl <|
  Ev.alen (by decide +kernel) a2 (by decide) <|
  Ev.br (i := .if_icmp .ge (111)) (P := x4 < (nI N1)) (t := 15) (f := 123) (r := []) (by decide +kernel) rfl (fun c1 =>
    Ev.go (pc' := 26) (ls' := [.ref x0, .ref x1, .int x2, .int x3, .int x4, .int (x3 &&& (1 : Int32)), .int ((x3.toUInt32 >>> ((1 : Int32).toUInt32 &&& Int32.toUInt32 31)).toInt32)]) (st' := [.ref x0]) [.iload_n 3, .iconst 1, .iand, .istore 5, .iload_n 3, .iconst 1, .iushr, .istore 6, .aload_n 0] (by decide +kernel) rfl <|
    Ev.getf f_Fi_23 (by decide +kernel) a1 rfl <|
    Ev.go (pc' := 31) (ls' := [.ref x0, .ref x1, .int x2, .int x3, .int x4, .int (x3 &&& (1 : Int32)), .int ((x3.toUInt32 >>> ((1 : Int32).toUInt32 &&& Int32.toUInt32 31)).toInt32)]) (st' := [.int x4, .ref (x0 + 1)]) [.iload 4] (by decide +kernel) rfl <|
    Ev.iald (j := j3) (by decide +kernel) a2 (i3 c1) <|
    if c2_0 : (g2 j3) = (0 : Int32) then Ev.tsw (t := 60) (off := 28) (o := 64) (lo := 0) (hi := 2) (offs := #[28, 35, 55]) (len := 28) (by decide +kernel) (by rw [c2_0]; decide) (by rw [c2_0]; decide) (by rw [c2_0]; decide) rfl <|
      Ev.go (pc' := 5) (ls' := [.ref x0, .ref x1, .int x2, .int (x3 ^^^ (1 : Int32)), .int (x4 + (1 : Int32)), .int (x3 &&& (1 : Int32)), .int ((x3.toUInt32 >>> ((1 : Int32).toUInt32 &&& Int32.toUInt32 31)).toInt32)]) (st' := []) [.iload_n 3, .iconst 1, .ixor, .istore_n 3, .goto (53), .iinc 4 (1), .goto (-115)] (by decide +kernel) rfl <|
      Ev.forget (ls' := [.ref x0, .ref x1, .int x2, .int (x3 ^^^ (1 : Int32)), .int (x4 + (1 : Int32)), ev_unk, ev_unk]) ⟨Or.inr rfl, Or.inr rfl, Or.inr rfl, Or.inr rfl, Or.inr rfl, Or.inl rfl, Or.inl rfl, trivial⟩ <|
      (k1 c1 c2_0)
    else
    if c2_1 : (g2 j3) = (1 : Int32) then Ev.tsw (t := 67) (off := 35) (o := 64) (lo := 0) (hi := 2) (offs := #[28, 35, 55]) (len := 28) (by decide +kernel) (by rw [c2_1]; decide) (by rw [c2_1]; decide) (by rw [c2_1]; decide) rfl <|
      Ev.go (pc' := 70) (ls' := [.ref x0, .ref x1, .int x2, .int x3, .int x4, .int (x3 &&& (1 : Int32)), .int ((x3.toUInt32 >>> ((1 : Int32).toUInt32 &&& Int32.toUInt32 31)).toInt32)]) (st' := [.int (1 : Int32), .int (x3 &&& (1 : Int32))]) [.iload 5, .iconst 1] (by decide +kernel) rfl <|
      Ev.br (i := .if_icmp .ne (8)) (P := (x3 &&& (1 : Int32)) = (1 : Int32)) (t := 73) (f := 78) (r := []) (by decide +kernel) rfl (fun c3 =>
        Ev.go (pc' := 5) (ls' := [.ref x0, .ref x1, .int x2, .int ((x3.toUInt32 >>> ((1 : Int32).toUInt32 &&& Int32.toUInt32 31)).toInt32), .int (x4 + (1 : Int32)), .int (x3 &&& (1 : Int32)), .int ((x3.toUInt32 >>> ((1 : Int32).toUInt32 &&& Int32.toUInt32 31)).toInt32)]) (st' := []) [.iload 6, .goto (8), .istore_n 3, .goto (33), .iinc 4 (1), .goto (-115)] (by decide +kernel) rfl <|
        Ev.forget (ls' := [.ref x0, .ref x1, .int x2, .int ((x3.toUInt32 >>> ((1 : Int32).toUInt32 &&& Int32.toUInt32 31)).toInt32), .int (x4 + (1 : Int32)), ev_unk, ev_unk]) ⟨Or.inr rfl, Or.inr rfl, Or.inr rfl, Or.inr rfl, Or.inr rfl, Or.inl rfl, Or.inl rfl, trivial⟩ <|
        (k2 c1 c2_1 c3)
      ) (fun c3 =>
        Ev.go (pc' := 5) (ls' := [.ref x0, .ref x1, .int x2, .int (((x3.toUInt32 >>> ((1 : Int32).toUInt32 &&& Int32.toUInt32 31)).toInt32) &&& (-2 : Int32)), .int (x4 + (1 : Int32)), .int (x3 &&& (1 : Int32)), .int ((x3.toUInt32 >>> ((1 : Int32).toUInt32 &&& Int32.toUInt32 31)).toInt32)]) (st' := []) [.iload 6, .bipush (-2), .iand, .istore_n 3, .goto (33), .iinc 4 (1), .goto (-115)] (by decide +kernel) rfl <|
        Ev.forget (ls' := [.ref x0, .ref x1, .int x2, .int (((x3.toUInt32 >>> ((1 : Int32).toUInt32 &&& Int32.toUInt32 31)).toInt32) &&& (-2 : Int32)), .int (x4 + (1 : Int32)), ev_unk, ev_unk]) ⟨Or.inr rfl, Or.inr rfl, Or.inr rfl, Or.inr rfl, Or.inr rfl, Or.inl rfl, Or.inl rfl, trivial⟩ <|
        (k3 c1 c2_1 c3)
      )
    else
    if c2_2 : (g2 j3) = (2 : Int32) then Ev.tsw (t := 87) (off := 55) (o := 64) (lo := 0) (hi := 2) (offs := #[28, 35, 55]) (len := 28) (by decide +kernel) (by rw [c2_2]; decide) (by rw [c2_2]; decide) (by rw [c2_2]; decide) rfl <|
      Ev.go (pc' := 5) (ls' := [.ref x0, .ref x1, .int x2, .int (((x3.toUInt32 >>> ((1 : Int32).toUInt32 &&& Int32.toUInt32 31)).toInt32) ||| (x3 &&& (1 : Int32))), .int (x4 + (1 : Int32)), .int (x3 &&& (1 : Int32)), .int ((x3.toUInt32 >>> ((1 : Int32).toUInt32 &&& Int32.toUInt32 31)).toInt32)]) (st' := []) [.iload 6, .iload 5, .ior, .istore_n 3, .goto (24), .iinc 4 (1), .goto (-115)] (by decide +kernel) rfl <|
      Ev.forget (ls' := [.ref x0, .ref x1, .int x2, .int (((x3.toUInt32 >>> ((1 : Int32).toUInt32 &&& Int32.toUInt32 31)).toInt32) ||| (x3 &&& (1 : Int32))), .int (x4 + (1 : Int32)), ev_unk, ev_unk]) ⟨Or.inr rfl, Or.inr rfl, Or.inr rfl, Or.inr rfl, Or.inr rfl, Or.inl rfl, Or.inl rfl, trivial⟩ <|
      (k4 c1 c2_2)
    else
    Ev.tswd (t := 96) (o := 64) (lo := 0) (hi := 2) (offs := #[28, 35, 55]) (len := 28) (by decide +kernel) (by have qc2_0 := ne_i (v := 0) (0 : Int32) (by decide) c2_0; have qc2_1 := ne_i (v := 1) (1 : Int32) (by decide) c2_1; have qc2_2 := ne_i (v := 2) (2 : Int32) (by decide) c2_2; omega) rfl <|
      Ev.go (pc' := 104) (ls' := [.ref x0, .ref x1, .int x2, .int x3, .int x4, .int (x3 &&& (1 : Int32)), .int ((x3.toUInt32 >>> ((1 : Int32).toUInt32 &&& Int32.toUInt32 31)).toInt32)]) (st' := [.int x4, .int x2, .ref x1, .ref x0, .int (x3 <<< ((1 : Int32) &&& 31))]) [.iload_n 3, .iconst 1, .ishl, .aload_n 0, .aload_n 1, .iload_n 2, .iload 4] (by decide +kernel) rfl <|
      Ev.cV0 (M' := M_Fi_holdsFact) (as := [.ref x1, .int x2, .int x4]) (rest := [.int (x3 <<< ((1 : Int32) &&& 31))]) l_Fi_46 M_Fi_holdsFact_ok M_Fi_holdsFact_in M_Fi_holdsFact_se (by decide +kernel) ⟨_, a1⟩ rfl rfl rfl (Nat.le_of_ble_eq_true rfl) (Nat.le_of_ble_eq_true rfl) (k5 c1 c2_0 c2_1 c2_2)
    
  ) (fun c1 =>
    Ev.go (pc' := 127) (ls' := [.ref x0, .ref x1, .int x2, .int x3, .int x4, ev_unk, ev_unk]) (st' := [.int (1 : Int32), .int (x3 &&& (1 : Int32))]) [.iload_n 3, .iconst 1, .iand, .iconst 1] (by decide +kernel) rfl <|
    Ev.br (i := .if_icmp .ne (7)) (P := (x3 &&& (1 : Int32)) = (1 : Int32)) (t := 130) (f := 134) (r := []) (by decide +kernel) rfl (fun c2 =>
      Ev.go (pc' := 135) (ls' := [.ref x0, .ref x1, .int x2, .int x3, .int x4, ev_unk, ev_unk]) (st' := [.int (1 : Int32)]) [.iconst 1, .goto (4)] (by decide +kernel) rfl <|
      Ev.ret (r := (some (.int (1 : Int32)))) (Or.inl ⟨_, rfl, by decide +kernel, _, rfl, rfl⟩) (k6 c1 c2)
    ) (fun c2 =>
      Ev.go (pc' := 135) (ls' := [.ref x0, .ref x1, .int x2, .int x3, .int x4, ev_unk, ev_unk]) (st' := [.int (0 : Int32)]) [.iconst 0] (by decide +kernel) rfl <|
      Ev.ret (r := (some (.int (0 : Int32)))) (Or.inl ⟨_, rfl, by decide +kernel, _, rfl, rfl⟩) (k7 c1 c2)
    )
  )
theorem b_Fi_holds_107 {G : ev_G} {d k n : Nat} {h : ev_H} {R : Option Value → ev_H → Prop} {x0 : Nat} {x1 : Nat} {x2 : Int32} {x3 : Int32} {x4 : Int32} {x5 : Int32} {x6 : Int32} {y0 : Int32} {y1 : Int32}
  (k1 : y1 = (0 : Int32) → Ev G (d + 1) k n M_Fi_holds 5 [.ref x0, .ref x1, .int x2, .int (y0 ||| (0 : Int32)), .int (x4 + (1 : Int32)), ev_unk, ev_unk] [] h R)
  (k2 : ¬ y1 = (0 : Int32) → Ev G (d + 1) k n M_Fi_holds 5 [.ref x0, .ref x1, .int x2, .int (y0 ||| (1 : Int32)), .int (x4 + (1 : Int32)), ev_unk, ev_unk] [] h R)
  : Ev G (d + 1) k n M_Fi_holds 107 [.ref x0, .ref x1, .int x2, .int x3, .int x4, .int x5, .int x6] [.int y1, .int y0] h R :=
  Ev.br (i := .ifCond .eq (7)) (P := y1 = (0 : Int32)) (t := 114) (f := 110) (r := [.int y0]) (by decide +kernel) rfl (fun c1 =>
    Ev.go (pc' := 5) (ls' := [.ref x0, .ref x1, .int x2, .int (y0 ||| (0 : Int32)), .int (x4 + (1 : Int32)), .int x5, .int x6]) (st' := []) [.iconst 0, .ior, .istore_n 3, .iinc 4 (1), .goto (-115)] (by decide +kernel) rfl <|
    Ev.forget (ls' := [.ref x0, .ref x1, .int x2, .int (y0 ||| (0 : Int32)), .int (x4 + (1 : Int32)), ev_unk, ev_unk]) ⟨Or.inr rfl, Or.inr rfl, Or.inr rfl, Or.inr rfl, Or.inr rfl, Or.inl rfl, Or.inl rfl, trivial⟩ <|
    (k1 c1)
  ) (fun c1 =>
    Ev.go (pc' := 5) (ls' := [.ref x0, .ref x1, .int x2, .int (y0 ||| (1 : Int32)), .int (x4 + (1 : Int32)), .int x5, .int x6]) (st' := []) [.iconst 1, .goto (4), .ior, .istore_n 3, .iinc 4 (1), .goto (-115)] (by decide +kernel) rfl <|
    Ev.forget (ls' := [.ref x0, .ref x1, .int x2, .int (y0 ||| (1 : Int32)), .int (x4 + (1 : Int32)), ev_unk, ev_unk]) ⟨Or.inr rfl, Or.inr rfl, Or.inr rfl, Or.inr rfl, Or.inr rfl, Or.inl rfl, Or.inl rfl, trivial⟩ <|
    (k2 c1)
  )
section S15
variable {G : ev_G} {d : Nat} {h : ev_H} {R : Option Value → ev_H → Prop} {a f : Nat} {S : AS} {fl : List AStp}
theorem evP_succ {i : Nat} {c : Nat} {s : AStp} (hg : fl[i]? = some s) : evP S c fl (i + 1) = stp1 S c s (evP S c fl i) := by
  show (match fl[i]? with
      | some s => stp1 S c s (evP S c fl i)
      | none => evP S c fl i) = _
  rw [hg]
theorem stp1_0 {s : AStp} {c : Nat} {b : Bool} {r : List Bool} (e : s.1 = 0) : stp1 S c s (b :: r) = (!b) :: r := by unfold stp1; rw [if_pos e]
theorem stp1_1 {s : AStp} {c : Nat} {y x : Bool} {r : List Bool} (e : s.1 = 1) : stp1 S c s (y :: x :: r) = (x && y) :: r := by unfold stp1; rw [if_neg (by omega), if_pos e]
theorem stp1_2 {s : AStp} {c : Nat} {y x : Bool} {r : List Bool} (e : s.1 = 2) : stp1 S c s (y :: x :: r) = (x || y) :: r := by unfold stp1; rw [if_neg (by omega), if_neg (by omega), if_pos e]
theorem stp1_3 {s : AStp} {c : Nat} {l : List Bool} (e : 3 ≤ s.1) : stp1 S c s l = fcB S c s :: l := by unfold stp1; rw [if_neg (by omega), if_neg (by omega), if_neg (by omega)]
theorem s_Fi_holds {cI : Int32} {cc : Nat} (hF : FiR h f fl) (hS : StR h a S) (ok : sOk S) (hok : flOk fl) (hc : cI = nI cc ∧ cc < sN S) (hR : R (some (.int (b2i ((evP S cc fl fl.length).headD false)))) h) : Ev G (d + 4) 0 0 M_Fi_holds 0 [.ref f, .ref a, .int cI, ev_unk, ev_unk, ev_unk, ev_unk] [] h R := by
  have hF0 := hF
  obtain ⟨f0, ks, ss, ps, bs, frs, f1, f2, f3, f4, f5, hst⟩ := hF
  have hl3 := hok.1
  refine b_Fi_holds_0 ?_
  have := up0 (P := fun i => Ev G (d + 4) 0 0 M_Fi_holds 5 [.ref f, .ref a, .int cI, .int (stI (evP S cc fl i)), .int (nI i), ev_unk, ev_unk] [] h R) fl.length ?_ ?_
  · rw [← stI_nil]; exact this
  · intro i hi ih
    have hg : fl[i]? = some fl[i] := List.getElem?_eq_getElem hi
    have hlt : nI i < nI fl.length := nI_lt hi (by omega)
    obtain ⟨g1, g2, g3, g4, g5⟩ := hst i _ hg
    obtain ⟨hs, q0, q1, hdp⟩ := hok.2.1 i _ hg
    have hlen := evP_len S cc hok i (by omega)
    rw [← hlen] at q0 q1 hdp
    rw [evP_succ hg] at ih
    have w : ∀ k : Nat, k < 100 → (ks i = nI k ↔ fl[i].1 = k) := fun k hk => by rw [g1]; exact nI3 (by have := hs.1; omega) k hk
    refine b_Fi_holds_5 f0 f1 (fun _ => ixn hi (by omega)) (fun _ c => ?_) (fun _ c c2 => ?_) (fun _ c c2 => ?_) (fun _ c => ?_) (fun _ c c2 c3 => ?_) (fun c => absurd hlt c) (fun c => absurd hlt c)
    · have e := (w 0 (by decide)).mp c
      match hm : evP S cc fl i, q0 e with
      | b :: r, _ =>
        rw [hm, stp1_0 e] at ih
        rw [stI_not, nI_1]; exact ih
    · have e := (w 1 (by decide)).mp c
      match hm : evP S cc fl i, q1 (Or.inl e) with
      | y :: x :: r, _ =>
        rw [hm, stp1_1 e] at ih
        rw [hm] at hdp c2
        rw [stI_top, b2i_1] at c2
        rw [c2, Bool.and_true] at ih
        rw [stI_rest _ (by simp at hdp ⊢; omega), nI_1]; exact ih
    · have e := (w 1 (by decide)).mp c
      match hm : evP S cc fl i, q1 (Or.inl e) with
      | y :: x :: r, _ =>
        rw [hm, stp1_1 e] at ih
        rw [hm] at hdp c2
        rw [stI_top, b2i_1] at c2
        have c2 : y = false := by cases y <;> simp_all
        rw [c2, Bool.and_false] at ih
        rw [stI_rest _ (by simp at hdp ⊢; omega), stI_and0, nI_1]; exact ih
    · have e := (w 2 (by decide)).mp c
      match hm : evP S cc fl i, q1 (Or.inr e) with
      | y :: x :: r, _ =>
        rw [hm, stp1_2 e] at ih
        rw [hm] at hdp
        rw [stI_rest _ (by simp at hdp ⊢; omega), stI_top, stI_or, nI_1]; exact ih
    · have h3 : 3 ≤ fl[i].1 := by
        have z0 : ¬ fl[i].1 = 0 := fun z => c ((w 0 (by decide)).mpr z)
        have z1 : ¬ fl[i].1 = 1 := fun z => c2 ((w 1 (by decide)).mpr z)
        have z2 : ¬ fl[i].1 = 2 := fun z => c3 ((w 2 (by decide)).mpr z)
        omega
      rw [stp1_3 h3] at ih
      refine s_Fi_holdsFact hF0 hS ok hc ⟨rfl, hg, hs, hl3, h3⟩ ?_
      show Ev G (d + 4) 0 0 M_Fi_holds 107 _ [.int (b2i (fcB S cc fl[i])), .int (stI (evP S cc fl i) <<< ((1 : Int32) &&& 31))] h R
      have hp := stI_push (fcB S cc fl[i]) (l := evP S cc fl i) (by omega)
      refine b_Fi_holds_107 (fun c => ?_) (fun c => ?_)
      · rw [b2i_e0 c] at ih hp
        rw [nI_1]; rw [← hp] at ih; exact ih
      · rw [b2i_n0 c] at ih hp
        rw [nI_1]; rw [← hp] at ih; exact ih
  · have hlen := evP_len S cc hok fl.length (Nat.le_refl _)
    rw [hok.2.2] at hlen
    match hm : evP S cc fl fl.length, hlen with
    | [b], _ =>
      rw [hm] at hR
      refine b_Fi_holds_5 f0 f1 (j3 := 0) (fun c => absurd c (nl_self (by omega))) (fun c => absurd c (nl_self (by omega))) (fun c => absurd c (nl_self (by omega))) (fun c => absurd c (nl_self (by omega))) (fun c => absurd c (nl_self (by omega))) (fun c => absurd c (nl_self (by omega))) (fun _ q => ?_) (fun _ q => ?_)
      · rw [stI_top, b2i_1] at q; rw [q] at hR; exact hR
      · rw [stI_top, b2i_1] at q; have q : b = false := by cases b <;> simp_all
        rw [q] at hR; exact hR
end S15
theorem b_St_counting_0n {G : ev_G} {d k n : Nat} {h : ev_H} {R : Option Value → ev_H → Prop} {x0 : Nat} {f_bits_1 : Int32} {f_parts_2 : Int32} {f_size_3 : Int32} {S4 : AS}
  (a1 : hat h x0 (oC 6 [.int f_bits_1, .int f_parts_2, .ref (x0 + 1), .int f_size_3, .ref (x0 + 2), .ref (x0 + 3), .null]))
  (pr2 : StR h x0 S4)
  (pr3 : sOk S4)
  (k1 : R (some (.int (setI (allP S4)))) h)
  : Ev G (d + 5) k n M_St_counting 0 [.ref x0, ev_unk, ev_unk] [] h R :=
  Ev.go (pc' := 1) (ls' := [.ref x0, ev_unk, ev_unk]) (st' := [.ref x0]) [.aload_n 0] (by decide +kernel) rfl <|
  Ev.getf f_St_32 (by decide +kernel) a1 rfl <|
  Ev.nnN (o := 8) (by decide +kernel) <|
  Ev.go (pc' := 8) (ls' := [.ref x0, ev_unk, ev_unk]) (st' := [.ref x0]) [.aload_n 0] (by decide +kernel) rfl <|
  Ev.cV0 (M' := M_St_all) (as := []) (rest := []) l_St_55 M_St_all_ok M_St_all_in M_St_all_se (by decide +kernel) ⟨_, a1⟩ rfl rfl rfl (Nat.le_of_ble_eq_true rfl) (Nat.le_of_ble_eq_true rfl) (s_St_all pr2 pr3 <| show Ev G (d + 5) _ _ M_St_counting 11 [.ref x0, ev_unk, ev_unk] [.int (setI (allP S4))] h R from
    Ev.ret (r := (some (.int (setI (allP S4))))) (Or.inl ⟨_, rfl, by decide +kernel, _, rfl, rfl⟩) k1
  )
theorem b_St_counting_0r {G : ev_G} {d k n : Nat} {h : ev_H} {R : Option Value → ev_H → Prop} {x0 : Nat} {f_bits_1 : Int32} {f_parts_2 : Int32} {f_size_3 : Int32} {ff4 : Nat}
  (a1 : hat h x0 (oC 6 [.int f_bits_1, .int f_parts_2, .ref (x0 + 1), .int f_size_3, .ref (x0 + 2), .ref (x0 + 3), .ref ff4]))
  (k1 : Ev G (d + 5) k n M_St_counting 16 [.ref x0, .int (0 : Int32), .int (0 : Int32)] [] h R)
  : Ev G (d + 5) k n M_St_counting 0 [.ref x0, ev_unk, ev_unk] [] h R :=
  Ev.go (pc' := 1) (ls' := [.ref x0, ev_unk, ev_unk]) (st' := [.ref x0]) [.aload_n 0] (by decide +kernel) rfl <|
  Ev.getf f_St_32 (by decide +kernel) a1 rfl <|
  Ev.nnR (t := 12) (o := 8) (by decide +kernel) rfl <|
  Ev.go (pc' := 16) (ls' := [.ref x0, .int (0 : Int32), .int (0 : Int32)]) (st' := []) [.iconst 0, .istore_n 1, .iconst 0, .istore_n 2] (by decide +kernel) rfl <|
  k1
theorem b_St_counting_16r {G : ev_G} {d k n : Nat} {h : ev_H} {R : Option Value → ev_H → Prop} {x0 : Nat} {x1 : Int32} {x2 : Int32} {f_bits_1 : Int32} {f_parts_2 : Int32} {f_size_3 : Int32} {ff4 : Nat} {S5 : AS} {L6 : List AStp} {c_7 : Nat}
  (a1 : hat h x0 (oC 6 [.int f_bits_1, .int f_parts_2, .ref (x0 + 1), .int f_size_3, .ref (x0 + 2), .ref (x0 + 3), .ref ff4]))
  (pr2 : x2 < f_size_3 → FiR h ff4 L6)
  (pr3 : x2 < f_size_3 → StR h x0 S5)
  (pr4 : x2 < f_size_3 → sOk S5)
  (pr5 : x2 < f_size_3 → flOk L6)
  (pr6 : x2 < f_size_3 → x2 = nI c_7 ∧ c_7 < sN S5)
  (r7 : x2 < f_size_3 → ∃ fs, hat h ff4 (oC 1 fs))
  (k1 : x2 < f_size_3 → (b2i ((evP S5 c_7 L6 L6.length).headD false)) = (0 : Int32) → Ev G (d + 5) k n M_St_counting 16 [.ref x0, .int x1, .int (x2 + (1 : Int32))] [] h R)
  (k2 : x2 < f_size_3 → ¬ (b2i ((evP S5 c_7 L6 L6.length).headD false)) = (0 : Int32) → Ev G (d + 5) k n M_St_counting 16 [.ref x0, .int (x1 ||| ((1 : Int32) <<< (x2 &&& 31))), .int (x2 + (1 : Int32))] [] h R)
  (k3 : ¬ x2 < f_size_3 → R (some (.int x1)) h)
  : Ev G (d + 5) k n M_St_counting 16 [.ref x0, .int x1, .int x2] [] h R :=
  Ev.go (pc' := 18) (ls' := [.ref x0, .int x1, .int x2]) (st' := [.ref x0, .int x2]) [.iload_n 2, .aload_n 0] (by decide +kernel) rfl <|
  Ev.getf f_St_22 (by decide +kernel) a1 rfl <|
  Ev.br (i := .if_icmp .ge (27)) (P := x2 < f_size_3) (t := 24) (f := 48) (r := []) (by decide +kernel) rfl (fun c1 =>
    Ev.go (pc' := 25) (ls' := [.ref x0, .int x1, .int x2]) (st' := [.ref x0]) [.aload_n 0] (by decide +kernel) rfl <|
    Ev.getf f_St_32 (by decide +kernel) a1 rfl <|
    Ev.go (pc' := 30) (ls' := [.ref x0, .int x1, .int x2]) (st' := [.int x2, .ref x0, .ref ff4]) [.aload_n 0, .iload_n 2] (by decide +kernel) rfl <|
    Ev.cV0 (M' := M_Fi_holds) (as := [.ref x0, .int x2]) (rest := []) l_St_59 M_Fi_holds_ok M_Fi_holds_in M_Fi_holds_se (by decide +kernel) (r7 c1) rfl rfl rfl (Nat.le_of_ble_eq_true rfl) (Nat.le_of_ble_eq_true rfl) (s_Fi_holds (pr2 c1) (pr3 c1) (pr4 c1) (pr5 c1) (pr6 c1) <| show Ev G (d + 5) _ _ M_St_counting 33 [.ref x0, .int x1, .int x2] [.int (b2i ((evP S5 c_7 L6 L6.length).headD false))] h R from
      Ev.br (i := .ifCond .eq (9)) (P := (b2i ((evP S5 c_7 L6 L6.length).headD false)) = (0 : Int32)) (t := 42) (f := 36) (r := []) (by decide +kernel) rfl (fun c2 =>
        Ev.go (pc' := 16) (ls' := [.ref x0, .int x1, .int (x2 + (1 : Int32))]) (st' := []) [.iinc 2 (1), .goto (-29)] (by decide +kernel) rfl <|
        (k1 c1 c2)
      ) (fun c2 =>
        Ev.go (pc' := 16) (ls' := [.ref x0, .int (x1 ||| ((1 : Int32) <<< (x2 &&& 31))), .int (x2 + (1 : Int32))]) (st' := []) [.iload_n 1, .iconst 1, .iload_n 2, .ishl, .ior, .istore_n 1, .iinc 2 (1), .goto (-29)] (by decide +kernel) rfl <|
        (k2 c1 c2)
      )
    )
  ) (fun c1 =>
    Ev.go (pc' := 49) (ls' := [.ref x0, .int x1, .int x2]) (st' := [.int x1]) [.iload_n 1] (by decide +kernel) rfl <|
    Ev.ret (r := (some (.int x1))) (Or.inl ⟨_, rfl, by decide +kernel, _, rfl, rfl⟩) (k3 c1)
  )
theorem b_St_sameKey_0 {G : ev_G} {d k n : Nat} {h : ev_H} {R : Option Value → ev_H → Prop} {x0 : Nat} {x1 : Int32} {x2 : Int32} {x3 : Int32} {S1 : AS} {c_2 : Nat} {p_3 : Nat}
  (pr1 : StR h x0 S1)
  (pr2 : sOk S1)
  (pr3 : x2 = nI c_2 ∧ c_2 < sN S1)
  (pr4 : x3 = nI p_3 ∧ p_3 < sP S1)
  (r5 : ∃ fs, hat h x0 (oC 6 fs))
  (k1 : Ev G (d + 1) k n M_St_sameKey 14 [.ref x0, .int x1, .int x2, .int x3, .int (0 : Int32), .int (nI (keyN (sCo S1 c_2) (stt S1 p_3) (sBr S1 p_3))), .int (0 : Int32)] [] h R)
  : Ev G (d + 1) k n M_St_sameKey 0 [.ref x0, .int x1, .int x2, .int x3, ev_unk, ev_unk, ev_unk] [] h R :=
  Ev.go (pc' := 6) (ls' := [.ref x0, .int x1, .int x2, .int x3, .int (0 : Int32), ev_unk, ev_unk]) (st' := [.int x3, .int x2, .ref x0]) [.iconst 0, .istore 4, .aload_n 0, .iload_n 2, .iload_n 3] (by decide +kernel) rfl <|
  Ev.cV0 (M' := M_St_keyOf) (as := [.int x2, .int x3]) (rest := []) l_St_73 M_St_keyOf_ok M_St_keyOf_in M_St_keyOf_se (by decide +kernel) r5 rfl rfl rfl (Nat.le_of_ble_eq_true rfl) (Nat.le_of_ble_eq_true rfl) (s_St_keyOf' pr1 pr2 pr3 pr4 <| show Ev G (d + 1) _ _ M_St_sameKey 9 [.ref x0, .int x1, .int x2, .int x3, .int (0 : Int32), ev_unk, ev_unk] [.int (nI (keyN (sCo S1 c_2) (stt S1 p_3) (sBr S1 p_3)))] h R from
    Ev.go (pc' := 14) (ls' := [.ref x0, .int x1, .int x2, .int x3, .int (0 : Int32), .int (nI (keyN (sCo S1 c_2) (stt S1 p_3) (sBr S1 p_3))), .int (0 : Int32)]) (st' := []) [.istore 5, .iconst 0, .istore 6] (by decide +kernel) rfl <|
    k1
  )
theorem b_St_sameKey_14 {G : ev_G} {d k n : Nat} {h : ev_H} {R : Option Value → ev_H → Prop} {x0 : Nat} {x1 : Int32} {x2 : Int32} {x3 : Int32} {x4 : Int32} {x5 : Int32} {x6 : Int32} {f_bits_1 : Int32} {f_parts_2 : Int32} {f_size_3 : Int32} {fv4 : Value} {S5 : AS} {c_6 : Nat} {p_7 : Nat}
  (a1 : hat h x0 (oC 6 [.int f_bits_1, .int f_parts_2, .ref (x0 + 1), .int f_size_3, .ref (x0 + 2), .ref (x0 + 3), fv4]))
  (pr2 : x6 < f_size_3 → ¬ (b2i (inI x1 x6)) = (0 : Int32) → StR h x0 S5)
  (pr3 : x6 < f_size_3 → ¬ (b2i (inI x1 x6)) = (0 : Int32) → sOk S5)
  (pr4 : x6 < f_size_3 → ¬ (b2i (inI x1 x6)) = (0 : Int32) → x6 = nI c_6 ∧ c_6 < sN S5)
  (pr5 : x6 < f_size_3 → ¬ (b2i (inI x1 x6)) = (0 : Int32) → x3 = nI p_7 ∧ p_7 < sP S5)
  (k1 : x6 < f_size_3 → (b2i (inI x1 x6)) = (0 : Int32) → Ev G (d + 1) k n M_St_sameKey 14 [.ref x0, .int x1, .int x2, .int x3, .int x4, .int x5, .int (x6 + (1 : Int32))] [] h R)
  (k2 : x6 < f_size_3 → ¬ (b2i (inI x1 x6)) = (0 : Int32) → (nI (keyN (sCo S5 c_6) (stt S5 p_7) (sBr S5 p_7))) = x5 → Ev G (d + 1) k n M_St_sameKey 14 [.ref x0, .int x1, .int x2, .int x3, .int (x4 ||| ((1 : Int32) <<< (x6 &&& 31))), .int x5, .int (x6 + (1 : Int32))] [] h R)
  (k3 : x6 < f_size_3 → ¬ (b2i (inI x1 x6)) = (0 : Int32) → ¬ (nI (keyN (sCo S5 c_6) (stt S5 p_7) (sBr S5 p_7))) = x5 → Ev G (d + 1) k n M_St_sameKey 14 [.ref x0, .int x1, .int x2, .int x3, .int x4, .int x5, .int (x6 + (1 : Int32))] [] h R)
  (k4 : ¬ x6 < f_size_3 → R (some (.int x4)) h)
  : Ev G (d + 1) k n M_St_sameKey 14 [.ref x0, .int x1, .int x2, .int x3, .int x4, .int x5, .int x6] [] h R :=
  Ev.go (pc' := 17) (ls' := [.ref x0, .int x1, .int x2, .int x3, .int x4, .int x5, .int x6]) (st' := [.ref x0, .int x6]) [.iload 6, .aload_n 0] (by decide +kernel) rfl <|
  Ev.getf f_St_22 (by decide +kernel) a1 rfl <|
  Ev.br (i := .if_icmp .ge (39)) (P := x6 < f_size_3) (t := 23) (f := 59) (r := []) (by decide +kernel) rfl (fun c1 =>
    Ev.go (pc' := 26) (ls' := [.ref x0, .int x1, .int x2, .int x3, .int x4, .int x5, .int x6]) (st' := [.int x6, .int x1]) [.iload_n 1, .iload 6] (by decide +kernel) rfl <|
    Ev.cSN0 (M' := M_X_isIn) (as := [.int x1, .int x6]) (rest := []) l_St_65 M_X_isIn_ok M_X_isIn_st (by decide +kernel) rfl rfl (Nat.le_of_ble_eq_true rfl) (Nat.le_of_ble_eq_true rfl) (s_X_isIn <| show Ev G (d + 1) _ _ M_St_sameKey 29 [.ref x0, .int x1, .int x2, .int x3, .int x4, .int x5, .int x6] [.int (b2i (inI x1 x6))] h R from
      Ev.br (i := .ifCond .eq (24)) (P := (b2i (inI x1 x6)) = (0 : Int32)) (t := 53) (f := 32) (r := []) (by decide +kernel) rfl (fun c2 =>
        Ev.go (pc' := 14) (ls' := [.ref x0, .int x1, .int x2, .int x3, .int x4, .int x5, .int (x6 + (1 : Int32))]) (st' := []) [.iinc 6 (1), .goto (-42)] (by decide +kernel) rfl <|
        (k1 c1 c2)
      ) (fun c2 =>
        Ev.go (pc' := 36) (ls' := [.ref x0, .int x1, .int x2, .int x3, .int x4, .int x5, .int x6]) (st' := [.int x3, .int x6, .ref x0]) [.aload_n 0, .iload 6, .iload_n 3] (by decide +kernel) rfl <|
        Ev.cV0 (M' := M_St_keyOf) (as := [.int x6, .int x3]) (rest := []) l_St_73 M_St_keyOf_ok M_St_keyOf_in M_St_keyOf_se (by decide +kernel) ⟨_, a1⟩ rfl rfl rfl (Nat.le_of_ble_eq_true rfl) (Nat.le_of_ble_eq_true rfl) (s_St_keyOf' (pr2 c1 c2) (pr3 c1 c2) (pr4 c1 c2) (pr5 c1 c2) <| show Ev G (d + 1) _ _ M_St_sameKey 39 [.ref x0, .int x1, .int x2, .int x3, .int x4, .int x5, .int x6] [.int (nI (keyN (sCo S5 c_6) (stt S5 p_7) (sBr S5 p_7)))] h R from
          Ev.go (pc' := 41) (ls' := [.ref x0, .int x1, .int x2, .int x3, .int x4, .int x5, .int x6]) (st' := [.int x5, .int (nI (keyN (sCo S5 c_6) (stt S5 p_7) (sBr S5 p_7)))]) [.iload 5] (by decide +kernel) rfl <|
          Ev.br (i := .if_icmp .ne (12)) (P := (nI (keyN (sCo S5 c_6) (stt S5 p_7) (sBr S5 p_7))) = x5) (t := 44) (f := 53) (r := []) (by decide +kernel) rfl (fun c3 =>
            Ev.go (pc' := 14) (ls' := [.ref x0, .int x1, .int x2, .int x3, .int (x4 ||| ((1 : Int32) <<< (x6 &&& 31))), .int x5, .int (x6 + (1 : Int32))]) (st' := []) [.iload 4, .iconst 1, .iload 6, .ishl, .ior, .istore 4, .iinc 6 (1), .goto (-42)] (by decide +kernel) rfl <|
            (k2 c1 c2 c3)
          ) (fun c3 =>
            Ev.go (pc' := 14) (ls' := [.ref x0, .int x1, .int x2, .int x3, .int x4, .int x5, .int (x6 + (1 : Int32))]) (st' := []) [.iinc 6 (1), .goto (-42)] (by decide +kernel) rfl <|
            (k3 c1 c2 c3)
          )
        )
      )
    )
  ) (fun c1 =>
    Ev.go (pc' := 61) (ls' := [.ref x0, .int x1, .int x2, .int x3, .int x4, .int x5, .int x6]) (st' := [.int x4]) [.iload 4] (by decide +kernel) rfl <|
    Ev.ret (r := (some (.int x4))) (Or.inl ⟨_, rfl, by decide +kernel, _, rfl, rfl⟩) (k4 c1)
  )
section S15
variable {G : ev_G} {d : Nat} {h : ev_H} {R : Option Value → ev_H → Prop} {a f : Nat} {S : AS} {fl : List AStp}
theorem s_St_counting (hS : StR h a S) (ok : sOk S) (hok : sFl S = [] ∨ flOk (sFl S)) (hR : R (some (.int (setI (ctP S)))) h) : Ev G (d + 5) 0 0 M_St_counting 0 [.ref a, ev_unk, ev_unk] [] h R := by
  have hS0 := hS
  have hz := ok.2.2.2.2.1
  obtain ⟨brf, tgf, cof, fv, h1, h2, h3, h4, e1, e2, hv⟩ := hS
  rcases hv with ⟨hn, rfl⟩ | ⟨hn, f, rfl, -, hF⟩
  · have e : setI (ctP S) = setI (allP S) := setI_congr fun j hj => by unfold ctP allP; rw [hn]; simp
    rw [e] at hR
    exact b_St_counting_0n h1 hS0 ok hR
  · have hfl := hok.resolve_left hn
    refine b_St_counting_0r h1 ?_
    have hem : (sFl S).isEmpty = false := by cases q : sFl S <;> simp_all
    have := up0 (P := fun i => Ev G (d + 5) 0 0 M_St_counting 16 [.ref a, .int (setI (fun j => decide (j < i) && ctP S j)), .int (nI i)] [] h R) (sN S) ?_ ?_
    · rw [setI_lt0] at this; exact this
    · intro i hi ih
      have hct : ctP S i = holdsB S i := by unfold ctP; rw [decide_eq_true hi, hem]; simp
      refine b_St_counting_16r (S5 := S) (L6 := sFl S) (c_7 := i) h1 (fun _ => hF) (fun _ => hS0) (fun _ => ok) (fun _ => hfl) (fun _ => ⟨rfl, hi⟩) (fun _ => ⟨_, hF.1⟩) (fun _ c => ?_) (fun _ c => ?_) (fun c => absurd (nI_lt hi (by omega)) c)
      · have c := b2i_e0 c
        rw [nI_1, setI_skip (ctP S) (hct.trans c)]; exact ih
      · have c := b2i_n0 c
        rw [nI_1, setI_add (ctP S) (by omega) (hct.trans c)]; exact ih
    · refine b_St_counting_16r (S5 := S) (L6 := sFl S) (c_7 := 0) h1 (fun c => absurd c (nl_self (by omega))) (fun c => absurd c (nl_self (by omega))) (fun c => absurd c (nl_self (by omega))) (fun c => absurd c (nl_self (by omega))) (fun c => absurd c (nl_self (by omega))) (fun c => absurd c (nl_self (by omega))) (fun c => absurd c (nl_self (by omega))) (fun c => absurd c (nl_self (by omega))) (fun _ => ?_)
      have e : setI (fun j => decide (j < sN S) && ctP S j) = setI (ctP S) := setI_congr fun j hj => by unfold ctP; cases decide (j < sN S) <;> simp
      rw [e]; exact hR
/-- which codes of a set have the key of a code in a part -/
def skP (S : AS) (p : Nat → Bool) (c q : Nat) (j : Nat) : Bool := decide (j < sN S) && p j && decide (keyN (sCo S j) (stt S q) (sBr S q) = keyN (sCo S c) (stt S q) (sBr S q))
theorem keyN_ltI (ok : sOk S) {p : Nat} (hp : p < sP S) (x : Int64) (st : Nat) : keyN x st (sBr S p) < 2147483648 := by
  have h1 := keyN_lt x st (sBr S p)
  have h2 := ok.2.2.2.2.2.1 _ hp
  have : 2 ^ sBr S p ≤ 2 ^ 24 := Nat.pow_le_pow_right (by decide) h2
  omega
theorem s_St_sameKey {set cI pI : Int32} {c p : Nat} (hS : StR h a S) (ok : sOk S) (hc : cI = nI c ∧ c < sN S) (hp : pI = nI p ∧ p < sP S) (hR : R (some (.int (setI (skP S (bt set) c p)))) h) : Ev G (d + 1) 0 0 M_St_sameKey 0 [.ref a, .int set, .int cI, .int pI, ev_unk, ev_unk, ev_unk] [] h R := by
  have hS0 := hS
  have hz := ok.2.2.2.2.1
  obtain ⟨brf, tgf, cof, fv, h1, h2, h3, h4, e1, e2, hv⟩ := hS
  refine b_St_sameKey_0 hS0 ok hc hp ⟨_, h1⟩ ?_
  have := up0 (P := fun i => Ev G (d + 1) 0 0 M_St_sameKey 14 [.ref a, .int set, .int cI, .int pI, .int (setI (fun j => decide (j < i) && skP S (bt set) c p j)), .int (nI (keyN (sCo S c) (stt S p) (sBr S p))), .int (nI i)] [] h R) (sN S) ?_ ?_
  · rw [setI_lt0] at this; exact this
  · intro i hi ih
    refine b_St_sameKey_14 (S5 := S) (c_6 := i) (p_7 := p) h1 (fun _ _ => hS0) (fun _ _ => ok) (fun _ _ => ⟨rfl, hi⟩) (fun _ _ => hp) (fun _ q => ?_) (fun _ q q2 => ?_) (fun _ q q2 => ?_) (fun q => absurd (nI_lt hi (by omega)) q)
    · rw [inI_n (by omega)] at q
      have hk : skP S (bt set) c p i = false := by unfold skP; rw [b2i_e0 q]; simp
      rw [nI_1, setI_skip _ hk]; exact ih
    · rw [inI_n (by omega)] at q
      have hk : skP S (bt set) c p i = true := by unfold skP; rw [b2i_n0 q, decide_eq_true hi, decide_eq_true ((nI_eq (by have := keyN_ltI ok hp.2 (sCo S i) (stt S p); omega) (by have := keyN_ltI ok hp.2 (sCo S c) (stt S p); omega)).mp q2)]; rfl
      rw [nI_1, setI_add _ (by omega) hk]; exact ih
    · have z : ¬ keyN (sCo S i) (stt S p) (sBr S p) = keyN (sCo S c) (stt S p) (sBr S p) := fun z => q2 (by rw [z])
      have hk : skP S (bt set) c p i = false := by unfold skP; rw [decide_eq_false z]; simp
      rw [nI_1, setI_skip _ hk]; exact ih
  · refine b_St_sameKey_14 (S5 := S) (c_6 := 0) (p_7 := 0) h1 (fun c => absurd c (nl_self (by omega))) (fun c => absurd c (nl_self (by omega))) (fun c => absurd c (nl_self (by omega))) (fun c => absurd c (nl_self (by omega))) (fun c => absurd c (nl_self (by omega))) (fun c => absurd c (nl_self (by omega))) (fun c => absurd c (nl_self (by omega))) (fun _ => ?_)
    have e : setI (fun j => decide (j < sN S) && skP S (bt set) c p j) = setI (skP S (bt set) c p) := setI_congr fun j hj => by unfold skP; cases decide (j < sN S) <;> simp
    rw [e]; exact hR
end S15
end
section
/-! WRITERS of a store -/
/-- only cells lo to hi - 1 changed, none made -/
def Kp (h h' : ev_H) (lo hi : Nat) : Prop := h'.1 = h.1 ∧ ∀ b, b < h.1 → (b < lo ∨ hi ≤ b) → h'.2 b = h.2 b
/-- cells may have been made -/
def Kg (h h' : ev_H) (lo hi : Nat) : Prop := h.1 ≤ h'.1 ∧ ∀ b, b < h.1 → (b < lo ∨ hi ≤ b) → h'.2 b = h.2 b
section S16
variable {h h1 h2 h3 : ev_H} {lo hi lo' hi' : Nat}
theorem Kp.g (a : Kp h1 h2 lo hi) : Kg h1 h2 lo hi := ⟨Nat.le_of_eq a.1.symm, a.2⟩
theorem Kp.refl (h : ev_H) (lo hi : Nat) : Kp h h lo hi := ⟨rfl, fun _ _ _ => rfl⟩
theorem Kg.trans (a : Kg h1 h2 lo hi) (b : Kg h2 h3 lo hi) : Kg h1 h3 lo hi := ⟨Nat.le_trans a.1 b.1, fun x hx q => (b.2 x (Nat.lt_of_lt_of_le hx a.1) q).trans (a.2 x hx q)⟩
theorem Kp.trans (a : Kp h1 h2 lo hi) (b : Kp h2 h3 lo hi) : Kp h1 h3 lo hi := ⟨b.1.trans a.1, fun x hx q => (b.2 x (by rw [a.1]; exact hx) q).trans (a.2 x hx q)⟩
theorem Kp.wide (a : Kp h1 h2 lo hi) (hl : lo' ≤ lo) (hh : hi ≤ hi') : Kp h1 h2 lo' hi' := ⟨a.1, fun x hx q => a.2 x hx (by omega)⟩
theorem Kg.wide (a : Kg h1 h2 lo hi) (hl : lo' ≤ lo) (hh : hi ≤ hi') : Kg h1 h2 lo' hi' := ⟨a.1, fun x hx q => a.2 x hx (by omega)⟩
theorem Kp.set (a : Kp h h1 lo hi) {k : Nat} (c : ev_C) (hl : lo ≤ k) (hh : k < hi) : Kp h (hset h1 k c) lo hi := ⟨a.1, fun x hx q => (hset_ne h1 c (by omega)).trans (a.2 x hx q)⟩
theorem Kg.set (a : Kg h h1 lo hi) {k : Nat} (c : ev_C) (hl : lo ≤ k) (hh : k < hi) : Kg h (hset h1 k c) lo hi := ⟨a.1, fun x hx q => (hset_ne h1 c (by omega)).trans (a.2 x hx q)⟩
theorem Kg.push (a : Kg h h1 lo hi) (c : ev_C) : Kg h (hpush h1 c) lo hi := ⟨Nat.le_succ_of_le a.1, fun x hx q => (hpush_ne h1 c (by have := a.1; omega)).trans (a.2 x hx q)⟩
theorem Kg.hat (a : Kg h h1 lo hi) {b : Nat} {c : ev_C} (H : hat h b c) (q : b < lo ∨ hi ≤ b) : hat h1 b c := ⟨Nat.lt_of_lt_of_le H.1 a.1, (a.2 b H.1 q).trans H.2⟩
theorem Kp.hat (a : Kp h h1 lo hi) {b : Nat} {c : ev_C} (H : hat h b c) (q : b < lo ∨ hi ≤ b) : hat h1 b c := a.g.hat H q
theorem FiR.kg {f : Nat} {fl : List AStp} (F : FiR h f fl) (a : Kg h h1 lo hi) (q : hi ≤ f) : FiR h1 f fl := by
  obtain ⟨f0, ks, ss, ps, bs, frs, f1, f2, f3, f4, f5, hst⟩ := F
  exact ⟨a.hat f0 (by omega), ks, ss, ps, bs, frs, a.hat f1 (by omega), a.hat f2 (by omega), a.hat f3 (by omega), a.hat f4 (by omega), a.hat f5 (by omega), hst⟩
theorem FvR.kg {fv : Value} {fl : List AStp} (F : FvR h fv fl) (a : Kg h h1 lo hi) (q : hi ≤ 126) : FvR h1 fv fl := by
  rcases F with F | ⟨e, f, e1, e2, F⟩
  · exact Or.inl F
  · exact Or.inr ⟨e, f, e1, e2, F.kg a (Nat.le_trans q e2)⟩
theorem StR.kg {b : Nat} {S : AS} (H : StR h b S) (a : Kg h h1 lo hi) (q : hi ≤ 126) (q2 : b + 4 ≤ lo ∨ hi ≤ b) : StR h1 b S := by
  obtain ⟨brf, tgf, cof, fv, t1, t2, t3, t4, e1, e2, F⟩ := H
  exact ⟨brf, tgf, cof, fv, a.hat t1 (by omega), a.hat t2 (by omega), a.hat t3 (by omega), a.hat t4 (by omega), e1, e2, F.kg a q⟩
theorem StR.kp {b : Nat} {S : AS} (H : StR h b S) (a : Kp h h1 lo hi) (q : hi ≤ 126) (q2 : b + 4 ≤ lo ∨ hi ≤ b) : StR h1 b S := H.kg a.g q q2
theorem hat.lt {b : Nat} {c : ev_C} (H : hat h b c) : b < h.1 := H.1
end S16
def mkS (B P N : Nat) (br : Nat → Nat) (co : Nat → Int64) (tg : Nat → Nat) (fl : List AStp) : AS := (B, P, N, br, co, tg, fl)
def clrS (S : AS) : AS := mkS 16 (sP S) 0 (sBr S) (sCo S) (sTg S) []
def halS (S : AS) : AS := mkS (sB S) 2 (sN S) (fun i => if i = 0 then sB S - sB S / 2 else if i = 1 then sB S / 2 else sBr S i) (sCo S) (sTg S) (sFl S)
def apS (S : AS) (c : Int64) (t : Nat) : AS := if sN S < 32 then mkS (sB S) (sP S) (sN S + 1) (sBr S) (fun i => if i = sN S then c else sCo S i) (fun i => if i = sN S then t else sTg S i) (sFl S) else S
def drS (S : AS) (c : Nat) : AS := mkS (sB S) (sP S) (sN S - 1) (sBr S) (fun i => if i < c then sCo S i else sCo S (i + 1)) (fun i => if i < c then sTg S i else sTg S (i + 1)) (sFl S)
def exC (x : Int64) (b o : Nat) : Int64 := if lt x b = lt x o then x else x ^^^ (((1 : Int64) <<< ((nI b).toInt64 &&& 63)) ||| ((1 : Int64) <<< ((nI o).toInt64 &&& 63)))
def exS (S : AS) (b o : Nat) : AS := mkS (sB S) (sP S) (sN S) (sBr S) (fun i => exC (sCo S i) b o) (sTg S) (sFl S)
def cutS (S : AS) (p w : Nat) : AS := mkS (sB S) (sP S + 1) (sN S) (fun i => if i < p then sBr S i else if i = p then w else if i = p + 1 then sBr S p - w else sBr S (i - 1)) (sCo S) (sTg S) (sFl S)
def joinS (S : AS) (p : Nat) : AS := mkS (sB S) (sP S - 1) (sN S) (fun i => if i < p then sBr S i else if i = p then sBr S p + sBr S (p + 1) else sBr S (i + 1)) (sCo S) (sTg S) (sFl S)
theorem nI_div {a b : Nat} (ha : a < 2147483648) (hb : b < 2147483648) : nI a / nI b = nI (a / b) := by
  have := Nat.div_le_self a b
  apply Int32.toInt_inj.mp
  rw [Int32.toInt_div, nI_toInt (by omega), nI_toInt (by omega), nI_toInt (by omega), ← Int.ofNat_tdiv]
  generalize a / b = c at *
  exact Int.bmod_eq_of_le (by omega) (by omega)
theorem nI_sub {a b : Nat} (h : b ≤ a) : nI a - nI b = nI (a - b) := by
  rw [show nI a = nI (a - b) + nI b from by rw [nI_add, Nat.sub_add_cancel h]]
  exact Int32.add_sub_cancel _ _
theorem b_St_clear_0 {G : ev_G} {d k n : Nat} {h : ev_H} {R : Option Value → ev_H → Prop} {x0 : Nat} {f_bits_1 : Int32} {f_parts_2 : Int32} {f_size_3 : Int32} {fv4 : Value}
  (a1 : hat h x0 (oC 6 [.int f_bits_1, .int f_parts_2, .ref (x0 + 1), .int f_size_3, .ref (x0 + 2), .ref (x0 + 3), fv4]))
  (k1 : R none (hset (hset (hset h x0 (oC 6 [.int (16 : Int32), .int f_parts_2, .ref (x0 + 1), .int f_size_3, .ref (x0 + 2), .ref (x0 + 3), fv4])) x0 (oC 6 [.int (16 : Int32), .int f_parts_2, .ref (x0 + 1), .int (0 : Int32), .ref (x0 + 2), .ref (x0 + 3), fv4])) x0 (oC 6 [.int (16 : Int32), .int f_parts_2, .ref (x0 + 1), .int (0 : Int32), .ref (x0 + 2), .ref (x0 + 3), .null])))
  : Ev G d k n M_St_clear 0 [.ref x0] [] h R :=
  Ev.go (pc' := 3) (ls' := [.ref x0]) (st' := [.int (16 : Int32), .ref x0]) [.aload_n 0, .bipush (16)] (by decide +kernel) rfl <|
  Ev.putf f_St_9 (by decide +kernel) a1 (Nat.le_of_ble_eq_true rfl) rfl (fun q => nomatch q) <| show Ev G d _ _ M_St_clear 6 [.ref x0] [] (hset h x0 (oC 6 [.int (16 : Int32), .int f_parts_2, .ref (x0 + 1), .int f_size_3, .ref (x0 + 2), .ref (x0 + 3), fv4])) R from
  Ev.go (pc' := 8) (ls' := [.ref x0]) (st' := [.int (0 : Int32), .ref x0]) [.aload_n 0, .iconst 0] (by decide +kernel) rfl <|
  Ev.putf f_St_22 (by decide +kernel) (hat_set a1) (Nat.le_of_ble_eq_true rfl) rfl (fun q => nomatch q) <| show Ev G d _ _ M_St_clear 11 [.ref x0] [] (hset (hset h x0 (oC 6 [.int (16 : Int32), .int f_parts_2, .ref (x0 + 1), .int f_size_3, .ref (x0 + 2), .ref (x0 + 3), fv4])) x0 (oC 6 [.int (16 : Int32), .int f_parts_2, .ref (x0 + 1), .int (0 : Int32), .ref (x0 + 2), .ref (x0 + 3), fv4])) R from
  Ev.go (pc' := 13) (ls' := [.ref x0]) (st' := [.null, .ref x0]) [.aload_n 0, .aconst_null] (by decide +kernel) rfl <|
  Ev.putf f_St_32 (by decide +kernel) (hat_set (hat_set a1)) (Nat.le_of_ble_eq_true rfl) rfl (fun q => nomatch q) <| show Ev G d _ _ M_St_clear 16 [.ref x0] [] (hset (hset (hset h x0 (oC 6 [.int (16 : Int32), .int f_parts_2, .ref (x0 + 1), .int f_size_3, .ref (x0 + 2), .ref (x0 + 3), fv4])) x0 (oC 6 [.int (16 : Int32), .int f_parts_2, .ref (x0 + 1), .int (0 : Int32), .ref (x0 + 2), .ref (x0 + 3), fv4])) x0 (oC 6 [.int (16 : Int32), .int f_parts_2, .ref (x0 + 1), .int (0 : Int32), .ref (x0 + 2), .ref (x0 + 3), .null])) R from
  Ev.ret (r := none) (Or.inr (Or.inr (Or.inl ⟨rfl, by decide +kernel, rfl⟩))) k1
theorem b_St_halve_0 {G : ev_G} {d k n : Nat} {h : ev_H} {R : Option Value → ev_H → Prop} {x0 : Nat} {f_bits_1 : Int32} {f_parts_2 : Int32} {f_size_3 : Int32} {fv4 : Value} {g5 : Nat → Int32}
  (a1 : hat h x0 (oC 6 [.int f_bits_1, .int f_parts_2, .ref (x0 + 1), .int f_size_3, .ref (x0 + 2), .ref (x0 + 3), fv4]))
  (a2 : hat h (x0 + 1) (aI 6 g5))
  (k1 : R none (hset (hset (hset h x0 (oC 6 [.int f_bits_1, .int (2 : Int32), .ref (x0 + 1), .int f_size_3, .ref (x0 + 2), .ref (x0 + 3), fv4])) (x0 + 1) (aI 6 (upd g5 0 (f_bits_1 - (f_bits_1 / (2 : Int32)))))) (x0 + 1) (aI 6 (upd (upd g5 0 (f_bits_1 - (f_bits_1 / (2 : Int32)))) 1 (f_bits_1 / (2 : Int32))))))
  : Ev G d k n M_St_halve 0 [.ref x0] [] h R :=
  Ev.go (pc' := 2) (ls' := [.ref x0]) (st' := [.int (2 : Int32), .ref x0]) [.aload_n 0, .iconst 2] (by decide +kernel) rfl <|
  Ev.putf f_St_15 (by decide +kernel) a1 (Nat.le_of_ble_eq_true rfl) rfl (fun q => nomatch q) <| show Ev G d _ _ M_St_halve 5 [.ref x0] [] (hset h x0 (oC 6 [.int f_bits_1, .int (2 : Int32), .ref (x0 + 1), .int f_size_3, .ref (x0 + 2), .ref (x0 + 3), fv4])) R from
  Ev.go (pc' := 6) (ls' := [.ref x0]) (st' := [.ref x0]) [.aload_n 0] (by decide +kernel) rfl <|
  Ev.getf f_St_18 (by decide +kernel) (hat_set a1) rfl <|
  Ev.go (pc' := 11) (ls' := [.ref x0]) (st' := [.ref x0, .int (0 : Int32), .ref (x0 + 1)]) [.iconst 0, .aload_n 0] (by decide +kernel) rfl <|
  Ev.getf f_St_9 (by decide +kernel) (hat_set a1) rfl <|
  Ev.go (pc' := 15) (ls' := [.ref x0]) (st' := [.ref x0, .int f_bits_1, .int (0 : Int32), .ref (x0 + 1)]) [.aload_n 0] (by decide +kernel) rfl <|
  Ev.getf f_St_9 (by decide +kernel) (hat_set a1) rfl <|
  Ev.go (pc' := 19) (ls' := [.ref x0]) (st' := [.int (2 : Int32), .int f_bits_1, .int f_bits_1, .int (0 : Int32), .ref (x0 + 1)]) [.iconst 2] (by decide +kernel) rfl <|
  Ev.idiv (by decide +kernel) (by decide) <|
  Ev.go (pc' := 21) (ls' := [.ref x0]) (st' := [.int (f_bits_1 - (f_bits_1 / (2 : Int32))), .int (0 : Int32), .ref (x0 + 1)]) [.isub] (by decide +kernel) rfl <|
  Ev.iast (j := 0) (by decide +kernel) (hat_ne a2 (by omega)) ⟨rfl, by decide, by decide⟩ <| show Ev G d _ _ M_St_halve 22 [.ref x0] [] (hset (hset h x0 (oC 6 [.int f_bits_1, .int (2 : Int32), .ref (x0 + 1), .int f_size_3, .ref (x0 + 2), .ref (x0 + 3), fv4])) (x0 + 1) (aI 6 (upd g5 0 (f_bits_1 - (f_bits_1 / (2 : Int32)))))) R from
  Ev.go (pc' := 23) (ls' := [.ref x0]) (st' := [.ref x0]) [.aload_n 0] (by decide +kernel) rfl <|
  Ev.getf f_St_18 (by decide +kernel) (hat_ne (hat_set a1) (by omega)) rfl <|
  Ev.go (pc' := 28) (ls' := [.ref x0]) (st' := [.ref x0, .int (1 : Int32), .ref (x0 + 1)]) [.iconst 1, .aload_n 0] (by decide +kernel) rfl <|
  Ev.getf f_St_9 (by decide +kernel) (hat_ne (hat_set a1) (by omega)) rfl <|
  Ev.go (pc' := 32) (ls' := [.ref x0]) (st' := [.int (2 : Int32), .int f_bits_1, .int (1 : Int32), .ref (x0 + 1)]) [.iconst 2] (by decide +kernel) rfl <|
  Ev.idiv (by decide +kernel) (by decide) <|
  Ev.iast (j := 1) (by decide +kernel) (hat_set (hat_ne a2 (by omega))) ⟨rfl, by decide, by decide⟩ <| show Ev G d _ _ M_St_halve 34 [.ref x0] [] (hset (hset (hset h x0 (oC 6 [.int f_bits_1, .int (2 : Int32), .ref (x0 + 1), .int f_size_3, .ref (x0 + 2), .ref (x0 + 3), fv4])) (x0 + 1) (aI 6 (upd g5 0 (f_bits_1 - (f_bits_1 / (2 : Int32)))))) (x0 + 1) (aI 6 (upd (upd g5 0 (f_bits_1 - (f_bits_1 / (2 : Int32)))) 1 (f_bits_1 / (2 : Int32))))) R from
  Ev.ret (r := none) (Or.inr (Or.inr (Or.inl ⟨rfl, by decide +kernel, rfl⟩))) k1
theorem b_St_become_0 {G : ev_G} {d k n : Nat} {h : ev_H} {R : Option Value → ev_H → Prop} {x0 : Nat} {x1 : Nat} {f_bits_1 : Int32} {f_parts_2 : Int32} {f_size_3 : Int32} {fv4 : Value} {f_bits_5 : Int32} {f_parts_6 : Int32} {f_size_7 : Int32} {fv8 : Value} {g9 : Nat → Int32} {g10 : Nat → Int32} {g11 : Nat → Int64} {g12 : Nat → Int64} {g13 : Nat → Int32} {g14 : Nat → Int32}
  (a1 : hat h x1 (oC 6 [.int f_bits_1, .int f_parts_2, .ref (x1 + 1), .int f_size_3, .ref (x1 + 2), .ref (x1 + 3), fv4]))
  (a2 : hat h x0 (oC 6 [.int f_bits_5, .int f_parts_6, .ref (x0 + 1), .int f_size_7, .ref (x0 + 2), .ref (x0 + 3), fv8]))
  (a5 : hat h (x1 + 1) (aI 6 g9))
  (a7 : hat h (x0 + 1) (aI 6 g10))
  (a10 : hat h (x1 + 2) (aL 32 g11))
  (a13 : hat h (x0 + 2) (aL 32 g12))
  (a17 : hat h (x1 + 3) (aI 32 g13))
  (a21 : hat h (x0 + 3) (aI 32 g14))
  (e3 : x1 ≠ x0)
  (w4 : ev_fit (.object "AlikeStore$Filter") fv4 = true)
  (e6 : (x1 + 1) ≠ x0)
  (e8 : x1 ≠ (x0 + 1))
  (e9 : (x1 + 1) ≠ (x0 + 1))
  (e11 : (x1 + 2) ≠ x0)
  (e12 : (x1 + 2) ≠ (x0 + 1))
  (e14 : x1 ≠ (x0 + 2))
  (e15 : (x1 + 1) ≠ (x0 + 2))
  (e16 : (x1 + 2) ≠ (x0 + 2))
  (e18 : (x1 + 3) ≠ x0)
  (e19 : (x1 + 3) ≠ (x0 + 1))
  (e20 : (x1 + 3) ≠ (x0 + 2))
  (e22 : x1 ≠ (x0 + 3))
  (e23 : (x1 + 1) ≠ (x0 + 3))
  (e24 : (x1 + 2) ≠ (x0 + 3))
  (e25 : (x1 + 3) ≠ (x0 + 3))
  (k1 : R none (hset (hset (hset (hset (hset (hset (hset h x0 (oC 6 [.int f_bits_1, .int f_parts_6, .ref (x0 + 1), .int f_size_7, .ref (x0 + 2), .ref (x0 + 3), fv8])) x0 (oC 6 [.int f_bits_1, .int f_parts_2, .ref (x0 + 1), .int f_size_7, .ref (x0 + 2), .ref (x0 + 3), fv8])) x0 (oC 6 [.int f_bits_1, .int f_parts_2, .ref (x0 + 1), .int f_size_3, .ref (x0 + 2), .ref (x0 + 3), fv8])) x0 (oC 6 [.int f_bits_1, .int f_parts_2, .ref (x0 + 1), .int f_size_3, .ref (x0 + 2), .ref (x0 + 3), fv4])) (x0 + 1) (aI 6 (va_cpy g9 g10 0 0 6))) (x0 + 2) (aL 32 (va_cpy g11 g12 0 0 32))) (x0 + 3) (aI 32 (va_cpy g13 g14 0 0 32))))
  : Ev G (d + 1) k n M_St_become 0 [.ref x0, .ref x1] [] h R :=
  Ev.go (pc' := 2) (ls' := [.ref x0, .ref x1]) (st' := [.ref x1, .ref x0]) [.aload_n 0, .aload_n 1] (by decide +kernel) rfl <|
  Ev.getf f_St_9 (by decide +kernel) a1 rfl <|
  Ev.putf f_St_9 (by decide +kernel) a2 (Nat.le_of_ble_eq_true rfl) rfl (fun q => nomatch q) <| show Ev G (d + 1) _ _ M_St_become 8 [.ref x0, .ref x1] [] (hset h x0 (oC 6 [.int f_bits_1, .int f_parts_6, .ref (x0 + 1), .int f_size_7, .ref (x0 + 2), .ref (x0 + 3), fv8])) R from
  Ev.go (pc' := 10) (ls' := [.ref x0, .ref x1]) (st' := [.ref x1, .ref x0]) [.aload_n 0, .aload_n 1] (by decide +kernel) rfl <|
  Ev.getf f_St_15 (by decide +kernel) (hat_ne a1 e3) rfl <|
  Ev.putf f_St_15 (by decide +kernel) (hat_set a2) (Nat.le_of_ble_eq_true rfl) rfl (fun q => nomatch q) <| show Ev G (d + 1) _ _ M_St_become 16 [.ref x0, .ref x1] [] (hset (hset h x0 (oC 6 [.int f_bits_1, .int f_parts_6, .ref (x0 + 1), .int f_size_7, .ref (x0 + 2), .ref (x0 + 3), fv8])) x0 (oC 6 [.int f_bits_1, .int f_parts_2, .ref (x0 + 1), .int f_size_7, .ref (x0 + 2), .ref (x0 + 3), fv8])) R from
  Ev.go (pc' := 18) (ls' := [.ref x0, .ref x1]) (st' := [.ref x1, .ref x0]) [.aload_n 0, .aload_n 1] (by decide +kernel) rfl <|
  Ev.getf f_St_22 (by decide +kernel) (hat_ne (hat_ne a1 e3) e3) rfl <|
  Ev.putf f_St_22 (by decide +kernel) (hat_set (hat_set a2)) (Nat.le_of_ble_eq_true rfl) rfl (fun q => nomatch q) <| show Ev G (d + 1) _ _ M_St_become 24 [.ref x0, .ref x1] [] (hset (hset (hset h x0 (oC 6 [.int f_bits_1, .int f_parts_6, .ref (x0 + 1), .int f_size_7, .ref (x0 + 2), .ref (x0 + 3), fv8])) x0 (oC 6 [.int f_bits_1, .int f_parts_2, .ref (x0 + 1), .int f_size_7, .ref (x0 + 2), .ref (x0 + 3), fv8])) x0 (oC 6 [.int f_bits_1, .int f_parts_2, .ref (x0 + 1), .int f_size_3, .ref (x0 + 2), .ref (x0 + 3), fv8])) R from
  Ev.go (pc' := 26) (ls' := [.ref x0, .ref x1]) (st' := [.ref x1, .ref x0]) [.aload_n 0, .aload_n 1] (by decide +kernel) rfl <|
  Ev.getf f_St_32 (by decide +kernel) (hat_ne (hat_ne (hat_ne a1 e3) e3) e3) rfl <|
  Ev.putf f_St_32 (by decide +kernel) (hat_set (hat_set (hat_set a2))) (Nat.le_of_ble_eq_true rfl) w4 (fun q => nomatch q) <| show Ev G (d + 1) _ _ M_St_become 32 [.ref x0, .ref x1] [] (hset (hset (hset (hset h x0 (oC 6 [.int f_bits_1, .int f_parts_6, .ref (x0 + 1), .int f_size_7, .ref (x0 + 2), .ref (x0 + 3), fv8])) x0 (oC 6 [.int f_bits_1, .int f_parts_2, .ref (x0 + 1), .int f_size_7, .ref (x0 + 2), .ref (x0 + 3), fv8])) x0 (oC 6 [.int f_bits_1, .int f_parts_2, .ref (x0 + 1), .int f_size_3, .ref (x0 + 2), .ref (x0 + 3), fv8])) x0 (oC 6 [.int f_bits_1, .int f_parts_2, .ref (x0 + 1), .int f_size_3, .ref (x0 + 2), .ref (x0 + 3), fv4])) R from
  Ev.go (pc' := 33) (ls' := [.ref x0, .ref x1]) (st' := [.ref x1]) [.aload_n 1] (by decide +kernel) rfl <|
  Ev.getf f_St_18 (by decide +kernel) (hat_ne (hat_ne (hat_ne (hat_ne a1 e3) e3) e3) e3) rfl <|
  Ev.go (pc' := 38) (ls' := [.ref x0, .ref x1]) (st' := [.ref x0, .int (0 : Int32), .ref (x1 + 1)]) [.iconst 0, .aload_n 0] (by decide +kernel) rfl <|
  Ev.getf f_St_18 (by decide +kernel) (hat_set (hat_set (hat_set (hat_set a2)))) rfl <|
  Ev.go (pc' := 44) (ls' := [.ref x0, .ref x1]) (st' := [.int (6 : Int32), .int (0 : Int32), .ref (x0 + 1), .int (0 : Int32), .ref (x1 + 1)]) [.iconst 0, .bipush (6)] (by decide +kernel) rfl <|
  Ev.acpyI (sp := 0) (dp := 0) (cn := 6) lL_St_39 w_cpN w_cpS w_sysI (by decide +kernel) (hat_ne (hat_ne (hat_ne (hat_ne a5 e6) e6) e6) e6) (hat_ne (hat_ne (hat_ne (hat_ne a7 (by omega)) (by omega)) (by omega)) (by omega)) rfl rfl rfl (by decide) (by decide) (by decide) (by decide) (Nat.le_of_ble_eq_true rfl) <| show Ev G (d + 1) _ _ M_St_become 47 [.ref x0, .ref x1] [] (hset (hset (hset (hset (hset h x0 (oC 6 [.int f_bits_1, .int f_parts_6, .ref (x0 + 1), .int f_size_7, .ref (x0 + 2), .ref (x0 + 3), fv8])) x0 (oC 6 [.int f_bits_1, .int f_parts_2, .ref (x0 + 1), .int f_size_7, .ref (x0 + 2), .ref (x0 + 3), fv8])) x0 (oC 6 [.int f_bits_1, .int f_parts_2, .ref (x0 + 1), .int f_size_3, .ref (x0 + 2), .ref (x0 + 3), fv8])) x0 (oC 6 [.int f_bits_1, .int f_parts_2, .ref (x0 + 1), .int f_size_3, .ref (x0 + 2), .ref (x0 + 3), fv4])) (x0 + 1) (aI 6 (va_cpy g9 g10 0 0 6))) R from
  Ev.go (pc' := 48) (ls' := [.ref x0, .ref x1]) (st' := [.ref x1]) [.aload_n 1] (by decide +kernel) rfl <|
  Ev.getf f_St_25 (by decide +kernel) (hat_ne (hat_ne (hat_ne (hat_ne (hat_ne a1 e3) e3) e3) e3) e8) rfl <|
  Ev.go (pc' := 53) (ls' := [.ref x0, .ref x1]) (st' := [.ref x0, .int (0 : Int32), .ref (x1 + 2)]) [.iconst 0, .aload_n 0] (by decide +kernel) rfl <|
  Ev.getf f_St_25 (by decide +kernel) (hat_ne (hat_set (hat_set (hat_set (hat_set a2)))) (by omega)) rfl <|
  Ev.go (pc' := 59) (ls' := [.ref x0, .ref x1]) (st' := [.int (32 : Int32), .int (0 : Int32), .ref (x0 + 2), .int (0 : Int32), .ref (x1 + 2)]) [.iconst 0, .bipush (32)] (by decide +kernel) rfl <|
  Ev.acpyL (sp := 0) (dp := 0) (cn := 32) lL_St_39 w_cpN w_cpS w_sysI (by decide +kernel) (hat_ne (hat_ne (hat_ne (hat_ne (hat_ne a10 e11) e11) e11) e11) e12) (hat_ne (hat_ne (hat_ne (hat_ne (hat_ne a13 (by omega)) (by omega)) (by omega)) (by omega)) (by omega)) rfl rfl rfl (by decide) (by decide) (by decide) (by decide) (Nat.le_of_ble_eq_true rfl) <| show Ev G (d + 1) _ _ M_St_become 62 [.ref x0, .ref x1] [] (hset (hset (hset (hset (hset (hset h x0 (oC 6 [.int f_bits_1, .int f_parts_6, .ref (x0 + 1), .int f_size_7, .ref (x0 + 2), .ref (x0 + 3), fv8])) x0 (oC 6 [.int f_bits_1, .int f_parts_2, .ref (x0 + 1), .int f_size_7, .ref (x0 + 2), .ref (x0 + 3), fv8])) x0 (oC 6 [.int f_bits_1, .int f_parts_2, .ref (x0 + 1), .int f_size_3, .ref (x0 + 2), .ref (x0 + 3), fv8])) x0 (oC 6 [.int f_bits_1, .int f_parts_2, .ref (x0 + 1), .int f_size_3, .ref (x0 + 2), .ref (x0 + 3), fv4])) (x0 + 1) (aI 6 (va_cpy g9 g10 0 0 6))) (x0 + 2) (aL 32 (va_cpy g11 g12 0 0 32))) R from
  Ev.go (pc' := 63) (ls' := [.ref x0, .ref x1]) (st' := [.ref x1]) [.aload_n 1] (by decide +kernel) rfl <|
  Ev.getf f_St_29 (by decide +kernel) (hat_ne (hat_ne (hat_ne (hat_ne (hat_ne (hat_ne a1 e3) e3) e3) e3) e8) e14) rfl <|
  Ev.go (pc' := 68) (ls' := [.ref x0, .ref x1]) (st' := [.ref x0, .int (0 : Int32), .ref (x1 + 3)]) [.iconst 0, .aload_n 0] (by decide +kernel) rfl <|
  Ev.getf f_St_29 (by decide +kernel) (hat_ne (hat_ne (hat_set (hat_set (hat_set (hat_set a2)))) (by omega)) (by omega)) rfl <|
  Ev.go (pc' := 74) (ls' := [.ref x0, .ref x1]) (st' := [.int (32 : Int32), .int (0 : Int32), .ref (x0 + 3), .int (0 : Int32), .ref (x1 + 3)]) [.iconst 0, .bipush (32)] (by decide +kernel) rfl <|
  Ev.acpyI (sp := 0) (dp := 0) (cn := 32) lL_St_39 w_cpN w_cpS w_sysI (by decide +kernel) (hat_ne (hat_ne (hat_ne (hat_ne (hat_ne (hat_ne a17 e18) e18) e18) e18) e19) e20) (hat_ne (hat_ne (hat_ne (hat_ne (hat_ne (hat_ne a21 (by omega)) (by omega)) (by omega)) (by omega)) (by omega)) (by omega)) rfl rfl rfl (by decide) (by decide) (by decide) (by decide) (Nat.le_of_ble_eq_true rfl) <| show Ev G (d + 1) _ _ M_St_become 77 [.ref x0, .ref x1] [] (hset (hset (hset (hset (hset (hset (hset h x0 (oC 6 [.int f_bits_1, .int f_parts_6, .ref (x0 + 1), .int f_size_7, .ref (x0 + 2), .ref (x0 + 3), fv8])) x0 (oC 6 [.int f_bits_1, .int f_parts_2, .ref (x0 + 1), .int f_size_7, .ref (x0 + 2), .ref (x0 + 3), fv8])) x0 (oC 6 [.int f_bits_1, .int f_parts_2, .ref (x0 + 1), .int f_size_3, .ref (x0 + 2), .ref (x0 + 3), fv8])) x0 (oC 6 [.int f_bits_1, .int f_parts_2, .ref (x0 + 1), .int f_size_3, .ref (x0 + 2), .ref (x0 + 3), fv4])) (x0 + 1) (aI 6 (va_cpy g9 g10 0 0 6))) (x0 + 2) (aL 32 (va_cpy g11 g12 0 0 32))) (x0 + 3) (aI 32 (va_cpy g13 g14 0 0 32))) R from
  Ev.ret (r := none) (Or.inr (Or.inr (Or.inl ⟨rfl, by decide +kernel, rfl⟩))) k1
theorem b_St_append_0 {G : ev_G} {d k n : Nat} {h : ev_H} {R : Option Value → ev_H → Prop} {x0 : Nat} {x1 : Int64} {x3 : Int32} {f_bits_1 : Int32} {f_parts_2 : Int32} {f_size_3 : Int32} {fv4 : Value} {g5 : Nat → Int64} {j6 : Nat} {g7 : Nat → Int32}
  (a1 : hat h x0 (oC 6 [.int f_bits_1, .int f_parts_2, .ref (x0 + 1), .int f_size_3, .ref (x0 + 2), .ref (x0 + 3), fv4]))
  (a2 : hat h (x0 + 2) (aL 32 g5))
  (a4 : hat h (x0 + 3) (aI 32 g7))
  (i3 : f_size_3 < (32 : Int32) → ev_ix f_size_3 j6 32)
  (k1 : f_size_3 < (32 : Int32) → R none (hset (hset (hset h (x0 + 2) (aL 32 (vp_updL g5 j6 x1))) (x0 + 3) (aI 32 (upd g7 j6 x3))) x0 (oC 6 [.int f_bits_1, .int f_parts_2, .ref (x0 + 1), .int (f_size_3 + (1 : Int32)), .ref (x0 + 2), .ref (x0 + 3), fv4])))
  (k2 : ¬ f_size_3 < (32 : Int32) → R none h)
  : Ev G d k n M_St_append 0 [.ref x0, .long x1, ev_unk, .int x3] [] h R :=
  Ev.go (pc' := 1) (ls' := [.ref x0, .long x1, ev_unk, .int x3]) (st' := [.ref x0]) [.aload_n 0] (by decide +kernel) rfl <|
  Ev.getf f_St_22 (by decide +kernel) a1 rfl <|
  Ev.go (pc' := 6) (ls' := [.ref x0, .long x1, ev_unk, .int x3]) (st' := [.int (32 : Int32), .int f_size_3]) [.bipush (32)] (by decide +kernel) rfl <|
  Ev.br (i := .if_icmp .ge (33)) (P := f_size_3 < (32 : Int32)) (t := 9) (f := 39) (r := []) (by decide +kernel) rfl (fun c1 =>
    Ev.go (pc' := 10) (ls' := [.ref x0, .long x1, ev_unk, .int x3]) (st' := [.ref x0]) [.aload_n 0] (by decide +kernel) rfl <|
    Ev.getf f_St_25 (by decide +kernel) a1 rfl <|
    Ev.go (pc' := 14) (ls' := [.ref x0, .long x1, ev_unk, .int x3]) (st' := [.ref x0, .ref (x0 + 2)]) [.aload_n 0] (by decide +kernel) rfl <|
    Ev.getf f_St_22 (by decide +kernel) a1 rfl <|
    Ev.go (pc' := 18) (ls' := [.ref x0, .long x1, ev_unk, .int x3]) (st' := [.long x1, .int f_size_3, .ref (x0 + 2)]) [.lload_n 1] (by decide +kernel) rfl <|
    Ev.last (j := j6) (by decide +kernel) a2 (i3 c1) <| show Ev G d _ _ M_St_append 19 [.ref x0, .long x1, ev_unk, .int x3] [] (hset h (x0 + 2) (aL 32 (vp_updL g5 j6 x1))) R from
    Ev.go (pc' := 20) (ls' := [.ref x0, .long x1, ev_unk, .int x3]) (st' := [.ref x0]) [.aload_n 0] (by decide +kernel) rfl <|
    Ev.getf f_St_29 (by decide +kernel) (hat_ne a1 (by omega)) rfl <|
    Ev.go (pc' := 24) (ls' := [.ref x0, .long x1, ev_unk, .int x3]) (st' := [.ref x0, .ref (x0 + 3)]) [.aload_n 0] (by decide +kernel) rfl <|
    Ev.getf f_St_22 (by decide +kernel) (hat_ne a1 (by omega)) rfl <|
    Ev.go (pc' := 28) (ls' := [.ref x0, .long x1, ev_unk, .int x3]) (st' := [.int x3, .int f_size_3, .ref (x0 + 3)]) [.iload_n 3] (by decide +kernel) rfl <|
    Ev.iast (j := j6) (by decide +kernel) (hat_ne a4 (by omega)) (i3 c1) <| show Ev G d _ _ M_St_append 29 [.ref x0, .long x1, ev_unk, .int x3] [] (hset (hset h (x0 + 2) (aL 32 (vp_updL g5 j6 x1))) (x0 + 3) (aI 32 (upd g7 j6 x3))) R from
    Ev.go (pc' := 31) (ls' := [.ref x0, .long x1, ev_unk, .int x3]) (st' := [.ref x0, .ref x0]) [.aload_n 0, .dup] (by decide +kernel) rfl <|
    Ev.getf f_St_22 (by decide +kernel) (hat_ne (hat_ne a1 (by omega)) (by omega)) rfl <|
    Ev.go (pc' := 36) (ls' := [.ref x0, .long x1, ev_unk, .int x3]) (st' := [.int (f_size_3 + (1 : Int32)), .ref x0]) [.iconst 1, .iadd] (by decide +kernel) rfl <|
    Ev.putf f_St_22 (by decide +kernel) (hat_ne (hat_ne a1 (by omega)) (by omega)) (Nat.le_of_ble_eq_true rfl) rfl (fun q => nomatch q) <| show Ev G d _ _ M_St_append 39 [.ref x0, .long x1, ev_unk, .int x3] [] (hset (hset (hset h (x0 + 2) (aL 32 (vp_updL g5 j6 x1))) (x0 + 3) (aI 32 (upd g7 j6 x3))) x0 (oC 6 [.int f_bits_1, .int f_parts_2, .ref (x0 + 1), .int (f_size_3 + (1 : Int32)), .ref (x0 + 2), .ref (x0 + 3), fv4])) R from
    Ev.ret (r := none) (Or.inr (Or.inr (Or.inl ⟨rfl, by decide +kernel, rfl⟩))) (k1 c1)
  ) (fun c1 =>
    Ev.ret (r := none) (Or.inr (Or.inr (Or.inl ⟨rfl, by decide +kernel, rfl⟩))) (k2 c1)
  )
theorem b_St_drop_0 {G : ev_G} {d k n : Nat} {h : ev_H} {R : Option Value → ev_H → Prop} {x0 : Nat} {x1 : Int32}
  (k1 : Ev G d k n M_St_drop 2 [.ref x0, .int x1, .int x1] [] h R)
  : Ev G d k n M_St_drop 0 [.ref x0, .int x1, ev_unk] [] h R :=
  Ev.go (pc' := 2) (ls' := [.ref x0, .int x1, .int x1]) (st' := []) [.iload_n 1, .istore_n 2] (by decide +kernel) rfl <|
  k1
theorem b_St_drop_2 {G : ev_G} {d k n : Nat} {h : ev_H} {R : Option Value → ev_H → Prop} {x0 : Nat} {x1 : Int32} {x2 : Int32} {f_bits_1 : Int32} {f_parts_2 : Int32} {f_size_3 : Int32} {fv4 : Value} {g5 : Nat → Int64} {j6 : Nat} {j7 : Nat} {g8 : Nat → Int32}
  (a1 : hat h x0 (oC 6 [.int f_bits_1, .int f_parts_2, .ref (x0 + 1), .int f_size_3, .ref (x0 + 2), .ref (x0 + 3), fv4]))
  (a2 : hat h (x0 + 2) (aL 32 g5))
  (a5 : hat h (x0 + 3) (aI 32 g8))
  (i3 : (x2 + (1 : Int32)) < f_size_3 → ev_ix (x2 + (1 : Int32)) j6 32)
  (i4 : (x2 + (1 : Int32)) < f_size_3 → ev_ix x2 j7 32)
  (k1 : (x2 + (1 : Int32)) < f_size_3 → Ev G d k n M_St_drop 2 [.ref x0, .int x1, .int (x2 + (1 : Int32))] [] (hset (hset h (x0 + 2) (aL 32 (vp_updL g5 j7 (g5 j6)))) (x0 + 3) (aI 32 (upd g8 j7 (g8 j6)))) R)
  (k2 : ¬ (x2 + (1 : Int32)) < f_size_3 → R none (hset h x0 (oC 6 [.int f_bits_1, .int f_parts_2, .ref (x0 + 1), .int (f_size_3 - (1 : Int32)), .ref (x0 + 2), .ref (x0 + 3), fv4])))
  : Ev G d k n M_St_drop 2 [.ref x0, .int x1, .int x2] [] h R :=
  Ev.go (pc' := 6) (ls' := [.ref x0, .int x1, .int x2]) (st' := [.ref x0, .int (x2 + (1 : Int32))]) [.iload_n 2, .iconst 1, .iadd, .aload_n 0] (by decide +kernel) rfl <|
  Ev.getf f_St_22 (by decide +kernel) a1 rfl <|
  Ev.br (i := .if_icmp .ge (37)) (P := (x2 + (1 : Int32)) < f_size_3) (t := 12) (f := 46) (r := []) (by decide +kernel) rfl (fun c1 =>
    Ev.go (pc' := 13) (ls' := [.ref x0, .int x1, .int x2]) (st' := [.ref x0]) [.aload_n 0] (by decide +kernel) rfl <|
    Ev.getf f_St_25 (by decide +kernel) a1 rfl <|
    Ev.go (pc' := 18) (ls' := [.ref x0, .int x1, .int x2]) (st' := [.ref x0, .int x2, .ref (x0 + 2)]) [.iload_n 2, .aload_n 0] (by decide +kernel) rfl <|
    Ev.getf f_St_25 (by decide +kernel) a1 rfl <|
    Ev.go (pc' := 24) (ls' := [.ref x0, .int x1, .int x2]) (st' := [.int (x2 + (1 : Int32)), .ref (x0 + 2), .int x2, .ref (x0 + 2)]) [.iload_n 2, .iconst 1, .iadd] (by decide +kernel) rfl <|
    Ev.lald (j := j6) (by decide +kernel) a2 (i3 c1) <|
    Ev.last (j := j7) (by decide +kernel) a2 (i4 c1) <| show Ev G d _ _ M_St_drop 26 [.ref x0, .int x1, .int x2] [] (hset h (x0 + 2) (aL 32 (vp_updL g5 j7 (g5 j6)))) R from
    Ev.go (pc' := 27) (ls' := [.ref x0, .int x1, .int x2]) (st' := [.ref x0]) [.aload_n 0] (by decide +kernel) rfl <|
    Ev.getf f_St_29 (by decide +kernel) (hat_ne a1 (by omega)) rfl <|
    Ev.go (pc' := 32) (ls' := [.ref x0, .int x1, .int x2]) (st' := [.ref x0, .int x2, .ref (x0 + 3)]) [.iload_n 2, .aload_n 0] (by decide +kernel) rfl <|
    Ev.getf f_St_29 (by decide +kernel) (hat_ne a1 (by omega)) rfl <|
    Ev.go (pc' := 38) (ls' := [.ref x0, .int x1, .int x2]) (st' := [.int (x2 + (1 : Int32)), .ref (x0 + 3), .int x2, .ref (x0 + 3)]) [.iload_n 2, .iconst 1, .iadd] (by decide +kernel) rfl <|
    Ev.iald (j := j6) (by decide +kernel) (hat_ne a5 (by omega)) (i3 c1) <|
    Ev.iast (j := j7) (by decide +kernel) (hat_ne a5 (by omega)) (i4 c1) <| show Ev G d _ _ M_St_drop 40 [.ref x0, .int x1, .int x2] [] (hset (hset h (x0 + 2) (aL 32 (vp_updL g5 j7 (g5 j6)))) (x0 + 3) (aI 32 (upd g8 j7 (g8 j6)))) R from
    Ev.go (pc' := 2) (ls' := [.ref x0, .int x1, .int (x2 + (1 : Int32))]) (st' := []) [.iinc 2 (1), .goto (-41)] (by decide +kernel) rfl <|
    (k1 c1)
  ) (fun c1 =>
    Ev.go (pc' := 48) (ls' := [.ref x0, .int x1, .int x2]) (st' := [.ref x0, .ref x0]) [.aload_n 0, .dup] (by decide +kernel) rfl <|
    Ev.getf f_St_22 (by decide +kernel) a1 rfl <|
    Ev.go (pc' := 53) (ls' := [.ref x0, .int x1, .int x2]) (st' := [.int (f_size_3 - (1 : Int32)), .ref x0]) [.iconst 1, .isub] (by decide +kernel) rfl <|
    Ev.putf f_St_22 (by decide +kernel) a1 (Nat.le_of_ble_eq_true rfl) rfl (fun q => nomatch q) <| show Ev G d _ _ M_St_drop 56 [.ref x0, .int x1, .int x2] [] (hset h x0 (oC 6 [.int f_bits_1, .int f_parts_2, .ref (x0 + 1), .int (f_size_3 - (1 : Int32)), .ref (x0 + 2), .ref (x0 + 3), fv4])) R from
    Ev.ret (r := none) (Or.inr (Or.inr (Or.inl ⟨rfl, by decide +kernel, rfl⟩))) (k2 c1)
  )
theorem b_St_exchange_0 {G : ev_G} {d k n : Nat} {h : ev_H} {R : Option Value → ev_H → Prop} {x0 : Nat} {x1 : Int32} {x2 : Int32}
  (k1 : Ev G (d + 1) k n M_St_exchange 5 [.ref x0, .int x1, .int x2, .int (0 : Int32), .int (0 : Int32)] [] h R)
  : Ev G (d + 1) k n M_St_exchange 0 [.ref x0, .int x1, .int x2, ev_unk, ev_unk] [] h R :=
  Ev.go (pc' := 5) (ls' := [.ref x0, .int x1, .int x2, .int (0 : Int32), .int (0 : Int32)]) (st' := []) [.iconst 0, .istore_n 3, .iconst 0, .istore 4] (by decide +kernel) rfl <|
  k1
theorem b_St_exchange_5 {G : ev_G} {d k n : Nat} {h : ev_H} {R : Option Value → ev_H → Prop} {x0 : Nat} {x1 : Int32} {x2 : Int32} {x3 : Int32} {x4 : Int32} {f_bits_1 : Int32} {f_parts_2 : Int32} {f_size_3 : Int32} {fv4 : Value} {g5 : Nat → Int64} {j6 : Nat}
  (a1 : hat h x0 (oC 6 [.int f_bits_1, .int f_parts_2, .ref (x0 + 1), .int f_size_3, .ref (x0 + 2), .ref (x0 + 3), fv4]))
  (a2 : hat h (x0 + 2) (aL 32 g5))
  (i3 : x4 < f_size_3 → ev_ix x4 j6 32)
  (i4 : x4 < f_size_3 → ¬ (b2i (tbL (g5 j6) x1)) = (b2i (tbL (g5 j6) x2)) → ev_ix x4 j6 32)
  (k1 : x4 < f_size_3 → (b2i (tbL (g5 j6) x1)) = (b2i (tbL (g5 j6) x2)) → Ev G (d + 1) k n M_St_exchange 5 [.ref x0, .int x1, .int x2, .int x3, .int (x4 + (1 : Int32))] [] h R)
  (k2 : x4 < f_size_3 → ¬ (b2i (tbL (g5 j6) x1)) = (b2i (tbL (g5 j6) x2)) → Ev G (d + 1) k n M_St_exchange 5 [.ref x0, .int x1, .int x2, .int (x3 + (1 : Int32)), .int (x4 + (1 : Int32))] [] (hset h (x0 + 2) (aL 32 (vp_updL g5 j6 ((g5 j6) ^^^ (((1 : Int64) <<< (x1.toInt64 &&& 63)) ||| ((1 : Int64) <<< (x2.toInt64 &&& 63))))))) R)
  (k3 : ¬ x4 < f_size_3 → R (some (.int x3)) h)
  : Ev G (d + 1) k n M_St_exchange 5 [.ref x0, .int x1, .int x2, .int x3, .int x4] [] h R :=
  Ev.go (pc' := 8) (ls' := [.ref x0, .int x1, .int x2, .int x3, .int x4]) (st' := [.ref x0, .int x4]) [.iload 4, .aload_n 0] (by decide +kernel) rfl <|
  Ev.getf f_St_22 (by decide +kernel) a1 rfl <|
  Ev.br (i := .if_icmp .ge (54)) (P := x4 < f_size_3) (t := 14) (f := 65) (r := []) (by decide +kernel) rfl (fun c1 =>
    Ev.go (pc' := 15) (ls' := [.ref x0, .int x1, .int x2, .int x3, .int x4]) (st' := [.ref x0]) [.aload_n 0] (by decide +kernel) rfl <|
    Ev.getf f_St_25 (by decide +kernel) a1 rfl <|
    Ev.go (pc' := 20) (ls' := [.ref x0, .int x1, .int x2, .int x3, .int x4]) (st' := [.int x4, .ref (x0 + 2)]) [.iload 4] (by decide +kernel) rfl <|
    Ev.lald (j := j6) (by decide +kernel) a2 (i3 c1) <|
    Ev.go (pc' := 22) (ls' := [.ref x0, .int x1, .int x2, .int x3, .int x4]) (st' := [.int x1, .long (g5 j6)]) [.iload_n 1] (by decide +kernel) rfl <|
    Ev.cSN0 (M' := M_X_bitOf) (as := [.long (g5 j6), .int x1]) (rest := []) l_St_45 M_X_bitOf_ok M_X_bitOf_st (by decide +kernel) rfl rfl (Nat.le_of_ble_eq_true rfl) (Nat.le_of_ble_eq_true rfl) (s_X_bitOf <| show Ev G (d + 1) _ _ M_St_exchange 25 [.ref x0, .int x1, .int x2, .int x3, .int x4] [.int (b2i (tbL (g5 j6) x1))] h R from
      Ev.go (pc' := 26) (ls' := [.ref x0, .int x1, .int x2, .int x3, .int x4]) (st' := [.ref x0, .int (b2i (tbL (g5 j6) x1))]) [.aload_n 0] (by decide +kernel) rfl <|
      Ev.getf f_St_25 (by decide +kernel) a1 rfl <|
      Ev.go (pc' := 31) (ls' := [.ref x0, .int x1, .int x2, .int x3, .int x4]) (st' := [.int x4, .ref (x0 + 2), .int (b2i (tbL (g5 j6) x1))]) [.iload 4] (by decide +kernel) rfl <|
      Ev.lald (j := j6) (by decide +kernel) a2 (i3 c1) <|
      Ev.go (pc' := 33) (ls' := [.ref x0, .int x1, .int x2, .int x3, .int x4]) (st' := [.int x2, .long (g5 j6), .int (b2i (tbL (g5 j6) x1))]) [.iload_n 2] (by decide +kernel) rfl <|
      Ev.cSN0 (M' := M_X_bitOf) (as := [.long (g5 j6), .int x2]) (rest := [.int (b2i (tbL (g5 j6) x1))]) l_St_45 M_X_bitOf_ok M_X_bitOf_st (by decide +kernel) rfl rfl (Nat.le_of_ble_eq_true rfl) (Nat.le_of_ble_eq_true rfl) (s_X_bitOf <| show Ev G (d + 1) _ _ M_St_exchange 36 [.ref x0, .int x1, .int x2, .int x3, .int x4] [.int (b2i (tbL (g5 j6) x2)), .int (b2i (tbL (g5 j6) x1))] h R from
        Ev.br (i := .if_icmp .eq (23)) (P := (b2i (tbL (g5 j6) x1)) = (b2i (tbL (g5 j6) x2))) (t := 59) (f := 39) (r := []) (by decide +kernel) rfl (fun c2 =>
          Ev.go (pc' := 5) (ls' := [.ref x0, .int x1, .int x2, .int x3, .int (x4 + (1 : Int32))]) (st' := []) [.iinc 4 (1), .goto (-57)] (by decide +kernel) rfl <|
          (k1 c1 c2)
        ) (fun c2 =>
          Ev.go (pc' := 40) (ls' := [.ref x0, .int x1, .int x2, .int x3, .int x4]) (st' := [.ref x0]) [.aload_n 0] (by decide +kernel) rfl <|
          Ev.getf f_St_25 (by decide +kernel) a1 rfl <|
          Ev.go (pc' := 46) (ls' := [.ref x0, .int x1, .int x2, .int x3, .int x4]) (st' := [.int x4, .ref (x0 + 2), .int x4, .ref (x0 + 2)]) [.iload 4, .dup2] (by decide +kernel) rfl <|
          Ev.lald (j := j6) (by decide +kernel) a2 (i4 c1 c2) <|
          Ev.go (pc' := 55) (ls' := [.ref x0, .int x1, .int x2, .int x3, .int x4]) (st' := [.long ((g5 j6) ^^^ (((1 : Int64) <<< (x1.toInt64 &&& 63)) ||| ((1 : Int64) <<< (x2.toInt64 &&& 63)))), .int x4, .ref (x0 + 2)]) [.lconst 1, .iload_n 1, .lshl, .lconst 1, .iload_n 2, .lshl, .lor, .lxor] (by decide +kernel) rfl <|
          Ev.last (j := j6) (by decide +kernel) a2 (i4 c1 c2) <| show Ev G (d + 1) _ _ M_St_exchange 56 [.ref x0, .int x1, .int x2, .int x3, .int x4] [] (hset h (x0 + 2) (aL 32 (vp_updL g5 j6 ((g5 j6) ^^^ (((1 : Int64) <<< (x1.toInt64 &&& 63)) ||| ((1 : Int64) <<< (x2.toInt64 &&& 63))))))) R from
          Ev.go (pc' := 5) (ls' := [.ref x0, .int x1, .int x2, .int (x3 + (1 : Int32)), .int (x4 + (1 : Int32))]) (st' := []) [.iinc 3 (1), .iinc 4 (1), .goto (-57)] (by decide +kernel) rfl <|
          (k2 c1 c2)
        )
      )
    )
  ) (fun c1 =>
    Ev.go (pc' := 66) (ls' := [.ref x0, .int x1, .int x2, .int x3, .int x4]) (st' := [.int x3]) [.iload_n 3] (by decide +kernel) rfl <|
    Ev.ret (r := (some (.int x3))) (Or.inl ⟨_, rfl, by decide +kernel, _, rfl, rfl⟩) (k3 c1)
  )
theorem b_St_cutPart_0 {G : ev_G} {d k n : Nat} {h : ev_H} {R : Option Value → ev_H → Prop} {x0 : Nat} {x1 : Int32} {x2 : Int32} {f_bits_1 : Int32} {f_parts_2 : Int32} {f_size_3 : Int32} {fv4 : Value}
  (a1 : hat h x0 (oC 6 [.int f_bits_1, .int f_parts_2, .ref (x0 + 1), .int f_size_3, .ref (x0 + 2), .ref (x0 + 3), fv4]))
  (k1 : Ev G (d + 1) k n M_St_cutPart 9 [.ref x0, .int x1, .int x2, .int (if (5 : Int32) < f_parts_2 then (5 : Int32) else f_parts_2)] [] h R)
  : Ev G (d + 1) k n M_St_cutPart 0 [.ref x0, .int x1, .int x2, ev_unk] [] h R :=
  Ev.go (pc' := 1) (ls' := [.ref x0, .int x1, .int x2, ev_unk]) (st' := [.ref x0]) [.aload_n 0] (by decide +kernel) rfl <|
  Ev.getf f_St_15 (by decide +kernel) a1 rfl <|
  Ev.go (pc' := 5) (ls' := [.ref x0, .int x1, .int x2, ev_unk]) (st' := [.int (5 : Int32), .int f_parts_2]) [.iconst 5] (by decide +kernel) rfl <|
  Ev.mmin lL_St_49 w_minS w_mathI w_minC (Nat.le_of_ble_eq_true rfl) (by decide +kernel) <|
  Ev.go (pc' := 9) (ls' := [.ref x0, .int x1, .int x2, .int (if (5 : Int32) < f_parts_2 then (5 : Int32) else f_parts_2)]) (st' := []) [.istore_n 3] (by decide +kernel) rfl <|
  k1
theorem b_St_cutPart_9 {G : ev_G} {d k n : Nat} {h : ev_H} {R : Option Value → ev_H → Prop} {x0 : Nat} {x1 : Int32} {x2 : Int32} {x3 : Int32} {f_bits_1 : Int32} {f_parts_2 : Int32} {f_size_3 : Int32} {fv4 : Value} {g5 : Nat → Int32} {j6 : Nat} {j7 : Nat} {j8 : Nat} {j9 : Nat}
  (a1 : hat h x0 (oC 6 [.int f_bits_1, .int f_parts_2, .ref (x0 + 1), .int f_size_3, .ref (x0 + 2), .ref (x0 + 3), fv4]))
  (a2 : hat h (x0 + 1) (aI 6 g5))
  (i3 : x1 < x3 → ev_ix (x3 - (1 : Int32)) j6 6)
  (i4 : x1 < x3 → ev_ix x3 j7 6)
  (i5 : ¬ x1 < x3 → ev_ix x1 j8 6)
  (i6 : ¬ x1 < x3 → ev_ix (x1 + (1 : Int32)) j9 6)
  (k1 : x1 < x3 → Ev G (d + 1) k n M_St_cutPart 9 [.ref x0, .int x1, .int x2, .int (x3 + (-1 : Int32))] [] (hset h (x0 + 1) (aI 6 (upd g5 j7 (g5 j6)))) R)
  (k2 : ¬ x1 < x3 → R none (hset (hset (hset h (x0 + 1) (aI 6 (upd g5 j8 x2))) (x0 + 1) (aI 6 (upd (upd g5 j8 x2) j9 (((upd g5 j8 x2) j9) - x2)))) x0 (oC 6 [.int f_bits_1, .int (f_parts_2 + (1 : Int32)), .ref (x0 + 1), .int f_size_3, .ref (x0 + 2), .ref (x0 + 3), fv4])))
  : Ev G (d + 1) k n M_St_cutPart 9 [.ref x0, .int x1, .int x2, .int x3] [] h R :=
  Ev.go (pc' := 11) (ls' := [.ref x0, .int x1, .int x2, .int x3]) (st' := [.int x1, .int x3]) [.iload_n 3, .iload_n 1] (by decide +kernel) rfl <|
  Ev.br (i := .if_icmp .le (23)) (P := x1 < x3) (t := 14) (f := 34) (r := []) (by decide +kernel) rfl (fun c1 =>
    Ev.go (pc' := 15) (ls' := [.ref x0, .int x1, .int x2, .int x3]) (st' := [.ref x0]) [.aload_n 0] (by decide +kernel) rfl <|
    Ev.getf f_St_18 (by decide +kernel) a1 rfl <|
    Ev.go (pc' := 20) (ls' := [.ref x0, .int x1, .int x2, .int x3]) (st' := [.ref x0, .int x3, .ref (x0 + 1)]) [.iload_n 3, .aload_n 0] (by decide +kernel) rfl <|
    Ev.getf f_St_18 (by decide +kernel) a1 rfl <|
    Ev.go (pc' := 26) (ls' := [.ref x0, .int x1, .int x2, .int x3]) (st' := [.int (x3 - (1 : Int32)), .ref (x0 + 1), .int x3, .ref (x0 + 1)]) [.iload_n 3, .iconst 1, .isub] (by decide +kernel) rfl <|
    Ev.iald (j := j6) (by decide +kernel) a2 (i3 c1) <|
    Ev.iast (j := j7) (by decide +kernel) a2 (i4 c1) <| show Ev G (d + 1) _ _ M_St_cutPart 28 [.ref x0, .int x1, .int x2, .int x3] [] (hset h (x0 + 1) (aI 6 (upd g5 j7 (g5 j6)))) R from
    Ev.go (pc' := 9) (ls' := [.ref x0, .int x1, .int x2, .int (x3 + (-1 : Int32))]) (st' := []) [.iinc 3 (-1), .goto (-22)] (by decide +kernel) rfl <|
    (k1 c1)
  ) (fun c1 =>
    Ev.go (pc' := 35) (ls' := [.ref x0, .int x1, .int x2, .int x3]) (st' := [.ref x0]) [.aload_n 0] (by decide +kernel) rfl <|
    Ev.getf f_St_18 (by decide +kernel) a1 rfl <|
    Ev.go (pc' := 40) (ls' := [.ref x0, .int x1, .int x2, .int x3]) (st' := [.int x2, .int x1, .ref (x0 + 1)]) [.iload_n 1, .iload_n 2] (by decide +kernel) rfl <|
    Ev.iast (j := j8) (by decide +kernel) a2 (i5 c1) <| show Ev G (d + 1) _ _ M_St_cutPart 41 [.ref x0, .int x1, .int x2, .int x3] [] (hset h (x0 + 1) (aI 6 (upd g5 j8 x2))) R from
    Ev.go (pc' := 42) (ls' := [.ref x0, .int x1, .int x2, .int x3]) (st' := [.ref x0]) [.aload_n 0] (by decide +kernel) rfl <|
    Ev.getf f_St_18 (by decide +kernel) (hat_ne a1 (by omega)) rfl <|
    Ev.go (pc' := 49) (ls' := [.ref x0, .int x1, .int x2, .int x3]) (st' := [.int (x1 + (1 : Int32)), .ref (x0 + 1), .int (x1 + (1 : Int32)), .ref (x0 + 1)]) [.iload_n 1, .iconst 1, .iadd, .dup2] (by decide +kernel) rfl <|
    Ev.iald (j := j9) (by decide +kernel) (hat_set a2) (i6 c1) <|
    Ev.go (pc' := 52) (ls' := [.ref x0, .int x1, .int x2, .int x3]) (st' := [.int (((upd g5 j8 x2) j9) - x2), .int (x1 + (1 : Int32)), .ref (x0 + 1)]) [.iload_n 2, .isub] (by decide +kernel) rfl <|
    Ev.iast (j := j9) (by decide +kernel) (hat_set a2) (i6 c1) <| show Ev G (d + 1) _ _ M_St_cutPart 53 [.ref x0, .int x1, .int x2, .int x3] [] (hset (hset h (x0 + 1) (aI 6 (upd g5 j8 x2))) (x0 + 1) (aI 6 (upd (upd g5 j8 x2) j9 (((upd g5 j8 x2) j9) - x2)))) R from
    Ev.go (pc' := 55) (ls' := [.ref x0, .int x1, .int x2, .int x3]) (st' := [.ref x0, .ref x0]) [.aload_n 0, .dup] (by decide +kernel) rfl <|
    Ev.getf f_St_15 (by decide +kernel) (hat_ne (hat_ne a1 (by omega)) (by omega)) rfl <|
    Ev.go (pc' := 60) (ls' := [.ref x0, .int x1, .int x2, .int x3]) (st' := [.int (f_parts_2 + (1 : Int32)), .ref x0]) [.iconst 1, .iadd] (by decide +kernel) rfl <|
    Ev.putf f_St_15 (by decide +kernel) (hat_ne (hat_ne a1 (by omega)) (by omega)) (Nat.le_of_ble_eq_true rfl) rfl (fun q => nomatch q) <| show Ev G (d + 1) _ _ M_St_cutPart 63 [.ref x0, .int x1, .int x2, .int x3] [] (hset (hset (hset h (x0 + 1) (aI 6 (upd g5 j8 x2))) (x0 + 1) (aI 6 (upd (upd g5 j8 x2) j9 (((upd g5 j8 x2) j9) - x2)))) x0 (oC 6 [.int f_bits_1, .int (f_parts_2 + (1 : Int32)), .ref (x0 + 1), .int f_size_3, .ref (x0 + 2), .ref (x0 + 3), fv4])) R from
    Ev.ret (r := none) (Or.inr (Or.inr (Or.inl ⟨rfl, by decide +kernel, rfl⟩))) (k2 c1)
  )
theorem b_St_joinPart_0 {G : ev_G} {d k n : Nat} {h : ev_H} {R : Option Value → ev_H → Prop} {x0 : Nat} {x1 : Int32} {f_bits_1 : Int32} {f_parts_2 : Int32} {f_size_3 : Int32} {fv4 : Value} {g5 : Nat → Int32} {j6 : Nat} {j7 : Nat}
  (a1 : hat h x0 (oC 6 [.int f_bits_1, .int f_parts_2, .ref (x0 + 1), .int f_size_3, .ref (x0 + 2), .ref (x0 + 3), fv4]))
  (a2 : hat h (x0 + 1) (aI 6 g5))
  (i3 : ev_ix x1 j6 6)
  (i4 : ev_ix (x1 + (1 : Int32)) j7 6)
  (k1 : Ev G d k n M_St_joinPart 21 [.ref x0, .int x1, .int (x1 + (1 : Int32))] [] (hset h (x0 + 1) (aI 6 (upd g5 j6 ((g5 j6) + (g5 j7))))) R)
  : Ev G d k n M_St_joinPart 0 [.ref x0, .int x1, ev_unk] [] h R :=
  Ev.go (pc' := 1) (ls' := [.ref x0, .int x1, ev_unk]) (st' := [.ref x0]) [.aload_n 0] (by decide +kernel) rfl <|
  Ev.getf f_St_18 (by decide +kernel) a1 rfl <|
  Ev.go (pc' := 6) (ls' := [.ref x0, .int x1, ev_unk]) (st' := [.int x1, .ref (x0 + 1), .int x1, .ref (x0 + 1)]) [.iload_n 1, .dup2] (by decide +kernel) rfl <|
  Ev.iald (j := j6) (by decide +kernel) a2 i3 <|
  Ev.go (pc' := 8) (ls' := [.ref x0, .int x1, ev_unk]) (st' := [.ref x0, .int (g5 j6), .int x1, .ref (x0 + 1)]) [.aload_n 0] (by decide +kernel) rfl <|
  Ev.getf f_St_18 (by decide +kernel) a1 rfl <|
  Ev.go (pc' := 14) (ls' := [.ref x0, .int x1, ev_unk]) (st' := [.int (x1 + (1 : Int32)), .ref (x0 + 1), .int (g5 j6), .int x1, .ref (x0 + 1)]) [.iload_n 1, .iconst 1, .iadd] (by decide +kernel) rfl <|
  Ev.iald (j := j7) (by decide +kernel) a2 i4 <|
  Ev.go (pc' := 16) (ls' := [.ref x0, .int x1, ev_unk]) (st' := [.int ((g5 j6) + (g5 j7)), .int x1, .ref (x0 + 1)]) [.iadd] (by decide +kernel) rfl <|
  Ev.iast (j := j6) (by decide +kernel) a2 i3 <| show Ev G d _ _ M_St_joinPart 17 [.ref x0, .int x1, ev_unk] [] (hset h (x0 + 1) (aI 6 (upd g5 j6 ((g5 j6) + (g5 j7))))) R from
  Ev.go (pc' := 21) (ls' := [.ref x0, .int x1, .int (x1 + (1 : Int32))]) (st' := []) [.iload_n 1, .iconst 1, .iadd, .istore_n 2] (by decide +kernel) rfl <|
  k1
theorem b_St_joinPart_21 {G : ev_G} {d k n : Nat} {h : ev_H} {R : Option Value → ev_H → Prop} {x0 : Nat} {x1 : Int32} {x2 : Int32} {f_bits_1 : Int32} {f_parts_2 : Int32} {f_size_3 : Int32} {fv4 : Value} {g5 : Nat → Int32} {j6 : Nat} {j7 : Nat}
  (a1 : hat h x0 (oC 6 [.int f_bits_1, .int f_parts_2, .ref (x0 + 1), .int f_size_3, .ref (x0 + 2), .ref (x0 + 3), fv4]))
  (a2 : hat h (x0 + 1) (aI 6 g5))
  (i3 : (x2 + (1 : Int32)) < f_parts_2 → ev_ix (x2 + (1 : Int32)) j6 6)
  (i4 : (x2 + (1 : Int32)) < f_parts_2 → ev_ix x2 j7 6)
  (k1 : (x2 + (1 : Int32)) < f_parts_2 → Ev G d k n M_St_joinPart 21 [.ref x0, .int x1, .int (x2 + (1 : Int32))] [] (hset h (x0 + 1) (aI 6 (upd g5 j7 (g5 j6)))) R)
  (k2 : ¬ (x2 + (1 : Int32)) < f_parts_2 → R none (hset h x0 (oC 6 [.int f_bits_1, .int (f_parts_2 - (1 : Int32)), .ref (x0 + 1), .int f_size_3, .ref (x0 + 2), .ref (x0 + 3), fv4])))
  : Ev G d k n M_St_joinPart 21 [.ref x0, .int x1, .int x2] [] h R :=
  Ev.go (pc' := 25) (ls' := [.ref x0, .int x1, .int x2]) (st' := [.ref x0, .int (x2 + (1 : Int32))]) [.iload_n 2, .iconst 1, .iadd, .aload_n 0] (by decide +kernel) rfl <|
  Ev.getf f_St_15 (by decide +kernel) a1 rfl <|
  Ev.br (i := .if_icmp .ge (23)) (P := (x2 + (1 : Int32)) < f_parts_2) (t := 31) (f := 51) (r := []) (by decide +kernel) rfl (fun c1 =>
    Ev.go (pc' := 32) (ls' := [.ref x0, .int x1, .int x2]) (st' := [.ref x0]) [.aload_n 0] (by decide +kernel) rfl <|
    Ev.getf f_St_18 (by decide +kernel) a1 rfl <|
    Ev.go (pc' := 37) (ls' := [.ref x0, .int x1, .int x2]) (st' := [.ref x0, .int x2, .ref (x0 + 1)]) [.iload_n 2, .aload_n 0] (by decide +kernel) rfl <|
    Ev.getf f_St_18 (by decide +kernel) a1 rfl <|
    Ev.go (pc' := 43) (ls' := [.ref x0, .int x1, .int x2]) (st' := [.int (x2 + (1 : Int32)), .ref (x0 + 1), .int x2, .ref (x0 + 1)]) [.iload_n 2, .iconst 1, .iadd] (by decide +kernel) rfl <|
    Ev.iald (j := j6) (by decide +kernel) a2 (i3 c1) <|
    Ev.iast (j := j7) (by decide +kernel) a2 (i4 c1) <| show Ev G d _ _ M_St_joinPart 45 [.ref x0, .int x1, .int x2] [] (hset h (x0 + 1) (aI 6 (upd g5 j7 (g5 j6)))) R from
    Ev.go (pc' := 21) (ls' := [.ref x0, .int x1, .int (x2 + (1 : Int32))]) (st' := []) [.iinc 2 (1), .goto (-27)] (by decide +kernel) rfl <|
    (k1 c1)
  ) (fun c1 =>
    Ev.go (pc' := 53) (ls' := [.ref x0, .int x1, .int x2]) (st' := [.ref x0, .ref x0]) [.aload_n 0, .dup] (by decide +kernel) rfl <|
    Ev.getf f_St_15 (by decide +kernel) a1 rfl <|
    Ev.go (pc' := 58) (ls' := [.ref x0, .int x1, .int x2]) (st' := [.int (f_parts_2 - (1 : Int32)), .ref x0]) [.iconst 1, .isub] (by decide +kernel) rfl <|
    Ev.putf f_St_15 (by decide +kernel) a1 (Nat.le_of_ble_eq_true rfl) rfl (fun q => nomatch q) <| show Ev G d _ _ M_St_joinPart 61 [.ref x0, .int x1, .int x2] [] (hset h x0 (oC 6 [.int f_bits_1, .int (f_parts_2 - (1 : Int32)), .ref (x0 + 1), .int f_size_3, .ref (x0 + 2), .ref (x0 + 3), fv4])) R from
    Ev.ret (r := none) (Or.inr (Or.inr (Or.inl ⟨rfl, by decide +kernel, rfl⟩))) (k2 c1)
  )
section S16
variable {G : ev_G} {d : Nat} {h : ev_H} {R : Option Value → ev_H → Prop} {a : Nat} {S T : AS}
theorem s_St_clear (hS : StR h a S) (hR : ∀ h', Kp h h' a (a + 4) → StR h' a (clrS S) → R none h') : Ev G d 0 0 M_St_clear 0 [.ref a] [] h R := by
  obtain ⟨brf, tgf, cof, fv, t1, t2, t3, t4, e1, e2, F⟩ := hS
  refine b_St_clear_0 t1 (hR _ ((((Kp.refl h _ _).set _ (by omega) (by omega)).set _ (by omega) (by omega)).set _ (by omega) (by omega)) ?_)
  exact ⟨brf, tgf, cof, .null, ⟨t1.1, hset_eq _ _ _⟩, ⟨t2.1, by simp [hset, t2.2]⟩, ⟨t3.1, by simp [hset, t3.2]⟩, ⟨t4.1, by simp [hset, t4.2]⟩, e1, fun i hi => absurd hi (Nat.not_lt_zero i), Or.inl ⟨rfl, rfl⟩⟩
theorem s_St_halve (hS : StR h a S) (hb : sB S ≤ 48) (ha : a + 4 ≤ 126) (hR : ∀ h', Kp h h' a (a + 4) → StR h' a (halS S) → R none h') : Ev G d 0 0 M_St_halve 0 [.ref a] [] h R := by
  obtain ⟨brf, tgf, cof, fv, t1, t2, t3, t4, e1, e2, F⟩ := hS
  have K := (((Kp.refl h a (a + 4)).set (k := a) (oC 6 [.int (nI (sB S)), .int 2, .ref (a + 1), .int (nI (sN S)), .ref (a + 2), .ref (a + 3), fv]) (by omega) (by omega)).set (k := a + 1) (aI 6 (upd brf 0 (nI (sB S) - (nI (sB S) / (2 : Int32))))) (by omega) (by omega)).set (k := a + 1) (aI 6 (upd (upd brf 0 (nI (sB S) - (nI (sB S) / (2 : Int32)))) 1 (nI (sB S) / (2 : Int32)))) (by omega) (by omega)
  refine b_St_halve_0 t1 t2 (hR _ K ?_)
  have q2 : nI (sB S) / (2 : Int32) = nI (sB S / 2) := nI_div (b := 2) (by omega) (by omega)
  have q1 : nI (sB S) - nI (sB S / 2) = nI (sB S - sB S / 2) := nI_sub (Nat.div_le_self _ _)
  refine ⟨_, tgf, cof, fv, hat_ne (hat_ne (hat_set t1) (by omega)) (by omega), ⟨t2.1, hset_eq _ _ _⟩, ⟨t3.1, by simp [hset, t3.2]⟩, ⟨t4.1, by simp [hset, t4.2]⟩, fun i hi => ?_, e2, ?_⟩
  · rw [q2, q1]
    have hi : i < 2 := hi
    have : i = 0 ∨ i = 1 := by omega
    rcases this with rfl | rfl <;> rfl
  · rcases F with F | ⟨e, f, w1, w2, F⟩
    · exact Or.inl F
    · exact Or.inr ⟨e, f, w1, w2, F.kg K.g (Nat.le_trans ha w2)⟩
theorem FvR.fit {h : ev_H} {fv : Value} {fl : List AStp} (F : FvR h fv fl) : ev_fit (.object "AlikeStore$Filter") fv = true := by
  rcases F with ⟨_, rfl⟩ | ⟨_, f, rfl, _⟩ <;> rfl
theorem s_St_become {b : Nat} (hS : StR h a S) (hT : StR h b T) (ok : sOk T) (ha : a + 4 ≤ 126) (hab : a + 4 ≤ b ∨ b + 4 ≤ a) (hR : ∀ h', Kp h h' a (a + 4) → StR h' a T → R none h') : Ev G (d + 1) 0 0 M_St_become 0 [.ref a, .ref b] [] h R := by
  obtain ⟨brf, tgf, cof, fv, t1, t2, t3, t4, e1, e2, F⟩ := hS
  obtain ⟨brg, tgg, cog, gv, u1, u2, u3, u4, v1, v2, E⟩ := hT
  have h6 := ok.2.2.2.1
  have hz := ok.2.2.2.2.1
  have hR2 : ∀ h', Kp h h' a (a + 4) → (Kp h h' a (a + 4) → StR h' a T) → R none h' := fun h' K st => hR h' K (st K)
  refine b_St_become_0 u1 t1 u2 t2 u3 t3 u4 t4 (by omega) E.fit (by omega) (by omega) (by omega) (by omega) (by omega) (by omega) (by omega) (by omega) (by omega) (by omega) (by omega) (by omega) (by omega) (by omega) (by omega) (hR2 _ (((((((Kp.refl h a (a + 4)).set _ ?_ ?_).set _ ?_ ?_).set _ ?_ ?_).set _ ?_ ?_).set _ ?_ ?_).set _ ?_ ?_ |>.set _ ?_ ?_) ?_)
  all_goals try omega
  intro K
  refine ⟨_, _, _, gv, hat_ne (hat_ne (hat_ne ⟨t1.1, hset_eq _ _ _⟩ (by omega)) (by omega)) (by omega), hat_ne (hat_ne ⟨t2.1, hset_eq _ _ _⟩ (by omega)) (by omega), hat_ne ⟨t3.1, hset_eq _ _ _⟩ (by omega), ⟨t4.1, hset_eq _ _ _⟩, fun i hi => ?_, fun i hi => ?_, E.kg K.g ha⟩
  · unfold va_cpy; rw [if_pos (by omega), Nat.zero_add, Nat.sub_zero]; exact v1 i hi
  · unfold va_cpy; rw [if_pos (by omega), Nat.zero_add, Nat.sub_zero, if_pos (by omega)]; exact v2 i hi
theorem s_St_append {tI : Int32} {c : Int64} {t : Nat} (hS : StR h a S) (ok : sOk S) (ha : a + 4 ≤ 126) (ht : tI = nI t) (hR : ∀ h', Kp h h' a (a + 4) → StR h' a (apS S c t) → R none h') : Ev G d 0 0 M_St_append 0 [.ref a, .long c, ev_unk, .int tI] [] h R := by
  have hS0 := hS
  obtain ⟨brf, tgf, cof, fv, t1, t2, t3, t4, e1, e2, F⟩ := hS
  have hz := ok.2.2.2.2.1
  refine b_St_append_0 (j6 := sN S) t1 t3 t4 (fun q => ixn ((nI_ltI (by omega) (by decide)).mp q) (by decide)) (fun q => ?_) (fun q => ?_)
  · have q : sN S < 32 := (nI_ltI (by omega) (by decide)).mp q
    have K := ((((Kp.refl h a (a + 4)).set (k := a + 2) (aL 32 (vp_updL cof (sN S) c)) (by omega) (by omega)).set (k := a + 3) (aI 32 (upd tgf (sN S) tI)) (by omega) (by omega)).set (k := a) (oC 6 [.int (nI (sB S)), .int (nI (sP S)), .ref (a + 1), .int (nI (sN S) + 1), .ref (a + 2), .ref (a + 3), fv]) (by omega) (by omega))
    refine hR _ K ?_
    rw [nI_1]
    have e : apS S c t = mkS (sB S) (sP S) (sN S + 1) (sBr S) (fun i => if i = sN S then c else sCo S i) (fun i => if i = sN S then t else sTg S i) (sFl S) := if_pos q
    rw [e]
    rw [nI_1] at K
    refine ⟨brf, _, _, fv, ⟨t1.1, hset_eq _ _ _⟩, hat_ne (hat_ne (hat_ne t2 (by omega)) (by omega)) (by omega), hat_ne (hat_ne (hat_set t3) (by omega)) (by omega), hat_ne ⟨t4.1, hset_eq _ _ _⟩ (by omega), e1, fun i hi => ?_, F.kg K.g ha⟩
    have hi : i < sN S + 1 := hi
    by_cases ei : i = sN S
    · subst ei
      refine ⟨?_, ?_⟩
      · show vp_updL cof (sN S) c (sN S) = (if sN S = sN S then c else sCo S (sN S)); simp [vp_updL]
      · show upd tgf (sN S) tI (sN S) = nI (if sN S = sN S then t else sTg S (sN S)); simp [upd, ht]
    · refine ⟨?_, ?_⟩
      · show vp_updL cof (sN S) c i = (if i = sN S then c else sCo S i); rw [if_neg ei, ← (e2 i (by omega)).1]; exact if_neg ei
      · show upd tgf (sN S) tI i = nI (if i = sN S then t else sTg S i); rw [if_neg ei, ← (e2 i (by omega)).2]; exact if_neg ei
  · have e : apS S c t = S := if_neg fun z => q (nI_lt z (by decide))
    exact hR _ (Kp.refl _ _ _) (by rw [e]; exact hS0)
theorem s_St_drop {cI : Int32} {c : Nat} (hS : StR h a S) (ok : sOk S) (ha : a + 4 ≤ 126) (hc : cI = nI c ∧ c < sN S) (hR : ∀ h', Kp h h' a (a + 4) → StR h' a (drS S c) → R none h') : Ev G d 0 0 M_St_drop 0 [.ref a, .int cI, ev_unk] [] h R := by
  obtain ⟨rfl, hc⟩ := hc
  obtain ⟨brf, tgf, cof, fv, t1, t2, t3, t4, e1, e2, F⟩ := hS
  have hz := ok.2.2.2.2.1
  refine b_St_drop_0 ?_
  have L := up_to (P := fun i => c ≤ i → ∀ h' cof' tgf', Kp h h' a (a + 4) → hat h' a (oC 6 [.int (nI (sB S)), .int (nI (sP S)), .ref (a + 1), .int (nI (sN S)), .ref (a + 2), .ref (a + 3), fv]) → hat h' (a + 1) (aI 6 brf) → hat h' (a + 2) (aL 32 cof') → hat h' (a + 3) (aI 32 tgf') → (∀ j, j < sN S → cof' j = (if c ≤ j ∧ j < i then sCo S (j + 1) else sCo S j) ∧ tgf' j = nI (if c ≤ j ∧ j < i then sTg S (j + 1) else sTg S j)) → Ev G d 0 0 M_St_drop 2 [.ref a, .int (nI c), .int (nI i)] [] h' R) (N := sN S - 1) ?_ ?_
  · refine L c (by omega) (Nat.le_refl _) h cof tgf (Kp.refl _ _ _) t1 t2 t3 t4 fun j hj => ?_
    rw [if_neg (by omega), if_neg (by omega)]; exact e2 j hj
  · intro i hi ih hci h' cof' tgf' K g1 g2 g3 g4 ge
    refine b_St_drop_2 (j6 := i + 1) (j7 := i) g1 g3 g4 (fun _ => by rw [nI_1]; exact ixn (by omega) (by decide)) (fun _ => ixn (by omega) (by decide)) (fun _ => ?_) (fun q => absurd (by rw [nI_1]; exact nI_lt (by omega) (by omega)) q)
    rw [nI_1]
    refine ih (by omega) _ _ _ ((K.set _ (by omega) (by omega)).set _ (by omega) (by omega)) (hat_ne (hat_ne g1 (by omega)) (by omega)) (hat_ne (hat_ne g2 (by omega)) (by omega)) (hat_ne (hat_set g3) (by omega)) (⟨g4.1, hset_eq _ _ _⟩) fun j hj => ?_
    obtain ⟨v1, v2⟩ := ge (i + 1) (by omega)
    rw [if_neg (by omega)] at v1 v2
    by_cases e : j = i
    · subst e
      rw [if_pos (by omega), if_pos (by omega)]
      exact ⟨by simp only [vp_updL, if_true]; exact v1, by simp only [upd, if_true]; exact v2⟩
    · obtain ⟨u1, u2⟩ := ge j hj
      have ec : (c ≤ j ∧ j < i + 1) ↔ (c ≤ j ∧ j < i) := by omega
      simp only [ec]
      exact ⟨by simp only [vp_updL, if_neg e]; exact u1, by simp only [upd, if_neg e]; exact u2⟩
  · intro hci h' cof' tgf' K g1 g2 g3 g4 ge
    have no : ¬ nI (sN S - 1) + 1 < nI (sN S) := by rw [nI_1, Nat.sub_add_cancel (by omega)]; exact nl_self (by omega)
    refine b_St_drop_2 (j6 := 0) (j7 := 0) g1 g3 g4 (fun q => absurd q no) (fun q => absurd q no) (fun q => absurd q no) (fun _ => ?_)
    have K2 := K.set (k := a) (oC 6 [.int (nI (sB S)), .int (nI (sP S)), .ref (a + 1), .int (nI (sN S) - 1), .ref (a + 2), .ref (a + 3), fv]) (by omega) (by omega)
    refine hR _ K2 ?_
    rw [show nI (sN S) - 1 = nI (sN S - 1) from nI_sub (b := 1) (by omega)] at K2 ⊢
    refine ⟨brf, _, _, fv, ⟨g1.1, hset_eq _ _ _⟩, hat_ne g2 (by omega), hat_ne g3 (by omega), hat_ne g4 (by omega), e1, fun i hi => ?_, F.kg K2.g ha⟩
    have hi : i < sN S - 1 := hi
    obtain ⟨u1, u2⟩ := ge i (by omega)
    rw [u1, u2]
    show (if c ≤ i ∧ i < sN S - 1 then sCo S (i + 1) else sCo S i) = (if i < c then sCo S i else sCo S (i + 1)) ∧ nI (if c ≤ i ∧ i < sN S - 1 then sTg S (i + 1) else sTg S i) = nI (if i < c then sTg S i else sTg S (i + 1))
    by_cases e : i < c
    · rw [if_neg (by omega), if_pos e, if_neg (by omega), if_pos e]; exact ⟨rfl, rfl⟩
    · rw [if_pos (by omega), if_neg e, if_pos (by omega), if_neg e]; exact ⟨rfl, rfl⟩
def exN (S : AS) (b o : Nat) : Nat := cnt (fun j => lt (sCo S j) b != lt (sCo S j) o) (sN S)
theorem s_St_exchange {bI oI : Int32} {b o : Nat} (hS : StR h a S) (ok : sOk S) (ha : a + 4 ≤ 126) (hb : bI = nI b ∧ b < 64) (ho : oI = nI o ∧ o < 64) (hR : ∀ h', Kp h h' a (a + 4) → StR h' a (exS S b o) → R (some (.int (nI (exN S b o)))) h') : Ev G (d + 1) 0 0 M_St_exchange 0 [.ref a, .int bI, .int oI, ev_unk, ev_unk] [] h R := by
  obtain ⟨rfl, hb⟩ := hb
  obtain ⟨rfl, ho⟩ := ho
  obtain ⟨brf, tgf, cof, fv, t1, t2, t3, t4, e1, e2, F⟩ := hS
  have hz := ok.2.2.2.2.1
  refine b_St_exchange_0 ?_
  have L := up0 (P := fun i => ∀ h' cof', Kp h h' a (a + 4) → hat h' a (oC 6 [.int (nI (sB S)), .int (nI (sP S)), .ref (a + 1), .int (nI (sN S)), .ref (a + 2), .ref (a + 3), fv]) → hat h' (a + 1) (aI 6 brf) → hat h' (a + 2) (aL 32 cof') → hat h' (a + 3) (aI 32 tgf) → (∀ j, j < sN S → cof' j = (if j < i then exC (sCo S j) b o else sCo S j)) → Ev G (d + 1) 0 0 M_St_exchange 5 [.ref a, .int (nI b), .int (nI o), .int (nI (cnt (fun j => lt (sCo S j) b != lt (sCo S j) o) i)), .int (nI i)] [] h' R) (sN S) ?_ ?_
  · exact L h cof (Kp.refl _ _ _) t1 t2 t3 t4 fun j hj => (e2 j hj).1
  · intro i hi ih h' cof' K g1 g2 g3 g4 ge
    have gi := ge i hi
    rw [if_neg (by omega)] at gi
    refine b_St_exchange_5 (j6 := i) g1 g3 (fun _ => ixn (by omega) (by decide)) (fun _ _ => ixn (by omega) (by decide)) (fun _ q => ?_) (fun _ q => ?_) (fun q => absurd (nI_lt hi (by omega)) q)
    · rw [tbL_n hb, tbL_n ho, gi] at q
      have q : lt (sCo S i) b = lt (sCo S i) o := by revert q; cases lt (sCo S i) b <;> cases lt (sCo S i) o <;> decide
      rw [nI_1]
      have st : cnt (fun j => lt (sCo S j) b != lt (sCo S j) o) (i + 1) = cnt (fun j => lt (sCo S j) b != lt (sCo S j) o) i + if lt (sCo S i) b != lt (sCo S i) o then 1 else 0 := rfl
      rw [q] at st
      simp only [bne_self_eq_false, Bool.false_eq_true, if_false, Nat.add_zero] at st
      rw [st] at ih
      refine ih h' cof' K g1 g2 g3 g4 fun j hj => ?_
      by_cases e : j = i
      · subst e; rw [if_pos (by omega), gi]; unfold exC; rw [if_pos q]
      · rw [ge j hj]; by_cases e2 : j < i
        · rw [if_pos e2, if_pos (by omega)]
        · rw [if_neg e2, if_neg (by omega)]
    · rw [tbL_n hb, tbL_n ho, gi] at q
      have q : ¬ lt (sCo S i) b = lt (sCo S i) o := fun z => q (by rw [z])
      rw [nI_1, nI_1]
      have st : cnt (fun j => lt (sCo S j) b != lt (sCo S j) o) (i + 1) = cnt (fun j => lt (sCo S j) b != lt (sCo S j) o) i + if lt (sCo S i) b != lt (sCo S i) o then 1 else 0 := rfl
      rw [bne_iff_ne.mpr q, if_pos rfl] at st
      rw [st] at ih
      refine ih _ _ (K.set _ (by omega) (by omega)) (hat_ne g1 (by omega)) (hat_ne g2 (by omega)) ⟨g3.1, hset_eq _ _ _⟩ (hat_ne g4 (by omega)) fun j hj => ?_
      by_cases e : j = i
      · subst e; rw [if_pos (by omega)]; simp only [vp_updL, if_true]; rw [gi]; unfold exC; rw [if_neg q]
      · simp only [vp_updL, if_neg e]; rw [ge j hj]; by_cases e2 : j < i
        · rw [if_pos e2, if_pos (by omega)]
        · rw [if_neg e2, if_neg (by omega)]
  · intro h' cof' K g1 g2 g3 g4 ge
    refine b_St_exchange_5 (j6 := 0) g1 g3 (fun q => absurd q (nl_self (by omega))) (fun q => absurd q (nl_self (by omega))) (fun q => absurd q (nl_self (by omega))) (fun q => absurd q (nl_self (by omega))) (fun _ => ?_)
    refine hR _ K ⟨brf, tgf, cof', fv, g1, g2, g3, g4, e1, fun i hi => ⟨?_, (e2 i hi).2⟩, F.kg K.g ha⟩
    have hi : i < sN S := hi
    rw [ge i hi, if_pos hi]; rfl
theorem nI_dec (n : Nat) : nI (n + 1) + (-1) = nI n := by rw [← Int32.sub_eq_add_neg]; exact nI_pred n
theorem s_St_cutPart {pI wI : Int32} {p w : Nat} (hS : StR h a S) (ok : sOk S) (ha : a + 4 ≤ 126) (hp : pI = nI p ∧ p < sP S) (h5 : sP S ≤ 5) (hw : wI = nI w ∧ w ≤ sBr S p) (hR : ∀ h', Kp h h' a (a + 4) → StR h' a (cutS S p w) → R none h') : Ev G (d + 1) 0 0 M_St_cutPart 0 [.ref a, .int pI, .int wI, ev_unk] [] h R := by
  obtain ⟨rfl, hp⟩ := hp
  obtain ⟨rfl, hw⟩ := hw
  obtain ⟨brf, tgf, cof, fv, t1, t2, t3, t4, e1, e2, F⟩ := hS
  refine b_St_cutPart_0 t1 ?_
  rw [if_neg (show ¬ (5 : Int32) < nI (sP S) from nI_nlt (a := 5) h5 (by decide))]
  have L : ∀ t, p + t ≤ sP S → ∀ h' brf', Kp h h' a (a + 4) → hat h' a (oC 6 [.int (nI (sB S)), .int (nI (sP S)), .ref (a + 1), .int (nI (sN S)), .ref (a + 2), .ref (a + 3), fv]) → hat h' (a + 1) (aI 6 brf') → hat h' (a + 2) (aL 32 cof) → hat h' (a + 3) (aI 32 tgf) → (∀ j, j ≤ sP S → brf' j = (if p + t < j then brf (j - 1) else brf j)) → Ev G (d + 1) 0 0 M_St_cutPart 9 [.ref a, .int (nI p), .int (nI w), .int (nI (p + t))] [] h' R := by
    intro t
    induction t with
    | zero =>
      intro _ h' brf' K g1 g2 g3 g4 ge
      refine b_St_cutPart_9 (j6 := 0) (j7 := 0) (j8 := p) (j9 := p + 1) g1 g2 (fun q => absurd q (nl_self (by omega))) (fun q => absurd q (nl_self (by omega))) (fun _ => ixn (by omega) (by decide)) (fun _ => by rw [nI_1]; exact ixn (by omega) (by decide)) (fun q => absurd q (nl_self (by omega))) (fun _ => ?_)
      have K2 := ((K.set (k := a + 1) (aI 6 (upd brf' p (nI w))) (by omega) (by omega)).set (k := a + 1) (aI 6 (upd (upd brf' p (nI w)) (p + 1) ((upd brf' p (nI w)) (p + 1) - nI w))) (by omega) (by omega)).set (k := a) (oC 6 [.int (nI (sB S)), .int (nI (sP S) + 1), .ref (a + 1), .int (nI (sN S)), .ref (a + 2), .ref (a + 3), fv]) (by omega) (by omega)
      refine hR _ K2 ?_
      rw [nI_1] at K2 ⊢
      refine ⟨_, tgf, cof, fv, ⟨g1.1, hset_eq _ _ _⟩, hat_ne ⟨g2.1, hset_eq _ _ _⟩ (by omega), hat_ne (hat_ne (hat_ne g3 (by omega)) (by omega)) (by omega), hat_ne (hat_ne (hat_ne g4 (by omega)) (by omega)) (by omega), fun i hi => ?_, e2, F.kg K2.g ha⟩
      have hi : i < sP S + 1 := hi
      show upd (upd brf' p (nI w)) (p + 1) ((upd brf' p (nI w)) (p + 1) - nI w) i = nI (if i < p then sBr S i else if i = p then w else if i = p + 1 then sBr S p - w else sBr S (i - 1))
      have hg := ge i (by omega)
      by_cases c1 : i < p
      · rw [if_pos c1]; simp only [upd, if_neg (show ¬ i = p + 1 by omega), if_neg (show ¬ i = p by omega)]
        rw [hg, if_neg (by omega)]; exact e1 i (by omega)
      · by_cases c2 : i = p
        · rw [if_neg c1, if_pos c2]; simp only [upd, if_neg (show ¬ i = p + 1 by omega), if_pos c2]
        · by_cases c3 : i = p + 1
          · rw [if_neg c1, if_neg c2, if_pos c3]; subst c3
            simp only [upd, if_true, if_neg (show ¬ p + 1 = p by omega)]
            rw [hg, if_pos (by omega), Nat.add_sub_cancel, e1 p hp]; exact nI_sub hw
          · rw [if_neg c1, if_neg c2, if_neg c3]; simp only [upd, if_neg c3, if_neg c2]
            rw [hg, if_pos (by omega)]; exact e1 (i - 1) (by omega)
    | succ t ih =>
      intro ht h' brf' K g1 g2 g3 g4 ge
      have lt : nI p < nI (p + (t + 1)) := nI_lt (by omega) (by omega)
      refine b_St_cutPart_9 (j6 := p + t) (j7 := p + (t + 1)) (j8 := 0) (j9 := 0) g1 g2 (fun _ => ?_) (fun _ => ixn (by omega) (by decide)) (fun q => absurd lt q) (fun q => absurd lt q) (fun _ => ?_) (fun q => absurd lt q)
      · rw [show nI (p + (t + 1)) - 1 = nI (p + t) from nI_pred (p + t)]; exact ixn (by omega) (by decide)
      · rw [show nI (p + (t + 1)) + (-1) = nI (p + t) from nI_dec (p + t)]
        refine ih (by omega) _ _ (K.set _ (by omega) (by omega)) (hat_ne g1 (by omega)) ⟨g2.1, hset_eq _ _ _⟩ (hat_ne g3 (by omega)) (hat_ne g4 (by omega)) fun j hj => ?_
        by_cases c1 : j = p + (t + 1)
        · subst c1; rw [if_pos (by omega)]; simp only [upd, if_true]
          rw [ge (p + t) (by omega), if_neg (by omega)]; rfl
        · simp only [upd, if_neg c1]; rw [ge j hj]
          by_cases c2 : p + t < j
          · rw [if_pos (by omega), if_pos c2]
          · rw [if_neg (by omega), if_neg c2]
  have := L (sP S - p) (by omega) h brf (Kp.refl _ _ _) t1 t2 t3 t4 fun j hj => by rw [if_neg (by omega)]
  rw [Nat.add_sub_cancel' (by omega)] at this
  exact this
theorem s_St_joinPart {pI : Int32} {p : Nat} (hS : StR h a S) (ok : sOk S) (ha : a + 4 ≤ 126) (hp : pI = nI p ∧ p + 1 < sP S) (hR : ∀ h', Kp h h' a (a + 4) → StR h' a (joinS S p) → R none h') : Ev G d 0 0 M_St_joinPart 0 [.ref a, .int pI, ev_unk] [] h R := by
  obtain ⟨rfl, hp⟩ := hp
  obtain ⟨brf, tgf, cof, fv, t1, t2, t3, t4, e1, e2, F⟩ := hS
  have h6 := ok.2.2.2.1
  refine b_St_joinPart_0 (j6 := p) (j7 := p + 1) t1 t2 (ixn (by omega) (by decide)) (by rw [nI_1]; exact ixn (by omega) (by decide)) ?_
  have L := up_to (P := fun i => p < i → ∀ h' brf', Kp h h' a (a + 4) → hat h' a (oC 6 [.int (nI (sB S)), .int (nI (sP S)), .ref (a + 1), .int (nI (sN S)), .ref (a + 2), .ref (a + 3), fv]) → hat h' (a + 1) (aI 6 brf') → hat h' (a + 2) (aL 32 cof) → hat h' (a + 3) (aI 32 tgf) → (∀ j, j < sP S → brf' j = if j = p then brf p + brf (p + 1) else if p < j ∧ j < i then brf (j + 1) else brf j) → Ev G d 0 0 M_St_joinPart 21 [.ref a, .int (nI p), .int (nI i)] [] h' R) (N := sP S - 1) ?_ ?_
  · rw [nI_1]
    refine L (p + 1) (by omega) (by omega) _ _ ((Kp.refl h _ _).set _ (by omega) (by omega)) (hat_ne t1 (by omega)) ⟨t2.1, hset_eq _ _ _⟩ (hat_ne t3 (by omega)) (hat_ne t4 (by omega)) fun j hj => ?_
    by_cases c : j = p
    · rw [if_pos c]; simp only [upd, if_pos c]
    · rw [if_neg c, if_neg (by omega)]; simp only [upd, if_neg c]
  · intro i hi ih hpi h' brf' K g1 g2 g3 g4 ge
    refine b_St_joinPart_21 (j6 := i + 1) (j7 := i) g1 g2 (fun _ => by rw [nI_1]; exact ixn (by omega) (by decide)) (fun _ => ixn (by omega) (by decide)) (fun _ => ?_) (fun q => absurd (by rw [nI_1]; exact nI_lt (by omega) (by omega)) q)
    rw [nI_1]
    refine ih (by omega) _ _ (K.set _ (by omega) (by omega)) (hat_ne g1 (by omega)) ⟨g2.1, hset_eq _ _ _⟩ (hat_ne g3 (by omega)) (hat_ne g4 (by omega)) fun j hj => ?_
    by_cases e : j = i
    · subst e
      rw [if_neg (by omega), if_pos (by omega)]
      simp only [upd, if_true]
      rw [ge (j + 1) (by omega), if_neg (by omega), if_neg (by omega)]
    · have ec : (p < j ∧ j < i + 1) ↔ (p < j ∧ j < i) := by omega
      simp only [ec, upd, if_neg e]
      exact ge j hj
  · intro hpi h' brf' K g1 g2 g3 g4 ge
    have no : ¬ nI (sP S - 1) + 1 < nI (sP S) := by rw [nI_1, Nat.sub_add_cancel (by omega)]; exact nl_self (by omega)
    refine b_St_joinPart_21 (j6 := 0) (j7 := 0) g1 g2 (fun q => absurd q no) (fun q => absurd q no) (fun q => absurd q no) (fun _ => ?_)
    have K2 := K.set (k := a) (oC 6 [.int (nI (sB S)), .int (nI (sP S) - 1), .ref (a + 1), .int (nI (sN S)), .ref (a + 2), .ref (a + 3), fv]) (by omega) (by omega)
    refine hR _ K2 ?_
    rw [show nI (sP S) - 1 = nI (sP S - 1) from nI_sub (b := 1) (by omega)] at K2 ⊢
    refine ⟨_, tgf, cof, fv, ⟨g1.1, hset_eq _ _ _⟩, hat_ne g2 (by omega), hat_ne g3 (by omega), hat_ne g4 (by omega), fun i hi => ?_, e2, F.kg K2.g ha⟩
    have hi : i < sP S - 1 := hi
    rw [ge i (by omega)]
    show _ = nI (if i < p then sBr S i else if i = p then sBr S p + sBr S (p + 1) else sBr S (i + 1))
    by_cases c1 : i < p
    · rw [if_neg (by omega), if_neg (by omega), if_pos c1]; exact e1 i (by omega)
    · by_cases c2 : i = p
      · rw [if_pos c2, if_neg c1, if_pos c2, e1 p (by omega), e1 (p + 1) hp]; exact nI_add _ _
      · rw [if_neg c2, if_neg c1, if_neg c2, if_pos (by omega)]; exact e1 (i + 1) (by omega)
end S16
end
section
/-! TAPE, STEPS, HISTORY -/
theorem b_Ta_put_0 {G : ev_G} {d k n : Nat} {h : ev_H} {R : Option Value → ev_H → Prop} {x1 : Int32}
  (k1 : Ev G d k n M_Ta_put 3 [.ref 12, .int x1, .int (24 : Int32)] [] h R)
  : Ev G d k n M_Ta_put 0 [.ref 12, .int x1, ev_unk] [] h R :=
  Ev.go (pc' := 3) (ls' := [.ref 12, .int x1, .int (24 : Int32)]) (st' := []) [.bipush (24), .istore_n 2] (by decide +kernel) rfl <|
  k1
theorem b_Ta_put_3 {G : ev_G} {d k n : Nat} {h : ev_H} {R : Option Value → ev_H → Prop} {x1 : Int32} {x2 : Int32} {f_size_1 : Int32} {g2 : Nat → Int32} {j3 : Nat}
  (a1 : hat h 12 (oC 7 [.ref 13, .int f_size_1]))
  (a2 : hat h 13 (aB 900 g2))
  (i3 : ¬ x2 < (0 : Int32) → f_size_1 < (900 : Int32) → ev_ix f_size_1 j3 900)
  (k1 : x2 < (0 : Int32) → R none h)
  (k2 : ¬ x2 < (0 : Int32) → f_size_1 < (900 : Int32) → Ev G d k n M_Ta_put 3 [.ref 12, .int x1, .int (x2 + (-8 : Int32))] [] (hset (hset h 13 (aB 900 (upd g2 j3 (vp_nar .byte (x1 >>> (x2 &&& 31)).toInt8.toInt32)))) 12 (oC 7 [.ref 13, .int (f_size_1 + (1 : Int32))])) R)
  (k3 : ¬ x2 < (0 : Int32) → ¬ f_size_1 < (900 : Int32) → R none h)
  : Ev G d k n M_Ta_put 3 [.ref 12, .int x1, .int x2] [] h R :=
  Ev.go (pc' := 4) (ls' := [.ref 12, .int x1, .int x2]) (st' := [.int x2]) [.iload_n 2] (by decide +kernel) rfl <|
  Ev.br (i := .ifCond .lt (42)) (P := x2 < (0 : Int32)) (t := 46) (f := 7) (r := []) (by decide +kernel) rfl (fun c1 =>
    Ev.ret (r := none) (Or.inr (Or.inr (Or.inl ⟨rfl, by decide +kernel, rfl⟩))) (k1 c1)
  ) (fun c1 =>
    Ev.go (pc' := 8) (ls' := [.ref 12, .int x1, .int x2]) (st' := [.ref 12]) [.aload_n 0] (by decide +kernel) rfl <|
    Ev.getf f_Ta_15 (by decide +kernel) a1 rfl <|
    Ev.go (pc' := 14) (ls' := [.ref 12, .int x1, .int x2]) (st' := [.int (900 : Int32), .int f_size_1]) [.sipush (900)] (by decide +kernel) rfl <|
    Ev.br (i := .if_icmp .ge (32)) (P := f_size_1 < (900 : Int32)) (t := 17) (f := 46) (r := []) (by decide +kernel) rfl (fun c2 =>
      Ev.go (pc' := 18) (ls' := [.ref 12, .int x1, .int x2]) (st' := [.ref 12]) [.aload_n 0] (by decide +kernel) rfl <|
      Ev.getf f_Ta_9 (by decide +kernel) a1 rfl <|
      Ev.go (pc' := 22) (ls' := [.ref 12, .int x1, .int x2]) (st' := [.ref 12, .ref 13]) [.aload_n 0] (by decide +kernel) rfl <|
      Ev.getf f_Ta_15 (by decide +kernel) a1 rfl <|
      Ev.go (pc' := 29) (ls' := [.ref 12, .int x1, .int x2]) (st' := [.int (x1 >>> (x2 &&& 31)).toInt8.toInt32, .int f_size_1, .ref 13]) [.iload_n 1, .iload_n 2, .ishr, .i2b] (by decide +kernel) rfl <|
      Ev.bast (j := j3) (by decide +kernel) a2 (i3 c1 c2) <| show Ev G d _ _ M_Ta_put 30 [.ref 12, .int x1, .int x2] [] (hset h 13 (aB 900 (upd g2 j3 (vp_nar .byte (x1 >>> (x2 &&& 31)).toInt8.toInt32)))) R from
      Ev.go (pc' := 32) (ls' := [.ref 12, .int x1, .int x2]) (st' := [.ref 12, .ref 12]) [.aload_n 0, .dup] (by decide +kernel) rfl <|
      Ev.getf f_Ta_15 (by decide +kernel) (hat_ne a1 (by decide)) rfl <|
      Ev.go (pc' := 37) (ls' := [.ref 12, .int x1, .int x2]) (st' := [.int (f_size_1 + (1 : Int32)), .ref 12]) [.iconst 1, .iadd] (by decide +kernel) rfl <|
      Ev.putf f_Ta_15 (by decide +kernel) (hat_ne a1 (by decide)) (Nat.le_of_ble_eq_true rfl) rfl (fun q => nomatch q) <| show Ev G d _ _ M_Ta_put 40 [.ref 12, .int x1, .int x2] [] (hset (hset h 13 (aB 900 (upd g2 j3 (vp_nar .byte (x1 >>> (x2 &&& 31)).toInt8.toInt32)))) 12 (oC 7 [.ref 13, .int (f_size_1 + (1 : Int32))])) R from
      Ev.go (pc' := 3) (ls' := [.ref 12, .int x1, .int (x2 + (-8 : Int32))]) (st' := []) [.iinc 2 (-8), .goto (-40)] (by decide +kernel) rfl <|
      (k2 c1 c2)
    ) (fun c2 =>
      Ev.ret (r := none) (Or.inr (Or.inr (Or.inl ⟨rfl, by decide +kernel, rfl⟩))) (k3 c1 c2)
    )
  )
theorem b_Sp_put_0 {G : ev_G} {d k n : Nat} {h : ev_H} {R : Option Value → ev_H → Prop} {x1 : Int32} {x2 : Int32} {x3 : Int32} {x4 : Int32} {x5 : Int64} {f_size_1 : Int32} {g2 : Nat → Int32} {j3 : Nat} {g4 : Nat → Int32} {g5 : Nat → Int32} {g6 : Nat → Int32} {g7 : Nat → Int64}
  (a1 : hat h 6 (oC 5 [.ref 7, .ref 8, .ref 9, .ref 10, .ref 11, .int f_size_1]))
  (a2 : hat h 7 (aI 300 g2))
  (a4 : hat h 8 (aI 300 g4))
  (a5 : hat h 9 (aI 300 g5))
  (a6 : hat h 10 (aI 300 g6))
  (a7 : hat h 11 (aL 300 g7))
  (i3 : f_size_1 < (300 : Int32) → ev_ix f_size_1 j3 300)
  (k1 : f_size_1 < (300 : Int32) → R none (hset (hset (hset (hset (hset (hset h 7 (aI 300 (upd g2 j3 x1))) 8 (aI 300 (upd g4 j3 x2))) 9 (aI 300 (upd g5 j3 x3))) 10 (aI 300 (upd g6 j3 x4))) 11 (aL 300 (vp_updL g7 j3 x5))) 6 (oC 5 [.ref 7, .ref 8, .ref 9, .ref 10, .ref 11, .int (f_size_1 + (1 : Int32))])))
  (k2 : ¬ f_size_1 < (300 : Int32) → R none h)
  : Ev G d k n M_Sp_put 0 [.ref 6, .int x1, .int x2, .int x3, .int x4, .long x5, ev_unk] [] h R :=
  Ev.go (pc' := 1) (ls' := [.ref 6, .int x1, .int x2, .int x3, .int x4, .long x5, ev_unk]) (st' := [.ref 6]) [.aload_n 0] (by decide +kernel) rfl <|
  Ev.getf f_Sp_28 (by decide +kernel) a1 rfl <|
  Ev.go (pc' := 7) (ls' := [.ref 6, .int x1, .int x2, .int x3, .int x4, .long x5, ev_unk]) (st' := [.int (300 : Int32), .int f_size_1]) [.sipush (300)] (by decide +kernel) rfl <|
  Ev.br (i := .if_icmp .ge (65)) (P := f_size_1 < (300 : Int32)) (t := 10) (f := 72) (r := []) (by decide +kernel) rfl (fun c1 =>
    Ev.go (pc' := 11) (ls' := [.ref 6, .int x1, .int x2, .int x3, .int x4, .long x5, ev_unk]) (st' := [.ref 6]) [.aload_n 0] (by decide +kernel) rfl <|
    Ev.getf f_Sp_11 (by decide +kernel) a1 rfl <|
    Ev.go (pc' := 15) (ls' := [.ref 6, .int x1, .int x2, .int x3, .int x4, .long x5, ev_unk]) (st' := [.ref 6, .ref 7]) [.aload_n 0] (by decide +kernel) rfl <|
    Ev.getf f_Sp_28 (by decide +kernel) a1 rfl <|
    Ev.go (pc' := 19) (ls' := [.ref 6, .int x1, .int x2, .int x3, .int x4, .long x5, ev_unk]) (st' := [.int x1, .int f_size_1, .ref 7]) [.iload_n 1] (by decide +kernel) rfl <|
    Ev.iast (j := j3) (by decide +kernel) a2 (i3 c1) <| show Ev G d _ _ M_Sp_put 20 [.ref 6, .int x1, .int x2, .int x3, .int x4, .long x5, ev_unk] [] (hset h 7 (aI 300 (upd g2 j3 x1))) R from
    Ev.go (pc' := 21) (ls' := [.ref 6, .int x1, .int x2, .int x3, .int x4, .long x5, ev_unk]) (st' := [.ref 6]) [.aload_n 0] (by decide +kernel) rfl <|
    Ev.getf f_Sp_15 (by decide +kernel) (hat_ne a1 (by decide)) rfl <|
    Ev.go (pc' := 25) (ls' := [.ref 6, .int x1, .int x2, .int x3, .int x4, .long x5, ev_unk]) (st' := [.ref 6, .ref 8]) [.aload_n 0] (by decide +kernel) rfl <|
    Ev.getf f_Sp_28 (by decide +kernel) (hat_ne a1 (by decide)) rfl <|
    Ev.go (pc' := 29) (ls' := [.ref 6, .int x1, .int x2, .int x3, .int x4, .long x5, ev_unk]) (st' := [.int x2, .int f_size_1, .ref 8]) [.iload_n 2] (by decide +kernel) rfl <|
    Ev.iast (j := j3) (by decide +kernel) (hat_ne a4 (by decide)) (i3 c1) <| show Ev G d _ _ M_Sp_put 30 [.ref 6, .int x1, .int x2, .int x3, .int x4, .long x5, ev_unk] [] (hset (hset h 7 (aI 300 (upd g2 j3 x1))) 8 (aI 300 (upd g4 j3 x2))) R from
    Ev.go (pc' := 31) (ls' := [.ref 6, .int x1, .int x2, .int x3, .int x4, .long x5, ev_unk]) (st' := [.ref 6]) [.aload_n 0] (by decide +kernel) rfl <|
    Ev.getf f_Sp_18 (by decide +kernel) (hat_ne (hat_ne a1 (by decide)) (by decide)) rfl <|
    Ev.go (pc' := 35) (ls' := [.ref 6, .int x1, .int x2, .int x3, .int x4, .long x5, ev_unk]) (st' := [.ref 6, .ref 9]) [.aload_n 0] (by decide +kernel) rfl <|
    Ev.getf f_Sp_28 (by decide +kernel) (hat_ne (hat_ne a1 (by decide)) (by decide)) rfl <|
    Ev.go (pc' := 39) (ls' := [.ref 6, .int x1, .int x2, .int x3, .int x4, .long x5, ev_unk]) (st' := [.int x3, .int f_size_1, .ref 9]) [.iload_n 3] (by decide +kernel) rfl <|
    Ev.iast (j := j3) (by decide +kernel) (hat_ne (hat_ne a5 (by decide)) (by decide)) (i3 c1) <| show Ev G d _ _ M_Sp_put 40 [.ref 6, .int x1, .int x2, .int x3, .int x4, .long x5, ev_unk] [] (hset (hset (hset h 7 (aI 300 (upd g2 j3 x1))) 8 (aI 300 (upd g4 j3 x2))) 9 (aI 300 (upd g5 j3 x3))) R from
    Ev.go (pc' := 41) (ls' := [.ref 6, .int x1, .int x2, .int x3, .int x4, .long x5, ev_unk]) (st' := [.ref 6]) [.aload_n 0] (by decide +kernel) rfl <|
    Ev.getf f_Sp_21 (by decide +kernel) (hat_ne (hat_ne (hat_ne a1 (by decide)) (by decide)) (by decide)) rfl <|
    Ev.go (pc' := 45) (ls' := [.ref 6, .int x1, .int x2, .int x3, .int x4, .long x5, ev_unk]) (st' := [.ref 6, .ref 10]) [.aload_n 0] (by decide +kernel) rfl <|
    Ev.getf f_Sp_28 (by decide +kernel) (hat_ne (hat_ne (hat_ne a1 (by decide)) (by decide)) (by decide)) rfl <|
    Ev.go (pc' := 50) (ls' := [.ref 6, .int x1, .int x2, .int x3, .int x4, .long x5, ev_unk]) (st' := [.int x4, .int f_size_1, .ref 10]) [.iload 4] (by decide +kernel) rfl <|
    Ev.iast (j := j3) (by decide +kernel) (hat_ne (hat_ne (hat_ne a6 (by decide)) (by decide)) (by decide)) (i3 c1) <| show Ev G d _ _ M_Sp_put 51 [.ref 6, .int x1, .int x2, .int x3, .int x4, .long x5, ev_unk] [] (hset (hset (hset (hset h 7 (aI 300 (upd g2 j3 x1))) 8 (aI 300 (upd g4 j3 x2))) 9 (aI 300 (upd g5 j3 x3))) 10 (aI 300 (upd g6 j3 x4))) R from
    Ev.go (pc' := 52) (ls' := [.ref 6, .int x1, .int x2, .int x3, .int x4, .long x5, ev_unk]) (st' := [.ref 6]) [.aload_n 0] (by decide +kernel) rfl <|
    Ev.getf f_Sp_24 (by decide +kernel) (hat_ne (hat_ne (hat_ne (hat_ne a1 (by decide)) (by decide)) (by decide)) (by decide)) rfl <|
    Ev.go (pc' := 56) (ls' := [.ref 6, .int x1, .int x2, .int x3, .int x4, .long x5, ev_unk]) (st' := [.ref 6, .ref 11]) [.aload_n 0] (by decide +kernel) rfl <|
    Ev.getf f_Sp_28 (by decide +kernel) (hat_ne (hat_ne (hat_ne (hat_ne a1 (by decide)) (by decide)) (by decide)) (by decide)) rfl <|
    Ev.go (pc' := 61) (ls' := [.ref 6, .int x1, .int x2, .int x3, .int x4, .long x5, ev_unk]) (st' := [.long x5, .int f_size_1, .ref 11]) [.lload 5] (by decide +kernel) rfl <|
    Ev.last (j := j3) (by decide +kernel) (hat_ne (hat_ne (hat_ne (hat_ne a7 (by decide)) (by decide)) (by decide)) (by decide)) (i3 c1) <| show Ev G d _ _ M_Sp_put 62 [.ref 6, .int x1, .int x2, .int x3, .int x4, .long x5, ev_unk] [] (hset (hset (hset (hset (hset h 7 (aI 300 (upd g2 j3 x1))) 8 (aI 300 (upd g4 j3 x2))) 9 (aI 300 (upd g5 j3 x3))) 10 (aI 300 (upd g6 j3 x4))) 11 (aL 300 (vp_updL g7 j3 x5))) R from
    Ev.go (pc' := 64) (ls' := [.ref 6, .int x1, .int x2, .int x3, .int x4, .long x5, ev_unk]) (st' := [.ref 6, .ref 6]) [.aload_n 0, .dup] (by decide +kernel) rfl <|
    Ev.getf f_Sp_28 (by decide +kernel) (hat_ne (hat_ne (hat_ne (hat_ne (hat_ne a1 (by decide)) (by decide)) (by decide)) (by decide)) (by decide)) rfl <|
    Ev.go (pc' := 69) (ls' := [.ref 6, .int x1, .int x2, .int x3, .int x4, .long x5, ev_unk]) (st' := [.int (f_size_1 + (1 : Int32)), .ref 6]) [.iconst 1, .iadd] (by decide +kernel) rfl <|
    Ev.putf f_Sp_28 (by decide +kernel) (hat_ne (hat_ne (hat_ne (hat_ne (hat_ne a1 (by decide)) (by decide)) (by decide)) (by decide)) (by decide)) (Nat.le_of_ble_eq_true rfl) rfl (fun q => nomatch q) <| show Ev G d _ _ M_Sp_put 72 [.ref 6, .int x1, .int x2, .int x3, .int x4, .long x5, ev_unk] [] (hset (hset (hset (hset (hset (hset h 7 (aI 300 (upd g2 j3 x1))) 8 (aI 300 (upd g4 j3 x2))) 9 (aI 300 (upd g5 j3 x3))) 10 (aI 300 (upd g6 j3 x4))) 11 (aL 300 (vp_updL g7 j3 x5))) 6 (oC 5 [.ref 7, .ref 8, .ref 9, .ref 10, .ref 11, .int (f_size_1 + (1 : Int32))])) R from
    Ev.ret (r := none) (Or.inr (Or.inr (Or.inl ⟨rfl, by decide +kernel, rfl⟩))) (k1 c1)
  ) (fun c1 =>
    Ev.ret (r := none) (Or.inr (Or.inr (Or.inl ⟨rfl, by decide +kernel, rfl⟩))) (k2 c1)
  )
theorem b_Hi_keep_0 {G : ev_G} {d k n : Nat} {h : ev_H} {R : Option Value → ev_H → Prop} {x1 : Nat} {f_first_1 : Int32} {f_kept_2 : Int32} {f_marked_3 : Int32} {g4 : Nat → Option Nat} {j5 : Nat} {b6 : Nat}
  (a1 : hat h 18 (oC 2 [.ref 19, .ref 20, .int f_first_1, .int f_kept_2, .int f_marked_3]))
  (a2 : hat h 19 (aS 12 g4))
  (i3 : ev_ix ((f_first_1 + f_kept_2) - (f_first_1 + f_kept_2) / (12 : Int32) * (12 : Int32)) j5 12)
  (gg4 : g4 j5 = some b6)
  (r5 : ∃ fs, hat h b6 (oC 6 fs))
  (k1 : Ev G d 0 0 M_St_become 0 [.ref b6, .ref x1] [] h (fun r h1 => Ev G (d + 1) k n M_Hi_keep 21 [.ref 18, .ref x1] (r.toList ++ []) h1 R))
  : Ev G (d + 1) k n M_Hi_keep 0 [.ref 18, .ref x1] [] h R :=
  Ev.go (pc' := 1) (ls' := [.ref 18, .ref x1]) (st' := [.ref 18]) [.aload_n 0] (by decide +kernel) rfl <|
  Ev.getf f_Hi_11 (by decide +kernel) a1 rfl <|
  Ev.go (pc' := 5) (ls' := [.ref 18, .ref x1]) (st' := [.ref 18, .ref 19]) [.aload_n 0] (by decide +kernel) rfl <|
  Ev.getf f_Hi_20 (by decide +kernel) a1 rfl <|
  Ev.go (pc' := 9) (ls' := [.ref 18, .ref x1]) (st' := [.ref 18, .int f_first_1, .ref 19]) [.aload_n 0] (by decide +kernel) rfl <|
  Ev.getf f_Hi_24 (by decide +kernel) a1 rfl <|
  Ev.go (pc' := 15) (ls' := [.ref 18, .ref x1]) (st' := [.int (12 : Int32), .int (f_first_1 + f_kept_2), .ref 19]) [.iadd, .bipush (12)] (by decide +kernel) rfl <|
  Ev.irem (by decide +kernel) (by decide) <|
  Ev.sald (j := j5) (by decide +kernel) a2 i3 gg4 <|
  Ev.go (pc' := 18) (ls' := [.ref 18, .ref x1]) (st' := [.ref x1, .ref b6]) [.aload_n 1] (by decide +kernel) rfl <|
  Ev.cV0 (M' := M_St_become) (as := [.ref x1]) (rest := []) l_Hi_31 M_St_become_ok M_St_become_in M_St_become_se (by decide +kernel) r5 rfl rfl rfl (Nat.le_of_ble_eq_true rfl) (Nat.le_of_ble_eq_true rfl) k1
theorem b_Hi_keep_21 {G : ev_G} {d k n : Nat} {h : ev_H} {R : Option Value → ev_H → Prop} {x1 : Nat} {f_first_1 : Int32} {f_kept_2 : Int32} {f_marked_3 : Int32}
  (a1 : hat h 18 (oC 2 [.ref 19, .ref 20, .int f_first_1, .int f_kept_2, .int f_marked_3]))
  (k1 : f_kept_2 < (12 : Int32) → R none (hset h 18 (oC 2 [.ref 19, .ref 20, .int f_first_1, .int (f_kept_2 + (1 : Int32)), .int f_marked_3])))
  (k2 : ¬ f_kept_2 < (12 : Int32) → R none (hset h 18 (oC 2 [.ref 19, .ref 20, .int ((f_first_1 + (1 : Int32)) - (f_first_1 + (1 : Int32)) / (12 : Int32) * (12 : Int32)), .int f_kept_2, .int f_marked_3])))
  : Ev G (d + 1) k n M_Hi_keep 21 [.ref 18, .ref x1] [] h R :=
  Ev.go (pc' := 22) (ls' := [.ref 18, .ref x1]) (st' := [.ref 18]) [.aload_n 0] (by decide +kernel) rfl <|
  Ev.getf f_Hi_24 (by decide +kernel) a1 rfl <|
  Ev.go (pc' := 27) (ls' := [.ref 18, .ref x1]) (st' := [.int (12 : Int32), .int f_kept_2]) [.bipush (12)] (by decide +kernel) rfl <|
  Ev.br (i := .if_icmp .ge (16)) (P := f_kept_2 < (12 : Int32)) (t := 30) (f := 43) (r := []) (by decide +kernel) rfl (fun c1 =>
    Ev.go (pc' := 32) (ls' := [.ref 18, .ref x1]) (st' := [.ref 18, .ref 18]) [.aload_n 0, .dup] (by decide +kernel) rfl <|
    Ev.getf f_Hi_24 (by decide +kernel) a1 rfl <|
    Ev.go (pc' := 37) (ls' := [.ref 18, .ref x1]) (st' := [.int (f_kept_2 + (1 : Int32)), .ref 18]) [.iconst 1, .iadd] (by decide +kernel) rfl <|
    Ev.putf f_Hi_24 (by decide +kernel) a1 (Nat.le_of_ble_eq_true rfl) rfl (fun q => nomatch q) <| show Ev G (d + 1) _ _ M_Hi_keep 40 [.ref 18, .ref x1] [] (hset h 18 (oC 2 [.ref 19, .ref 20, .int f_first_1, .int (f_kept_2 + (1 : Int32)), .int f_marked_3])) R from
    Ev.go (pc' := 56) (ls' := [.ref 18, .ref x1]) (st' := []) [.goto (16)] (by decide +kernel) rfl <|
    Ev.ret (r := none) (Or.inr (Or.inr (Or.inl ⟨rfl, by decide +kernel, rfl⟩))) (k1 c1)
  ) (fun c1 =>
    Ev.go (pc' := 45) (ls' := [.ref 18, .ref x1]) (st' := [.ref 18, .ref 18]) [.aload_n 0, .aload_n 0] (by decide +kernel) rfl <|
    Ev.getf f_Hi_20 (by decide +kernel) a1 rfl <|
    Ev.go (pc' := 52) (ls' := [.ref 18, .ref x1]) (st' := [.int (12 : Int32), .int (f_first_1 + (1 : Int32)), .ref 18]) [.iconst 1, .iadd, .bipush (12)] (by decide +kernel) rfl <|
    Ev.irem (by decide +kernel) (by decide) <|
    Ev.putf f_Hi_20 (by decide +kernel) a1 (Nat.le_of_ble_eq_true rfl) rfl (fun q => nomatch q) <| show Ev G (d + 1) _ _ M_Hi_keep 56 [.ref 18, .ref x1] [] (hset h 18 (oC 2 [.ref 19, .ref 20, .int ((f_first_1 + (1 : Int32)) - (f_first_1 + (1 : Int32)) / (12 : Int32) * (12 : Int32)), .int f_kept_2, .int f_marked_3])) R from
    Ev.ret (r := none) (Or.inr (Or.inr (Or.inl ⟨rfl, by decide +kernel, rfl⟩))) (k2 c1)
  )
theorem b_Hi_takeBackAct_0 {G : ev_G} {d k n : Nat} {h : ev_H} {R : Option Value → ev_H → Prop} {x1 : Nat} {f_first_1 : Int32} {f_kept_2 : Int32} {f_marked_3 : Int32} {g4 : Nat → Option Nat} {j5 : Nat} {b6 : Nat}
  (a1 : hat h 18 (oC 2 [.ref 19, .ref 20, .int f_first_1, .int f_kept_2, .int f_marked_3]))
  (a2 : hat h 19 (aS 12 g4))
  (i3 : (0 : Int32) < f_kept_2 → ev_ix ((f_first_1 + (f_kept_2 - (1 : Int32))) - (f_first_1 + (f_kept_2 - (1 : Int32))) / (12 : Int32) * (12 : Int32)) j5 12)
  (gg4 : (0 : Int32) < f_kept_2 → g4 j5 = some b6)
  (r5 : (0 : Int32) < f_kept_2 → ∃ fs, hat (hset h 18 (oC 2 [.ref 19, .ref 20, .int f_first_1, .int (f_kept_2 - (1 : Int32)), .int f_marked_3])) x1 (oC 6 fs))
  (k1 : (0 : Int32) < f_kept_2 → Ev G d 0 0 M_St_become 0 [.ref x1, .ref b6] [] (hset h 18 (oC 2 [.ref 19, .ref 20, .int f_first_1, .int (f_kept_2 - (1 : Int32)), .int f_marked_3])) (fun r h1 => Ev G (d + 1) k n M_Hi_takeBackAct 38 [.ref 18, .ref x1] (r.toList ++ []) h1 R))
  (k2 : ¬ (0 : Int32) < f_kept_2 → Ev G (d + 1) k n M_Hi_takeBackAct 38 [.ref 18, .ref x1] [] h R)
  : Ev G (d + 1) k n M_Hi_takeBackAct 0 [.ref 18, .ref x1] [] h R :=
  Ev.go (pc' := 1) (ls' := [.ref 18, .ref x1]) (st' := [.ref 18]) [.aload_n 0] (by decide +kernel) rfl <|
  Ev.getf f_Hi_24 (by decide +kernel) a1 rfl <|
  Ev.br (i := .ifCond .le (34)) (P := (0 : Int32) < f_kept_2) (t := 7) (f := 38) (r := []) (by decide +kernel) rfl (fun c1 =>
    Ev.go (pc' := 9) (ls' := [.ref 18, .ref x1]) (st' := [.ref 18, .ref 18]) [.aload_n 0, .dup] (by decide +kernel) rfl <|
    Ev.getf f_Hi_24 (by decide +kernel) a1 rfl <|
    Ev.go (pc' := 14) (ls' := [.ref 18, .ref x1]) (st' := [.int (f_kept_2 - (1 : Int32)), .ref 18]) [.iconst 1, .isub] (by decide +kernel) rfl <|
    Ev.putf f_Hi_24 (by decide +kernel) a1 (Nat.le_of_ble_eq_true rfl) rfl (fun q => nomatch q) <| show Ev G (d + 1) _ _ M_Hi_takeBackAct 17 [.ref 18, .ref x1] [] (hset h 18 (oC 2 [.ref 19, .ref 20, .int f_first_1, .int (f_kept_2 - (1 : Int32)), .int f_marked_3])) R from
    Ev.go (pc' := 19) (ls' := [.ref 18, .ref x1]) (st' := [.ref 18, .ref x1]) [.aload_n 1, .aload_n 0] (by decide +kernel) rfl <|
    Ev.getf f_Hi_11 (by decide +kernel) (hat_set a1) rfl <|
    Ev.go (pc' := 23) (ls' := [.ref 18, .ref x1]) (st' := [.ref 18, .ref 19, .ref x1]) [.aload_n 0] (by decide +kernel) rfl <|
    Ev.getf f_Hi_20 (by decide +kernel) (hat_set a1) rfl <|
    Ev.go (pc' := 27) (ls' := [.ref 18, .ref x1]) (st' := [.ref 18, .int f_first_1, .ref 19, .ref x1]) [.aload_n 0] (by decide +kernel) rfl <|
    Ev.getf f_Hi_24 (by decide +kernel) (hat_set a1) rfl <|
    Ev.go (pc' := 33) (ls' := [.ref 18, .ref x1]) (st' := [.int (12 : Int32), .int (f_first_1 + (f_kept_2 - (1 : Int32))), .ref 19, .ref x1]) [.iadd, .bipush (12)] (by decide +kernel) rfl <|
    Ev.irem (by decide +kernel) (by decide) <|
    Ev.sald (j := j5) (by decide +kernel) (hat_ne a2 (by decide)) (i3 c1) (gg4 c1) <|
    Ev.cV0 (M' := M_St_become) (as := [.ref b6]) (rest := []) l_Hi_31 M_St_become_ok M_St_become_in M_St_become_se (by decide +kernel) (r5 c1) rfl rfl rfl (Nat.le_of_ble_eq_true rfl) (Nat.le_of_ble_eq_true rfl) (k1 c1)
  ) (fun c1 =>
    (k2 c1)
  )
theorem b_Hi_takeBackAct_38 {G : ev_G} {d k n : Nat} {h : ev_H} {R : Option Value → ev_H → Prop} {x1 : Nat}
  (k1 : R none h)
  : Ev G (d + 1) k n M_Hi_takeBackAct 38 [.ref 18, .ref x1] [] h R :=
  Ev.ret (r := none) (Or.inr (Or.inr (Or.inl ⟨rfl, by decide +kernel, rfl⟩))) k1
theorem b_Hi_putMark_0 {G : ev_G} {d k n : Nat} {h : ev_H} {R : Option Value → ev_H → Prop} {x1 : Nat} {f_first_1 : Int32} {f_kept_2 : Int32} {f_marked_3 : Int32} {g4 : Nat → Option Nat} {j5 : Nat} {b6 : Nat}
  (a1 : hat h 18 (oC 2 [.ref 19, .ref 20, .int f_first_1, .int f_kept_2, .int f_marked_3]))
  (a2 : hat h 20 (aS 3 g4))
  (i3 : f_marked_3 < (3 : Int32) → ev_ix f_marked_3 j5 3)
  (gg4 : f_marked_3 < (3 : Int32) → g4 j5 = some b6)
  (r5 : f_marked_3 < (3 : Int32) → ∃ fs, hat h b6 (oC 6 fs))
  (k1 : f_marked_3 < (3 : Int32) → Ev G d 0 0 M_St_become 0 [.ref b6, .ref x1] [] h (fun r h1 => Ev G (d + 1) k n M_Hi_putMark 21 [.ref 18, .ref x1] (r.toList ++ []) h1 R))
  (k2 : ¬ f_marked_3 < (3 : Int32) → R none h)
  : Ev G (d + 1) k n M_Hi_putMark 0 [.ref 18, .ref x1] [] h R :=
  Ev.go (pc' := 1) (ls' := [.ref 18, .ref x1]) (st' := [.ref 18]) [.aload_n 0] (by decide +kernel) rfl <|
  Ev.getf f_Hi_27 (by decide +kernel) a1 rfl <|
  Ev.go (pc' := 5) (ls' := [.ref 18, .ref x1]) (st' := [.int (3 : Int32), .int f_marked_3]) [.iconst 3] (by decide +kernel) rfl <|
  Ev.br (i := .if_icmp .ge (26)) (P := f_marked_3 < (3 : Int32)) (t := 8) (f := 31) (r := []) (by decide +kernel) rfl (fun c1 =>
    Ev.go (pc' := 9) (ls' := [.ref 18, .ref x1]) (st' := [.ref 18]) [.aload_n 0] (by decide +kernel) rfl <|
    Ev.getf f_Hi_17 (by decide +kernel) a1 rfl <|
    Ev.go (pc' := 13) (ls' := [.ref 18, .ref x1]) (st' := [.ref 18, .ref 20]) [.aload_n 0] (by decide +kernel) rfl <|
    Ev.getf f_Hi_27 (by decide +kernel) a1 rfl <|
    Ev.sald (j := j5) (by decide +kernel) a2 (i3 c1) (gg4 c1) <|
    Ev.go (pc' := 18) (ls' := [.ref 18, .ref x1]) (st' := [.ref x1, .ref b6]) [.aload_n 1] (by decide +kernel) rfl <|
    Ev.cV0 (M' := M_St_become) (as := [.ref x1]) (rest := []) l_Hi_31 M_St_become_ok M_St_become_in M_St_become_se (by decide +kernel) (r5 c1) rfl rfl rfl (Nat.le_of_ble_eq_true rfl) (Nat.le_of_ble_eq_true rfl) (k1 c1)
  ) (fun c1 =>
    Ev.ret (r := none) (Or.inr (Or.inr (Or.inl ⟨rfl, by decide +kernel, rfl⟩))) (k2 c1)
  )
theorem b_Hi_putMark_21 {G : ev_G} {d k n : Nat} {h : ev_H} {R : Option Value → ev_H → Prop} {x1 : Nat} {f_first_1 : Int32} {f_kept_2 : Int32} {f_marked_3 : Int32}
  (a1 : hat h 18 (oC 2 [.ref 19, .ref 20, .int f_first_1, .int f_kept_2, .int f_marked_3]))
  (k1 : R none (hset h 18 (oC 2 [.ref 19, .ref 20, .int f_first_1, .int f_kept_2, .int (f_marked_3 + (1 : Int32))])))
  : Ev G (d + 1) k n M_Hi_putMark 21 [.ref 18, .ref x1] [] h R :=
  Ev.go (pc' := 23) (ls' := [.ref 18, .ref x1]) (st' := [.ref 18, .ref 18]) [.aload_n 0, .dup] (by decide +kernel) rfl <|
  Ev.getf f_Hi_27 (by decide +kernel) a1 rfl <|
  Ev.go (pc' := 28) (ls' := [.ref 18, .ref x1]) (st' := [.int (f_marked_3 + (1 : Int32)), .ref 18]) [.iconst 1, .iadd] (by decide +kernel) rfl <|
  Ev.putf f_Hi_27 (by decide +kernel) a1 (Nat.le_of_ble_eq_true rfl) rfl (fun q => nomatch q) <| show Ev G (d + 1) _ _ M_Hi_putMark 31 [.ref 18, .ref x1] [] (hset h 18 (oC 2 [.ref 19, .ref 20, .int f_first_1, .int f_kept_2, .int (f_marked_3 + (1 : Int32))])) R from
  Ev.ret (r := none) (Or.inr (Or.inr (Or.inl ⟨rfl, by decide +kernel, rfl⟩))) k1
theorem b_Hi_takeBackMark_0 {G : ev_G} {d k n : Nat} {h : ev_H} {R : Option Value → ev_H → Prop} {x1 : Nat} {f_first_1 : Int32} {f_kept_2 : Int32} {f_marked_3 : Int32} {g4 : Nat → Option Nat} {j5 : Nat} {b6 : Nat}
  (a1 : hat h 18 (oC 2 [.ref 19, .ref 20, .int f_first_1, .int f_kept_2, .int f_marked_3]))
  (a2 : hat h 20 (aS 3 g4))
  (i3 : (0 : Int32) < f_marked_3 → ev_ix (f_marked_3 - (1 : Int32)) j5 3)
  (gg4 : (0 : Int32) < f_marked_3 → g4 j5 = some b6)
  (r5 : (0 : Int32) < f_marked_3 → ∃ fs, hat (hset h 18 (oC 2 [.ref 19, .ref 20, .int f_first_1, .int f_kept_2, .int (f_marked_3 - (1 : Int32))])) x1 (oC 6 fs))
  (k1 : (0 : Int32) < f_marked_3 → Ev G d 0 0 M_St_become 0 [.ref x1, .ref b6] [] (hset h 18 (oC 2 [.ref 19, .ref 20, .int f_first_1, .int f_kept_2, .int (f_marked_3 - (1 : Int32))])) (fun r h1 => Ev G (d + 1) k n M_Hi_takeBackMark 30 [.ref 18, .ref x1] (r.toList ++ []) h1 R))
  (k2 : ¬ (0 : Int32) < f_marked_3 → R none h)
  : Ev G (d + 1) k n M_Hi_takeBackMark 0 [.ref 18, .ref x1] [] h R :=
  Ev.go (pc' := 1) (ls' := [.ref 18, .ref x1]) (st' := [.ref 18]) [.aload_n 0] (by decide +kernel) rfl <|
  Ev.getf f_Hi_27 (by decide +kernel) a1 rfl <|
  Ev.br (i := .ifCond .le (31)) (P := (0 : Int32) < f_marked_3) (t := 7) (f := 35) (r := []) (by decide +kernel) rfl (fun c1 =>
    Ev.go (pc' := 9) (ls' := [.ref 18, .ref x1]) (st' := [.ref 18, .ref 18]) [.aload_n 0, .dup] (by decide +kernel) rfl <|
    Ev.getf f_Hi_27 (by decide +kernel) a1 rfl <|
    Ev.go (pc' := 14) (ls' := [.ref 18, .ref x1]) (st' := [.int (f_marked_3 - (1 : Int32)), .ref 18]) [.iconst 1, .isub] (by decide +kernel) rfl <|
    Ev.putf f_Hi_27 (by decide +kernel) a1 (Nat.le_of_ble_eq_true rfl) rfl (fun q => nomatch q) <| show Ev G (d + 1) _ _ M_Hi_takeBackMark 17 [.ref 18, .ref x1] [] (hset h 18 (oC 2 [.ref 19, .ref 20, .int f_first_1, .int f_kept_2, .int (f_marked_3 - (1 : Int32))])) R from
    Ev.go (pc' := 19) (ls' := [.ref 18, .ref x1]) (st' := [.ref 18, .ref x1]) [.aload_n 1, .aload_n 0] (by decide +kernel) rfl <|
    Ev.getf f_Hi_17 (by decide +kernel) (hat_set a1) rfl <|
    Ev.go (pc' := 23) (ls' := [.ref 18, .ref x1]) (st' := [.ref 18, .ref 20, .ref x1]) [.aload_n 0] (by decide +kernel) rfl <|
    Ev.getf f_Hi_27 (by decide +kernel) (hat_set a1) rfl <|
    Ev.sald (j := j5) (by decide +kernel) (hat_ne a2 (by decide)) (i3 c1) (gg4 c1) <|
    Ev.cV0 (M' := M_St_become) (as := [.ref b6]) (rest := []) l_Hi_31 M_St_become_ok M_St_become_in M_St_become_se (by decide +kernel) (r5 c1) rfl rfl rfl (Nat.le_of_ble_eq_true rfl) (Nat.le_of_ble_eq_true rfl) (k1 c1)
  ) (fun c1 =>
    Ev.ret (r := none) (Or.inr (Or.inr (Or.inl ⟨rfl, by decide +kernel, rfl⟩))) (k2 c1)
  )
theorem b_Hi_takeBackMark_30 {G : ev_G} {d k n : Nat} {h : ev_H} {R : Option Value → ev_H → Prop} {x1 : Nat} {f_first_1 : Int32} {f_kept_2 : Int32} {f_marked_3 : Int32}
  (a1 : hat h 18 (oC 2 [.ref 19, .ref 20, .int f_first_1, .int f_kept_2, .int f_marked_3]))
  (k1 : R none (hset h 18 (oC 2 [.ref 19, .ref 20, .int f_first_1, .int (0 : Int32), .int f_marked_3])))
  : Ev G (d + 1) k n M_Hi_takeBackMark 30 [.ref 18, .ref x1] [] h R :=
  Ev.go (pc' := 32) (ls' := [.ref 18, .ref x1]) (st' := [.int (0 : Int32), .ref 18]) [.aload_n 0, .iconst 0] (by decide +kernel) rfl <|
  Ev.putf f_Hi_24 (by decide +kernel) a1 (Nat.le_of_ble_eq_true rfl) rfl (fun q => nomatch q) <| show Ev G (d + 1) _ _ M_Hi_takeBackMark 35 [.ref 18, .ref x1] [] (hset h 18 (oC 2 [.ref 19, .ref 20, .int f_first_1, .int (0 : Int32), .int f_marked_3])) R from
  Ev.ret (r := none) (Or.inr (Or.inr (Or.inl ⟨rfl, by decide +kernel, rfl⟩))) k1
def TaR (h : ev_H) (n : Nat) (g : Nat → Int32) : Prop := hat h 12 (oC 7 [.ref 13, .int (nI n)]) ∧ hat h 13 (aB 900 g)
def byN (x : Int32) (s : Int32) : Int32 := vp_nar .byte (x >>> (s &&& 31)).toInt8.toInt32
def tp4 (g : Nat → Int32) (n : Nat) (x : Int32) : Nat → Int32 := upd (upd (upd (upd g n (byN x 24)) (n + 1) (byN x 16)) (n + 2) (byN x 8)) (n + 3) (byN x 0)
def SpR (h : ev_H) (fl : List AStp) : Prop := ∃ (ks ss ps bs : Nat → Int32) (frs : Nat → Int64), hat h 6 (oC 5 [.ref 7, .ref 8, .ref 9, .ref 10, .ref 11, .int (nI fl.length)]) ∧ hat h 7 (aI 300 ks) ∧ hat h 8 (aI 300 ss) ∧ hat h 9 (aI 300 ps) ∧ hat h 10 (aI 300 bs) ∧ hat h 11 (aL 300 frs) ∧ ∀ i s, fl[i]? = some s → ks i = nI s.1 ∧ ss i = nI s.2.1 ∧ ps i = nI s.2.2.1 ∧ bs i = nI s.2.2.2.1 ∧ frs i = s.2.2.2.2
theorem nI_mul (a b : Nat) : nI a * nI b = nI (a * b) := (Int32.ofNat_mul a b).symm
theorem nI_rem {a b : Nat} (ha : a < 2147483648) (hb : b < 2147483648) : nI a - nI a / nI b * nI b = nI (a % b) := by
  rw [nI_div ha hb, nI_mul, nI_sub (Nat.div_mul_le_self a b), Nat.mod_eq_sub_div_mul]
section S17
variable {G : ev_G} {d : Nat} {h : ev_H} {R : Option Value → ev_H → Prop} {S : AS}
theorem s_Ta_put {n : Nat} {g : Nat → Int32} {x : Int32} (hT : TaR h n g) (hn : n + 4 ≤ 900) (hR : ∀ h', Kp h h' 12 14 → TaR h' (n + 4) (tp4 g n x) → R none h') : Ev G d 0 0 M_Ta_put 0 [.ref 12, .int x, ev_unk] [] h R := by
  have L : ∀ (s s' : Int32) (m : Nat) (h1 : ev_H) (g1 : Nat → Int32), ¬ s < 0 → s + (-8) = s' → m < 900 → TaR h1 m g1 → Kp h h1 12 14 → (∀ h2, Kp h h2 12 14 → TaR h2 (m + 1) (upd g1 m (byN x s)) → Ev G d 0 0 M_Ta_put 3 [.ref 12, .int x, .int s'] [] h2 R) → Ev G d 0 0 M_Ta_put 3 [.ref 12, .int x, .int s] [] h1 R := by
    intro s s' m h1 g1 hs e hm T K hK
    refine b_Ta_put_3 (j3 := m) T.1 T.2 (fun _ _ => ixn hm (by decide)) (fun q => absurd q hs) (fun _ _ => ?_) (fun _ q => absurd (nI_lt hm (by decide)) q)
    rw [e, nI_1]
    refine hK _ ((K.set _ (by omega) (by omega)).set _ (by omega) (by omega)) ⟨?_, ?_⟩
    · exact ⟨T.1.1, hset_eq _ _ _⟩
    · exact hat_ne ⟨T.2.1, hset_eq _ _ _⟩ (by omega)
  refine b_Ta_put_0 (L 24 16 n h g (by decide) (by decide) (by omega) hT (Kp.refl _ _ _) fun h1 K1 T1 => ?_)
  refine L 16 8 (n + 1) h1 _ (by decide) (by decide) (by omega) T1 K1 fun h2 K2 T2 => ?_
  refine L 8 0 (n + 2) h2 _ (by decide) (by decide) (by omega) T2 K2 fun h3 K3 T3 => ?_
  refine L 0 (-8) (n + 3) h3 _ (by decide) (by decide) (by omega) T3 K3 fun h4 K4 T4 => ?_
  exact b_Ta_put_3 (j3 := 0) T4.1 T4.2 (fun q => absurd (by decide) q) (fun _ => hR h4 K4 T4) (fun q => absurd (by decide) q) (fun q => absurd (by decide) q)
theorem s_Sp_put {fl : List AStp} {k s p b : Int32} {fr : Int64} {st : AStp} (hS : SpR h fl) (hl : fl.length < 300) (hk : k = nI st.1 ∧ s = nI st.2.1 ∧ p = nI st.2.2.1 ∧ b = nI st.2.2.2.1 ∧ fr = st.2.2.2.2) (hR : ∀ h', Kp h h' 6 12 → SpR h' (fl ++ [st]) → R none h') : Ev G d 0 0 M_Sp_put 0 [.ref 6, .int k, .int s, .int p, .int b, .long fr, ev_unk] [] h R := by
  obtain ⟨ks, ss, ps, bs, frs, f0, f1, f2, f3, f4, f5, hst⟩ := hS
  refine b_Sp_put_0 (j3 := fl.length) f0 f1 f2 f3 f4 f5 (fun _ => ixn hl (by decide)) (fun _ => ?_) (fun q => absurd (nI_lt hl (by decide)) q)
  have hR2 : ∀ h', Kp h h' 6 12 → (Kp h h' 6 12 → SpR h' (fl ++ [st])) → R none h' := fun h' K st => hR h' K (st K)
  refine hR2 _ (((((((Kp.refl h 6 12).set _ ?_ ?_).set _ ?_ ?_).set _ ?_ ?_).set _ ?_ ?_).set _ ?_ ?_).set _ ?_ ?_) (fun K => ?_)
  all_goals try omega
  rw [nI_1]
  refine ⟨_, _, _, _, _, ?_, hat_ne (hat_ne (hat_ne (hat_ne (hat_ne ⟨f1.1, hset_eq _ _ _⟩ (by omega)) (by omega)) (by omega)) (by omega)) (by omega), hat_ne (hat_ne (hat_ne (hat_ne ⟨f2.1, hset_eq _ _ _⟩ (by omega)) (by omega)) (by omega)) (by omega), hat_ne (hat_ne (hat_ne ⟨f3.1, hset_eq _ _ _⟩ (by omega)) (by omega)) (by omega), hat_ne (hat_ne ⟨f4.1, hset_eq _ _ _⟩ (by omega)) (by omega), hat_ne ⟨f5.1, hset_eq _ _ _⟩ (by omega), fun i s hi => ?_⟩
  · refine ⟨f0.1, ?_⟩
    rw [hset_eq]; simp
  · by_cases e : i = fl.length
    · subst e
      rw [List.getElem?_append_right (Nat.le_refl _), Nat.sub_self] at hi
      have hi : st = s := by simpa using hi
      subst hi
      simp only [upd, vp_updL, if_true]; exact hk
    · have hl2 : i < (fl ++ [st]).length := (List.getElem?_eq_some_iff.mp hi).1
      rw [List.length_append] at hl2
      have hl2 : i < fl.length := by simp at hl2; omega
      rw [List.getElem?_append_left hl2] at hi
      simp only [upd, vp_updL, if_neg e]; exact hst i s hi
end S17
theorem b_Sp_join_0 {G : ev_G} {d k n : Nat} {h : ev_H} {R : Option Value → ev_H → Prop} {x1 : Int32}
  (r1 : ∃ fs, hat h 6 (oC 5 fs))
  (k1 : Ev G d 0 0 M_Sp_put 0 [.ref 6, .int x1, .int (0 : Int32), .int (0 : Int32), .int (0 : Int32), .long (0 : Int64), ev_unk] [] h (fun r h1 => Ev G (d + 1) k n M_Sp_join 9 [.ref 6, .int x1] (r.toList ++ []) h1 R))
  : Ev G (d + 1) k n M_Sp_join 0 [.ref 6, .int x1] [] h R :=
  Ev.go (pc' := 6) (ls' := [.ref 6, .int x1]) (st' := [.long (0 : Int64), .int (0 : Int32), .int (0 : Int32), .int (0 : Int32), .int x1, .ref 6]) [.aload_n 0, .iload_n 1, .iconst 0, .iconst 0, .iconst 0, .lconst 0] (by decide +kernel) rfl <|
  Ev.cV0 (M' := M_Sp_put) (as := [.int x1, .int (0 : Int32), .int (0 : Int32), .int (0 : Int32), .long (0 : Int64)]) (rest := []) l_Sp_32 M_Sp_put_ok M_Sp_put_in M_Sp_put_se (by decide +kernel) r1 rfl rfl rfl (Nat.le_of_ble_eq_true rfl) (Nat.le_of_ble_eq_true rfl) k1
theorem b_Sp_join_9 {G : ev_G} {d k n : Nat} {h : ev_H} {R : Option Value → ev_H → Prop} {x1 : Int32}
  (k1 : R none h)
  : Ev G (d + 1) k n M_Sp_join 9 [.ref 6, .int x1] [] h R :=
  Ev.ret (r := none) (Or.inr (Or.inr (Or.inl ⟨rfl, by decide +kernel, rfl⟩))) k1
section S17
variable {G : ev_G} {d : Nat} {h : ev_H} {R : Option Value → ev_H → Prop} {S : AS}
theorem s_Sp_join {fl : List AStp} {k : Int32} {q : Nat} (hS : SpR h fl) (hl : fl.length < 300) (hk : k = nI q) (hR : ∀ h', Kp h h' 6 12 → SpR h' (fl ++ [(q, 0, 0, 0, 0)]) → R none h') : Ev G (d + 1) 0 0 M_Sp_join 0 [.ref 6, .int k] [] h R := by
  have hS0 := hS
  obtain ⟨ks, ss, ps, bs, frs, f0, -⟩ := hS
  refine b_Sp_join_0 ⟨_, f0⟩ (s_Sp_put hS0 hl (st := (q, 0, 0, 0, 0)) ⟨hk, rfl, rfl, rfl, rfl⟩ fun h' K st => ?_)
  exact b_Sp_join_9 (hR h' K st)
/-- the kept stores (acts, the oldest first) and the marks -/
def HiR (h : ev_H) (kept : Nat) (A : Nat → AS) (marked : Nat) (B : Nat → AS) : Prop := ∃ (first : Nat) (ga gm : Nat → Option Nat), first < 12 ∧ kept ≤ 12 ∧ marked ≤ 3 ∧ hat h 18 (oC 2 [.ref 19, .ref 20, .int (nI first), .int (nI kept), .int (nI marked)]) ∧ hat h 19 (aS 12 ga) ∧ hat h 20 (aS 3 gm) ∧ (∀ i, i < 12 → ga i = some (21 + 4 * i) ∧ ∃ T, StR h (21 + 4 * i) T) ∧ (∀ i, i < 3 → gm i = some (69 + 4 * i) ∧ ∃ T, StR h (69 + 4 * i) T) ∧ (∀ i, i < kept → StR h (21 + 4 * ((first + i) % 12)) (A i)) ∧ ∀ i, i < marked → StR h (69 + 4 * i) (B i)
theorem StR.obj {a : Nat} (H : StR h a S) : ∃ fs, hat h a (oC 6 fs) := by
  obtain ⟨brf, tgf, cof, fv, t1, -⟩ := H
  exact ⟨_, t1⟩
theorem HiR.kg {h1 : ev_H} {kept marked lo hi : Nat} {A B : Nat → AS} (H : HiR h kept A marked B) (a : Kg h h1 lo hi) (q : hi ≤ 126) (q2 : hi ≤ 18 ∨ 81 ≤ lo) : HiR h1 kept A marked B := by
  obtain ⟨first, ga, gm, l1, l2, l3, c1, c2, c3, p1, p2, p3, p4⟩ := H
  refine ⟨first, ga, gm, l1, l2, l3, a.hat c1 (by omega), a.hat c2 (by omega), a.hat c3 (by omega), fun i hi' => ⟨(p1 i hi').1, ?_⟩, fun i hi' => ⟨(p2 i hi').1, ?_⟩, fun i hi' => (p3 i hi').kg a q (by have := Nat.mod_lt (first + i) (show 12 > 0 by decide); omega), fun i hi' => (p4 i hi').kg a q (by omega)⟩
  · obtain ⟨T, t⟩ := (p1 i hi').2; exact ⟨T, t.kg a q (by omega)⟩
  · obtain ⟨T, t⟩ := (p2 i hi').2; exact ⟨T, t.kg a q (by omega)⟩
def keepA (kept : Nat) (A : Nat → AS) (S : AS) : Nat → AS := fun i => if kept < 12 then (if i = kept then S else A i) else (if i = 11 then S else A (i + 1))
theorem s_Hi_keep {kept marked : Nat} {A B : Nat → AS} (H : HiR h kept A marked B) (hS : StR h 1 S) (ok : sOk S) (hR : ∀ h', Kp h h' 18 81 → HiR h' (min (kept + 1) 12) (keepA kept A S) marked B → R none h') : Ev G (d + 2) 0 0 M_Hi_keep 0 [.ref 18, .ref 1] [] h R := by
  obtain ⟨first, ga, gm, l1, l2, l3, c1, c2, c3, p1, p2, p3, p4⟩ := H
  have hm := Nat.mod_lt (first + kept) (show 12 > 0 by decide)
  obtain ⟨g1, T, g2⟩ := p1 ((first + kept) % 12) hm
  refine b_Hi_keep_0 c1 c2 (by rw [nI_add, show (12 : Int32) = nI 12 from rfl, nI_rem (by omega) (by decide)]; exact ixn hm (by decide)) g1 g2.obj ?_
  refine s_St_become g2 hS ok (by omega) (by omega) fun h1 K1 st1 => ?_
  have c1' := K1.hat c1 (by omega)
  have c2' := K1.hat c2 (by omega)
  have c3' := K1.hat c3 (by omega)
  have oth : ∀ i, i < 12 → i ≠ (first + kept) % 12 → ∀ T, StR h (21 + 4 * i) T → StR h1 (21 + 4 * i) T := fun i hi ne T t => t.kp K1 (by omega) (by omega)
  have p1' : ∀ i, i < 12 → ga i = some (21 + 4 * i) ∧ ∃ T, StR h1 (21 + 4 * i) T := fun i hi => ⟨(p1 i hi).1, by
    by_cases e : i = (first + kept) % 12
    · subst e; exact ⟨_, st1⟩
    · obtain ⟨T, t⟩ := (p1 i hi).2; exact ⟨T, oth i hi e T t⟩⟩
  have p2' : ∀ i, i < 3 → gm i = some (69 + 4 * i) ∧ ∃ T, StR h1 (69 + 4 * i) T := fun i hi => ⟨(p2 i hi).1, by
    obtain ⟨T, t⟩ := (p2 i hi).2; exact ⟨T, t.kp K1 (by omega) (by omega)⟩⟩
  have p4' : ∀ i, i < marked → StR h1 (69 + 4 * i) (B i) := fun i hi => (p4 i hi).kp K1 (by omega) (by omega)
  have KK := K1.wide (lo' := 18) (hi' := 81) (by omega) (by omega)
  refine b_Hi_keep_21 c1' (fun q => ?_) (fun q => ?_)
  · have q : kept < 12 := (nI_ltI (by omega) (by decide)).mp q
    rw [nI_1]
    have K2 := (Kp.refl h1 18 19).set (k := 18) (oC 2 [.ref 19, .ref 20, .int (nI first), .int (nI (kept + 1)), .int (nI marked)]) (by omega) (by omega)
    refine hR _ (KK.trans (K2.wide (by omega) (by omega))) ⟨first, ga, gm, l1, by omega, l3, ⟨c1'.1, ?_⟩, K2.hat c2' (by omega), K2.hat c3' (by omega), fun i hi => ⟨(p1' i hi).1, ?_⟩, fun i hi => ⟨(p2' i hi).1, ?_⟩, fun i hi => ?_, fun i hi => (p4' i hi).kp K2 (by omega) (by omega)⟩
    · rw [hset_eq, Nat.min_eq_left (by omega)]
    · obtain ⟨T, t⟩ := (p1' i hi).2; exact ⟨T, t.kp K2 (by omega) (by omega)⟩
    · obtain ⟨T, t⟩ := (p2' i hi).2; exact ⟨T, t.kp K2 (by omega) (by omega)⟩
    · refine StR.kp ?_ K2 (by omega) (by omega)
      rw [Nat.min_eq_left (by omega)] at hi
      unfold keepA; rw [if_pos q]
      by_cases e : i = kept
      · rw [if_pos e, e]; exact st1
      · rw [if_neg e]; exact oth _ (Nat.mod_lt _ (by decide)) (by omega) _ (p3 i (by omega))
  · have q : ¬ kept < 12 := fun z => q (nI_lt z (by decide))
    have q : kept = 12 := by omega
    subst q
    have er : (nI first + 1) - (nI first + 1) / (12 : Int32) * (12 : Int32) = nI ((first + 1) % 12) := by rw [nI_1]; exact nI_rem (b := 12) (by omega) (by decide)
    rw [er]
    have K2 := (Kp.refl h1 18 19).set (k := 18) (oC 2 [.ref 19, .ref 20, .int (nI ((first + 1) % 12)), .int (nI 12), .int (nI marked)]) (by omega) (by omega)
    refine hR _ (KK.trans (K2.wide (by omega) (by omega))) ⟨(first + 1) % 12, ga, gm, Nat.mod_lt _ (by decide), by omega, l3, ⟨c1'.1, ?_⟩, K2.hat c2' (by omega), K2.hat c3' (by omega), fun i hi => ⟨(p1' i hi).1, ?_⟩, fun i hi => ⟨(p2' i hi).1, ?_⟩, fun i hi => ?_, fun i hi => (p4' i hi).kp K2 (by omega) (by omega)⟩
    · rw [hset_eq]; rfl
    · obtain ⟨T, t⟩ := (p1' i hi).2; exact ⟨T, t.kp K2 (by omega) (by omega)⟩
    · obtain ⟨T, t⟩ := (p2' i hi).2; exact ⟨T, t.kp K2 (by omega) (by omega)⟩
    · refine StR.kp ?_ K2 (by omega) (by omega)
      have hi : i < 12 := hi
      unfold keepA; rw [if_neg (by omega)]
      by_cases e : i = 11
      · rw [if_pos e, show ((first + 1) % 12 + i) % 12 = (first + 12) % 12 by omega]; exact st1
      · rw [if_neg e, show ((first + 1) % 12 + i) % 12 = (first + (i + 1)) % 12 by omega]
        exact oth _ (Nat.mod_lt _ (by decide)) (by omega) _ (p3 (i + 1) (by omega))
theorem s_Hi_takeBackAct {kept marked : Nat} {A B : Nat → AS} (H : HiR h (kept + 1) A marked B) (hS : StR h 1 S) (ok : sOk (A kept)) (hR : ∀ h1 h', Kp h h1 18 19 → Kp h1 h' 1 5 → HiR h' kept A marked B → StR h' 1 (A kept) → R none h') : Ev G (d + 2) 0 0 M_Hi_takeBackAct 0 [.ref 18, .ref 1] [] h R := by
  obtain ⟨first, ga, gm, l1, l2, l3, c1, c2, c3, p1, p2, p3, p4⟩ := H
  have hm := Nat.mod_lt (first + kept) (show 12 > 0 by decide)
  obtain ⟨g1, T, g2⟩ := p1 ((first + kept) % 12) hm
  have ek : nI (kept + 1) - 1 = nI kept := nI_pred kept
  have K1 := (Kp.refl h 18 19).set (k := 18) (oC 2 [.ref 19, .ref 20, .int (nI first), .int (nI (kept + 1) - 1), .int (nI marked)]) (by omega) (by omega)
  have pos : (0 : Int32) < nI (kept + 1) := nI_lt (a := 0) (by omega) (by omega)
  refine b_Hi_takeBackAct_0 c1 c2 (fun _ => by rw [ek, nI_add, show (12 : Int32) = nI 12 from rfl, nI_rem (by omega) (by decide)]; exact ixn hm (by decide)) (fun _ => g1) (fun _ => (hS.kp K1 (by omega) (by omega)).obj) (fun _ => ?_) (fun q => absurd pos q)
  refine s_St_become (hS.kp K1 (by omega) (by omega)) ((p3 kept (by omega)).kp K1 (by omega) (by omega)) ok (by omega) (by omega) fun h2 K2 st2 => ?_
  refine b_Hi_takeBackAct_38 (hR _ h2 K1 K2 ⟨first, ga, gm, l1, by omega, l3, ?_, K2.hat (K1.hat c2 (by omega)) (by omega), K2.hat (K1.hat c3 (by omega)) (by omega), fun i hi => ⟨(p1 i hi).1, ?_⟩, fun i hi => ⟨(p2 i hi).1, ?_⟩, fun i hi => ?_, fun i hi => ?_⟩ st2)
  · refine K2.hat ⟨c1.1, ?_⟩ (by omega)
    rw [hset_eq, ek]
  · obtain ⟨T, t⟩ := (p1 i hi).2; exact ⟨T, (t.kp K1 (by omega) (by omega)).kp K2 (by omega) (by omega)⟩
  · obtain ⟨T, t⟩ := (p2 i hi).2; exact ⟨T, (t.kp K1 (by omega) (by omega)).kp K2 (by omega) (by omega)⟩
  · exact ((p3 i (by omega)).kp K1 (by omega) (by omega)).kp K2 (by omega) (by omega)
  · exact ((p4 i hi).kp K1 (by omega) (by omega)).kp K2 (by omega) (by omega)
theorem s_Hi_putMark {kept marked : Nat} {A B : Nat → AS} (H : HiR h kept A marked B) (hm : marked < 3) (hS : StR h 1 S) (ok : sOk S) (hR : ∀ h', Kp h h' 18 81 → HiR h' kept A (marked + 1) (fun i => if i = marked then S else B i) → R none h') : Ev G (d + 2) 0 0 M_Hi_putMark 0 [.ref 18, .ref 1] [] h R := by
  obtain ⟨first, ga, gm, l1, l2, l3, c1, c2, c3, p1, p2, p3, p4⟩ := H
  obtain ⟨g1, T, g2⟩ := p2 marked hm
  have hmod := fun i => Nat.mod_lt (first + i) (show 12 > 0 by decide)
  refine b_Hi_putMark_0 c1 c3 (fun _ => ixn hm (by decide)) (fun _ => g1) (fun _ => g2.obj) (fun _ => ?_) (fun q => absurd (nI_lt hm (by decide)) q)
  refine s_St_become g2 hS ok (by omega) (by omega) fun h1 K1 st1 => ?_
  have K2 := (Kp.refl h1 18 19).set (k := 18) (oC 2 [.ref 19, .ref 20, .int (nI first), .int (nI kept), .int (nI marked + 1)]) (by omega) (by omega)
  refine b_Hi_putMark_21 (K1.hat c1 (by omega)) (hR _ ((K1.wide (by omega) (by omega)).trans (K2.wide (by omega) (by omega))) ⟨first, ga, gm, l1, l2, by omega, ?_, K2.hat (K1.hat c2 (by omega)) (by omega), K2.hat (K1.hat c3 (by omega)) (by omega), fun i hi => ⟨(p1 i hi).1, ?_⟩, fun i hi => ⟨(p2 i hi).1, ?_⟩, fun i hi => ?_, fun i hi => ?_⟩)
  · exact ⟨(K1.hat c1 (by omega)).1, by rw [hset_eq, nI_1]⟩
  · obtain ⟨T, t⟩ := (p1 i hi).2; exact ⟨T, (t.kp K1 (by omega) (by omega)).kp K2 (by omega) (by omega)⟩
  · by_cases e : i = marked
    · subst e; exact ⟨_, st1.kp K2 (by omega) (by omega)⟩
    · obtain ⟨T, t⟩ := (p2 i hi).2; exact ⟨T, (t.kp K1 (by omega) (by omega)).kp K2 (by omega) (by omega)⟩
  · exact ((p3 i hi).kp K1 (by omega) (by have := hmod i; omega)).kp K2 (by omega) (by omega)
  · show StR _ _ (if i = marked then S else B i)
    by_cases e : i = marked
    · subst e; rw [if_pos rfl]; exact st1.kp K2 (by omega) (by omega)
    · rw [if_neg e]; exact ((p4 i (by omega)).kp K1 (by omega) (by omega)).kp K2 (by omega) (by omega)
theorem s_Hi_takeBackMark {kept marked : Nat} {A B : Nat → AS} (H : HiR h kept A (marked + 1) B) (hS : StR h 1 S) (ok : sOk (B marked)) (hR : ∀ h1 h2 h', Kp h h1 18 19 → Kp h1 h2 1 5 → Kp h2 h' 18 19 → HiR h' 0 A marked B → StR h' 1 (B marked) → R none h') : Ev G (d + 2) 0 0 M_Hi_takeBackMark 0 [.ref 18, .ref 1] [] h R := by
  obtain ⟨first, ga, gm, l1, l2, l3, c1, c2, c3, p1, p2, p3, p4⟩ := H
  obtain ⟨g1, T, g2⟩ := p2 marked (by omega)
  have ek : nI (marked + 1) - 1 = nI marked := nI_pred marked
  have K1 := (Kp.refl h 18 19).set (k := 18) (oC 2 [.ref 19, .ref 20, .int (nI first), .int (nI kept), .int (nI (marked + 1) - 1)]) (by omega) (by omega)
  have pos : (0 : Int32) < nI (marked + 1) := nI_lt (a := 0) (by omega) (by omega)
  refine b_Hi_takeBackMark_0 c1 c3 (fun _ => by rw [ek]; exact ixn (by omega) (by decide)) (fun _ => g1) (fun _ => (hS.kp K1 (by omega) (by omega)).obj) (fun _ => ?_) (fun q => absurd pos q)
  refine s_St_become (hS.kp K1 (by omega) (by omega)) ((p4 marked (by omega)).kp K1 (by omega) (by omega)) ok (by omega) (by omega) fun h2 K2 st2 => ?_
  have c1' : hat h2 18 (oC 2 [.ref 19, .ref 20, .int (nI first), .int (nI kept), .int (nI (marked + 1) - 1)]) := K2.hat ⟨c1.1, hset_eq _ _ _⟩ (by omega)
  have K3 := (Kp.refl h2 18 19).set (k := 18) (oC 2 [.ref 19, .ref 20, .int (nI first), .int 0, .int (nI (marked + 1) - 1)]) (by omega) (by omega)
  refine b_Hi_takeBackMark_30 c1' (hR _ h2 _ K1 K2 K3 ⟨first, ga, gm, l1, by omega, by omega, ?_, K3.hat (K2.hat (K1.hat c2 (by omega)) (by omega)) (by omega), K3.hat (K2.hat (K1.hat c3 (by omega)) (by omega)) (by omega), fun i hi => ⟨(p1 i hi).1, ?_⟩, fun i hi => ⟨(p2 i hi).1, ?_⟩, fun i hi => absurd hi (Nat.not_lt_zero i), fun i hi => ?_⟩ (st2.kp K3 (by omega) (by omega)))
  · exact ⟨c1'.1, by rw [hset_eq, ek]; rfl⟩
  · obtain ⟨T, t⟩ := (p1 i hi).2; exact ⟨T, ((t.kp K1 (by omega) (by omega)).kp K2 (by omega) (by omega)).kp K3 (by omega) (by omega)⟩
  · obtain ⟨T, t⟩ := (p2 i hi).2; exact ⟨T, ((t.kp K1 (by omega) (by omega)).kp K2 (by omega) (by omega)).kp K3 (by omega) (by omega)⟩
  · exact (((p4 i (by omega)).kp K1 (by omega) (by omega)).kp K2 (by omega) (by omega)).kp K3 (by omega) (by omega)
end S17
end
section
/-! FILTERS are made -/
theorem hat_at {h h' : ev_H} {a : Nat} {c : ev_C} (e : h.1 = a) (H : hat h' h.1 c) : hat h' a c := e ▸ H
theorem b_JA_copyOf_AII_0 {G : ev_G} {d k n : Nat} {h : ev_H} {R : Option Value → ev_H → Prop} {x0 : Nat} {x1 : Int32} {g1 : Nat → Int32} {nn2 : Nat} {N3 : Nat} {q4 : Nat}
  (a1 : hat h x0 (aI 300 g1))
  (d2 : ¬ (x1 = (nI 300)))
  (n3 : ¬ x1 = (nI 300) → h.1 = nn2)
  (n4 : ¬ x1 = (nI 300) → x1 = nI N3)
  (n5 : ¬ x1 = (nI 300) → N3 < 100000)
  (n6 : nn2 < ev_big)
  (n7 : ¬ x1 = (nI 300) → (if x1 < (nI 300) then x1 else (nI 300)) = nI q4)
  (n8 : ¬ x1 = (nI 300) → 0 + q4 ≤ 300)
  (n9 : ¬ x1 = (nI 300) → 0 + q4 ≤ N3)
  (n10 : ¬ x1 = (nI 300) → N3 < 2147483648)
  (e11 : ¬ x1 = (nI 300) → x0 ≠ nn2)
  (k1 : ¬ x1 = (nI 300) → R (some (.ref nn2)) (hset (hpush h (aI N3 (fun _ => 0))) nn2 (aI N3 (va_cpy g1 (fun _ => 0) 0 0 q4))))
  : Ev G (d + 1) (k + 1) (n + N3) M_JA_copyOf_AII 0 [.ref x0, .int x1, ev_unk] [] h R :=
  Ev.go (pc' := 2) (ls' := [.ref x0, .int x1, ev_unk]) (st' := [.ref x0, .int x1]) [.iload_n 1, .aload_n 0] (by decide +kernel) rfl <|
  Ev.alen (by decide +kernel) a1 (by decide) <|
  Ev.br (i := .if_icmp .ne (11)) (P := x1 = (nI 300)) (t := 6) (f := 14) (r := []) (by decide +kernel) rfl (fun c1 =>
    absurd c1 d2
  ) (fun c1 =>
    Ev.go (pc' := 15) (ls' := [.ref x0, .int x1, ev_unk]) (st' := [.int x1]) [.iload_n 1] (by decide +kernel) rfl <|
    Ev.newI' (a := nn2) (N := N3) (by decide +kernel) a_int (n3 c1) n6 (n4 c1) (n5 c1) <|
    Ev.go (pc' := 23) (ls' := [.ref x0, .int x1, .ref nn2]) (st' := [.ref x0, .int (0 : Int32), .ref nn2, .int (0 : Int32), .ref x0]) [.astore_n 2, .aload_n 0, .iconst 0, .aload_n 2, .iconst 0, .aload_n 0] (by decide +kernel) rfl <|
    Ev.alen (by decide +kernel) (hat_push a1) (by decide) <|
    Ev.go (pc' := 25) (ls' := [.ref x0, .int x1, .ref nn2]) (st' := [.int x1, .int (nI 300), .int (0 : Int32), .ref nn2, .int (0 : Int32), .ref x0]) [.iload_n 1] (by decide +kernel) rfl <|
    Ev.mmin lL_JA_304 w_minS w_mathI w_minC (Nat.le_of_ble_eq_true rfl) (by decide +kernel) <|
    Ev.acpyI (sp := 0) (dp := 0) (cn := q4) lL_JA_150 w_cpN w_cpS w_sysI (by decide +kernel) (hat_push a1) (hat_at (n3 c1) (hat_pushed h _)) rfl rfl (n7 c1) (n8 c1) (n9 c1) (by decide) (n10 c1) (Nat.le_of_ble_eq_true rfl) <| show Ev G (d + 1) _ _ M_JA_copyOf_AII 31 [.ref x0, .int x1, .ref nn2] [] (hset (hpush h (aI N3 (fun _ => 0))) nn2 (aI N3 (va_cpy g1 (fun _ => 0) 0 0 q4))) R from
    Ev.go (pc' := 32) (ls' := [.ref x0, .int x1, .ref nn2]) (st' := [.ref nn2]) [.aload_n 2] (by decide +kernel) rfl <|
    Ev.ret (r := (some (.ref nn2))) (Or.inr (Or.inr (Or.inr ⟨_, rfl, by decide +kernel, _, rfl, Or.inr ⟨_, rfl⟩⟩))) (k1 c1)
  )
theorem b_JA_copyOf_AJI_0 {G : ev_G} {d k n : Nat} {h : ev_H} {R : Option Value → ev_H → Prop} {x0 : Nat} {x1 : Int32} {g1 : Nat → Int64} {nn2 : Nat} {N3 : Nat} {q4 : Nat}
  (a1 : hat h x0 (aL 300 g1))
  (d2 : ¬ (x1 = (nI 300)))
  (n3 : ¬ x1 = (nI 300) → h.1 = nn2)
  (n4 : ¬ x1 = (nI 300) → x1 = nI N3)
  (n5 : ¬ x1 = (nI 300) → N3 < 100000)
  (n6 : nn2 < ev_big)
  (n7 : ¬ x1 = (nI 300) → (if x1 < (nI 300) then x1 else (nI 300)) = nI q4)
  (n8 : ¬ x1 = (nI 300) → 0 + q4 ≤ 300)
  (n9 : ¬ x1 = (nI 300) → 0 + q4 ≤ N3)
  (n10 : ¬ x1 = (nI 300) → N3 < 2147483648)
  (e11 : ¬ x1 = (nI 300) → x0 ≠ nn2)
  (k1 : ¬ x1 = (nI 300) → R (some (.ref nn2)) (hset (hpush h (aL N3 (fun _ => 0))) nn2 (aL N3 (va_cpy g1 (fun _ => 0) 0 0 q4))))
  : Ev G (d + 1) (k + 1) (n + N3) M_JA_copyOf_AJI 0 [.ref x0, .int x1, ev_unk] [] h R :=
  Ev.go (pc' := 2) (ls' := [.ref x0, .int x1, ev_unk]) (st' := [.ref x0, .int x1]) [.iload_n 1, .aload_n 0] (by decide +kernel) rfl <|
  Ev.alen (by decide +kernel) a1 (by decide) <|
  Ev.br (i := .if_icmp .ne (11)) (P := x1 = (nI 300)) (t := 6) (f := 14) (r := []) (by decide +kernel) rfl (fun c1 =>
    absurd c1 d2
  ) (fun c1 =>
    Ev.go (pc' := 15) (ls' := [.ref x0, .int x1, ev_unk]) (st' := [.int x1]) [.iload_n 1] (by decide +kernel) rfl <|
    Ev.newL' (a := nn2) (N := N3) (by decide +kernel) a_long (n3 c1) n6 (n4 c1) (n5 c1) <|
    Ev.go (pc' := 23) (ls' := [.ref x0, .int x1, .ref nn2]) (st' := [.ref x0, .int (0 : Int32), .ref nn2, .int (0 : Int32), .ref x0]) [.astore_n 2, .aload_n 0, .iconst 0, .aload_n 2, .iconst 0, .aload_n 0] (by decide +kernel) rfl <|
    Ev.alen (by decide +kernel) (hat_push a1) (by decide) <|
    Ev.go (pc' := 25) (ls' := [.ref x0, .int x1, .ref nn2]) (st' := [.int x1, .int (nI 300), .int (0 : Int32), .ref nn2, .int (0 : Int32), .ref x0]) [.iload_n 1] (by decide +kernel) rfl <|
    Ev.mmin lL_JA_304 w_minS w_mathI w_minC (Nat.le_of_ble_eq_true rfl) (by decide +kernel) <|
    Ev.acpyL (sp := 0) (dp := 0) (cn := q4) lL_JA_150 w_cpN w_cpS w_sysI (by decide +kernel) (hat_push a1) (hat_at (n3 c1) (hat_pushed h _)) rfl rfl (n7 c1) (n8 c1) (n9 c1) (by decide) (n10 c1) (Nat.le_of_ble_eq_true rfl) <| show Ev G (d + 1) _ _ M_JA_copyOf_AJI 31 [.ref x0, .int x1, .ref nn2] [] (hset (hpush h (aL N3 (fun _ => 0))) nn2 (aL N3 (va_cpy g1 (fun _ => 0) 0 0 q4))) R from
    Ev.go (pc' := 32) (ls' := [.ref x0, .int x1, .ref nn2]) (st' := [.ref nn2]) [.aload_n 2] (by decide +kernel) rfl <|
    Ev.ret (r := (some (.ref nn2))) (Or.inr (Or.inr (Or.inr ⟨_, rfl, by decide +kernel, _, rfl, Or.inr ⟨_, rfl⟩⟩))) (k1 c1)
  )
theorem b_Fi_init_0 {G : ev_G} {d k n : Nat} {h : ev_H} {R : Option Value → ev_H → Prop} {x0 : Nat} {f_size_1 : Int32} {m2 : Nat}
  (a1 : hat h 6 (oC 5 [.ref 7, .ref 8, .ref 9, .ref 10, .ref 11, .int f_size_1]))
  (k1 : Ev G d 1 m2 M_JA_copyOf_AII 0 [.ref 7, .int f_size_1, ev_unk] [] h (fun r h1 => Ev G (d + 1) k n M_Fi_init 18 [.ref x0, .ref 6, .int f_size_1] (r.toList ++ [.ref x0]) h1 R))
  : Ev G (d + 1) (1 + k) (m2 + n) M_Fi_init 0 [.ref x0, .ref 6, ev_unk] [] h R :=
  Ev.go (pc' := 1) (ls' := [.ref x0, .ref 6, ev_unk]) (st' := [.ref x0]) [.aload_n 0] (by decide +kernel) rfl <|
  Ev.objI lL_Fi_1 w_objN w_objC (Nat.le_of_ble_eq_true rfl) (by decide +kernel) <|
  Ev.go (pc' := 5) (ls' := [.ref x0, .ref 6, ev_unk]) (st' := [.ref 6]) [.aload_n 1] (by decide +kernel) rfl <|
  Ev.getf f_Fi_7 (by decide +kernel) a1 rfl <|
  Ev.go (pc' := 11) (ls' := [.ref x0, .ref 6, .int f_size_1]) (st' := [.ref 6, .ref x0]) [.istore_n 2, .aload_n 0, .aload_n 1] (by decide +kernel) rfl <|
  Ev.getf f_Fi_13 (by decide +kernel) a1 rfl <|
  Ev.go (pc' := 15) (ls' := [.ref x0, .ref 6, .int f_size_1]) (st' := [.int f_size_1, .ref 7, .ref x0]) [.iload_n 2] (by decide +kernel) rfl <|
  Ev.cS (M' := M_JA_copyOf_AII) (as := [.ref 7, .int f_size_1]) (rest := [.ref x0]) l_Fi_17 M_JA_copyOf_AII_ok M_JA_copyOf_AII_st (by decide +kernel) rfl rfl (Nat.le_of_ble_eq_true rfl) (Nat.le_of_ble_eq_true rfl) k1
theorem b_Fi_init_18 {G : ev_G} {d k n : Nat} {h : ev_H} {R : Option Value → ev_H → Prop} {x0 : Nat} {x2 : Int32} {y0 : Nat} {y1 : Nat} {fv1 : Value} {fv2 : Value} {fv3 : Value} {fv4 : Value} {fv5 : Value} {f_size_6 : Int32} {m7 : Nat}
  (a1 : hat h y0 (oC 1 [fv1, fv2, fv3, fv4, fv5]))
  (a2 : hat h 6 (oC 5 [.ref 7, .ref 8, .ref 9, .ref 10, .ref 11, .int f_size_6]))
  (e3 : 6 ≠ y0)
  (k1 : Ev G d 1 m7 M_JA_copyOf_AII 0 [.ref 8, .int x2, ev_unk] [] (hset h y0 (oC 1 [.ref y1, fv2, fv3, fv4, fv5])) (fun r h1 => Ev G (d + 1) k n M_Fi_init 30 [.ref x0, .ref 6, .int x2] (r.toList ++ [.ref x0]) h1 R))
  : Ev G (d + 1) (1 + k) (m7 + n) M_Fi_init 18 [.ref x0, .ref 6, .int x2] [.ref y1, .ref y0] h R :=
  Ev.putf f_Fi_23 (by decide +kernel) a1 (Nat.le_of_ble_eq_true rfl) rfl (fun _ => ⟨rfl, _, rfl, rfl⟩) <| show Ev G (d + 1) _ _ M_Fi_init 21 [.ref x0, .ref 6, .int x2] [] (hset h y0 (oC 1 [.ref y1, fv2, fv3, fv4, fv5])) R from
  Ev.go (pc' := 23) (ls' := [.ref x0, .ref 6, .int x2]) (st' := [.ref 6, .ref x0]) [.aload_n 0, .aload_n 1] (by decide +kernel) rfl <|
  Ev.getf f_Fi_26 (by decide +kernel) (hat_ne a2 e3) rfl <|
  Ev.go (pc' := 27) (ls' := [.ref x0, .ref 6, .int x2]) (st' := [.int x2, .ref 8, .ref x0]) [.iload_n 2] (by decide +kernel) rfl <|
  Ev.cS (M' := M_JA_copyOf_AII) (as := [.ref 8, .int x2]) (rest := [.ref x0]) l_Fi_17 M_JA_copyOf_AII_ok M_JA_copyOf_AII_st (by decide +kernel) rfl rfl (Nat.le_of_ble_eq_true rfl) (Nat.le_of_ble_eq_true rfl) k1
theorem b_Fi_init_30 {G : ev_G} {d k n : Nat} {h : ev_H} {R : Option Value → ev_H → Prop} {x0 : Nat} {x2 : Int32} {y0 : Nat} {y1 : Nat} {fv1 : Value} {fv2 : Value} {fv3 : Value} {fv4 : Value} {fv5 : Value} {f_size_6 : Int32} {m7 : Nat}
  (a1 : hat h y0 (oC 1 [fv1, fv2, fv3, fv4, fv5]))
  (a2 : hat h 6 (oC 5 [.ref 7, .ref 8, .ref 9, .ref 10, .ref 11, .int f_size_6]))
  (e3 : 6 ≠ y0)
  (k1 : Ev G d 1 m7 M_JA_copyOf_AII 0 [.ref 9, .int x2, ev_unk] [] (hset h y0 (oC 1 [fv1, .ref y1, fv3, fv4, fv5])) (fun r h1 => Ev G (d + 1) k n M_Fi_init 42 [.ref x0, .ref 6, .int x2] (r.toList ++ [.ref x0]) h1 R))
  : Ev G (d + 1) (1 + k) (m7 + n) M_Fi_init 30 [.ref x0, .ref 6, .int x2] [.ref y1, .ref y0] h R :=
  Ev.putf f_Fi_29 (by decide +kernel) a1 (Nat.le_of_ble_eq_true rfl) rfl (fun _ => ⟨rfl, _, rfl, rfl⟩) <| show Ev G (d + 1) _ _ M_Fi_init 33 [.ref x0, .ref 6, .int x2] [] (hset h y0 (oC 1 [fv1, .ref y1, fv3, fv4, fv5])) R from
  Ev.go (pc' := 35) (ls' := [.ref x0, .ref 6, .int x2]) (st' := [.ref 6, .ref x0]) [.aload_n 0, .aload_n 1] (by decide +kernel) rfl <|
  Ev.getf f_Fi_30 (by decide +kernel) (hat_ne a2 e3) rfl <|
  Ev.go (pc' := 39) (ls' := [.ref x0, .ref 6, .int x2]) (st' := [.int x2, .ref 9, .ref x0]) [.iload_n 2] (by decide +kernel) rfl <|
  Ev.cS (M' := M_JA_copyOf_AII) (as := [.ref 9, .int x2]) (rest := [.ref x0]) l_Fi_17 M_JA_copyOf_AII_ok M_JA_copyOf_AII_st (by decide +kernel) rfl rfl (Nat.le_of_ble_eq_true rfl) (Nat.le_of_ble_eq_true rfl) k1
theorem b_Fi_init_42 {G : ev_G} {d k n : Nat} {h : ev_H} {R : Option Value → ev_H → Prop} {x0 : Nat} {x2 : Int32} {y0 : Nat} {y1 : Nat} {fv1 : Value} {fv2 : Value} {fv3 : Value} {fv4 : Value} {fv5 : Value} {f_size_6 : Int32} {m7 : Nat}
  (a1 : hat h y0 (oC 1 [fv1, fv2, fv3, fv4, fv5]))
  (a2 : hat h 6 (oC 5 [.ref 7, .ref 8, .ref 9, .ref 10, .ref 11, .int f_size_6]))
  (e3 : 6 ≠ y0)
  (k1 : Ev G d 1 m7 M_JA_copyOf_AII 0 [.ref 10, .int x2, ev_unk] [] (hset h y0 (oC 1 [fv1, fv2, .ref y1, fv4, fv5])) (fun r h1 => Ev G (d + 1) k n M_Fi_init 54 [.ref x0, .ref 6, .int x2] (r.toList ++ [.ref x0]) h1 R))
  : Ev G (d + 1) (1 + k) (m7 + n) M_Fi_init 42 [.ref x0, .ref 6, .int x2] [.ref y1, .ref y0] h R :=
  Ev.putf f_Fi_33 (by decide +kernel) a1 (Nat.le_of_ble_eq_true rfl) rfl (fun _ => ⟨rfl, _, rfl, rfl⟩) <| show Ev G (d + 1) _ _ M_Fi_init 45 [.ref x0, .ref 6, .int x2] [] (hset h y0 (oC 1 [fv1, fv2, .ref y1, fv4, fv5])) R from
  Ev.go (pc' := 47) (ls' := [.ref x0, .ref 6, .int x2]) (st' := [.ref 6, .ref x0]) [.aload_n 0, .aload_n 1] (by decide +kernel) rfl <|
  Ev.getf f_Fi_34 (by decide +kernel) (hat_ne a2 e3) rfl <|
  Ev.go (pc' := 51) (ls' := [.ref x0, .ref 6, .int x2]) (st' := [.int x2, .ref 10, .ref x0]) [.iload_n 2] (by decide +kernel) rfl <|
  Ev.cS (M' := M_JA_copyOf_AII) (as := [.ref 10, .int x2]) (rest := [.ref x0]) l_Fi_17 M_JA_copyOf_AII_ok M_JA_copyOf_AII_st (by decide +kernel) rfl rfl (Nat.le_of_ble_eq_true rfl) (Nat.le_of_ble_eq_true rfl) k1
theorem b_Fi_init_54 {G : ev_G} {d k n : Nat} {h : ev_H} {R : Option Value → ev_H → Prop} {x0 : Nat} {x2 : Int32} {y0 : Nat} {y1 : Nat} {fv1 : Value} {fv2 : Value} {fv3 : Value} {fv4 : Value} {fv5 : Value} {f_size_6 : Int32} {m7 : Nat}
  (a1 : hat h y0 (oC 1 [fv1, fv2, fv3, fv4, fv5]))
  (a2 : hat h 6 (oC 5 [.ref 7, .ref 8, .ref 9, .ref 10, .ref 11, .int f_size_6]))
  (e3 : 6 ≠ y0)
  (k1 : Ev G d 1 m7 M_JA_copyOf_AJI 0 [.ref 11, .int x2, ev_unk] [] (hset h y0 (oC 1 [fv1, fv2, fv3, .ref y1, fv5])) (fun r h1 => Ev G (d + 1) k n M_Fi_init 66 [.ref x0, .ref 6, .int x2] (r.toList ++ [.ref x0]) h1 R))
  : Ev G (d + 1) (1 + k) (m7 + n) M_Fi_init 54 [.ref x0, .ref 6, .int x2] [.ref y1, .ref y0] h R :=
  Ev.putf f_Fi_37 (by decide +kernel) a1 (Nat.le_of_ble_eq_true rfl) rfl (fun _ => ⟨rfl, _, rfl, rfl⟩) <| show Ev G (d + 1) _ _ M_Fi_init 57 [.ref x0, .ref 6, .int x2] [] (hset h y0 (oC 1 [fv1, fv2, fv3, .ref y1, fv5])) R from
  Ev.go (pc' := 59) (ls' := [.ref x0, .ref 6, .int x2]) (st' := [.ref 6, .ref x0]) [.aload_n 0, .aload_n 1] (by decide +kernel) rfl <|
  Ev.getf f_Fi_38 (by decide +kernel) (hat_ne a2 e3) rfl <|
  Ev.go (pc' := 63) (ls' := [.ref x0, .ref 6, .int x2]) (st' := [.int x2, .ref 11, .ref x0]) [.iload_n 2] (by decide +kernel) rfl <|
  Ev.cS (M' := M_JA_copyOf_AJI) (as := [.ref 11, .int x2]) (rest := [.ref x0]) l_Fi_42 M_JA_copyOf_AJI_ok M_JA_copyOf_AJI_st (by decide +kernel) rfl rfl (Nat.le_of_ble_eq_true rfl) (Nat.le_of_ble_eq_true rfl) k1
theorem b_Fi_init_66 {G : ev_G} {d k n : Nat} {h : ev_H} {R : Option Value → ev_H → Prop} {x0 : Nat} {x2 : Int32} {y0 : Nat} {y1 : Nat} {fv1 : Value} {fv2 : Value} {fv3 : Value} {fv4 : Value} {fv5 : Value}
  (a1 : hat h y0 (oC 1 [fv1, fv2, fv3, fv4, fv5]))
  (k1 : R none (hset h y0 (oC 1 [fv1, fv2, fv3, fv4, .ref y1])))
  : Ev G (d + 1) k n M_Fi_init 66 [.ref x0, .ref 6, .int x2] [.ref y1, .ref y0] h R :=
  Ev.putf f_Fi_45 (by decide +kernel) a1 (Nat.le_of_ble_eq_true rfl) rfl (fun _ => ⟨rfl, _, rfl, rfl⟩) <| show Ev G (d + 1) _ _ M_Fi_init 69 [.ref x0, .ref 6, .int x2] [] (hset h y0 (oC 1 [fv1, fv2, fv3, fv4, .ref y1])) R from
  Ev.ret (r := none) (Or.inr (Or.inr (Or.inl ⟨rfl, by decide +kernel, rfl⟩))) k1
section S18
variable {G : ev_G} {d : Nat} {h : ev_H} {R : Option Value → ev_H → Prop} {S : AS}
theorem hat.ne {b : Nat} {c : ev_C} (H : hat h b c) : b ≠ h.1 := Nat.ne_of_lt H.1
theorem s_copyI {x L : Nat} {g : Nat → Int32} {xI : Int32} (a1 : hat h x (aI 300 g)) (hx : xI = nI L) (hl : L < 300) (hb : h.1 < ev_big) (hR : ∀ h' g', Kg h h' h.1 h.1 → h'.1 = h.1 + 1 → hat h' h.1 (aI L g') → (∀ i, i < L → g' i = g i) → R (some (.ref h.1)) h') : Ev G (d + 1) 1 (0 + L) M_JA_copyOf_AII 0 [.ref x, .int xI, ev_unk] [] h R := by
  subst hx
  have hlt : nI L < nI 300 := nI_lt hl (by decide)
  refine b_JA_copyOf_AII_0 (q4 := L) (k := 0) (n := 0) (N3 := L) a1 (fun q => by have := (nI_eq (by omega) (by decide)).mp q; omega) (fun _ => rfl) (fun _ => rfl) (fun _ => by omega) hb (fun _ => if_pos hlt) (fun _ => by omega) (fun _ => by omega) (fun _ => by omega) (fun _ => a1.ne) (fun _ => ?_)
  refine hR _ _ ⟨Nat.le_succ _, fun b hb' _ => ?_⟩ rfl ⟨Nat.lt_succ_self _, hset_eq _ _ _⟩ fun i hi => ?_
  · rw [hset_ne _ _ (Nat.ne_of_lt hb'), hpush_ne _ _ (Nat.ne_of_lt hb')]
  · unfold va_cpy; rw [if_pos (by omega), Nat.zero_add, Nat.sub_zero]
theorem s_copyL {x L : Nat} {g : Nat → Int64} {xI : Int32} (a1 : hat h x (aL 300 g)) (hx : xI = nI L) (hl : L < 300) (hb : h.1 < ev_big) (hR : ∀ h' g', Kg h h' h.1 h.1 → h'.1 = h.1 + 1 → hat h' h.1 (aL L g') → (∀ i, i < L → g' i = g i) → R (some (.ref h.1)) h') : Ev G (d + 1) 1 (0 + L) M_JA_copyOf_AJI 0 [.ref x, .int xI, ev_unk] [] h R := by
  subst hx
  have hlt : nI L < nI 300 := nI_lt hl (by decide)
  refine b_JA_copyOf_AJI_0 (q4 := L) (k := 0) (n := 0) (N3 := L) a1 (fun q => by have := (nI_eq (by omega) (by decide)).mp q; omega) (fun _ => rfl) (fun _ => rfl) (fun _ => by omega) hb (fun _ => if_pos hlt) (fun _ => by omega) (fun _ => by omega) (fun _ => by omega) (fun _ => a1.ne) (fun _ => ?_)
  refine hR _ _ ⟨Nat.le_succ _, fun b hb' _ => ?_⟩ rfl ⟨Nat.lt_succ_self _, hset_eq _ _ _⟩ fun i hi => ?_
  · rw [hset_ne _ _ (Nat.ne_of_lt hb'), hpush_ne _ _ (Nat.ne_of_lt hb')]
  · unfold va_cpy; rw [if_pos (by omega), Nat.zero_add, Nat.sub_zero]
theorem fi_go {q h1 : ev_H} {f b : Nat} {c c' : ev_C} (K : Kg q h1 q.1 q.1) (H : hat q b c) (e : b ≠ f) : hat (hset h1 f c') b c := hat_ne (K.hat H (Or.inl H.1)) e
def fiN (L : Nat) : Nat := (0 + L) + ((0 + L) + ((0 + L) + ((0 + L) + ((0 + L) + 0))))
theorem Kg.any {q h1 : ev_H} {lo hi : Nat} (K : Kg q h1 q.1 q.1) : Kg q h1 lo hi := ⟨K.1, fun x hx _ => K.2 x hx (Or.inl hx)⟩
theorem s_Fi_init {f : Nat} {fl : List AStp} (hf : 126 ≤ f) (hn : h.1 = f + 1) (o : hat h f (oC 1 [.null, .null, .null, .null, .null])) (hS : SpR h fl) (hl : fl.length < 300) (hb : f + 6 ≤ ev_big) (hR : ∀ h', Kg h h' f (f + 1) → h'.1 = f + 6 → FiR h' f fl → R none h') : Ev G (d + 2) 5 (fiN fl.length) M_Fi_init 0 [.ref f, .ref 6, ev_unk] [] h R := by
  obtain ⟨ks, ss, ps, bs, frs, f0, f1, f2, f3, f4, f5, hst⟩ := hS
  show Ev G (d + 2) (1 + (1 + (1 + (1 + (1 + 0))))) ((0 + fl.length) + ((0 + fl.length) + ((0 + fl.length) + ((0 + fl.length) + ((0 + fl.length) + 0))))) M_Fi_init 0 [.ref f, .ref 6, ev_unk] [] h R
  refine b_Fi_init_0 f0 (s_copyI f1 rfl hl (by omega) fun h1 gk K1 n1 t1 v1 => ?_)
  have o1 : hat h1 f _ := K1.hat o (Or.inl o.1)
  refine b_Fi_init_18 (y0 := f) (y1 := h.1) o1 (K1.hat f0 (Or.inl f0.1)) (by omega) ?_
  have o1 : hat (hset h1 f (oC 1 [.ref h.1, .null, .null, .null, .null])) f (oC 1 [.ref (f + 1), .null, .null, .null, .null]) := ⟨o1.1, by rw [hset_eq, hn]⟩
  have W1 := ((Kg.any (lo := f) (hi := f + 1) K1).set (k := f) (oC 1 [.ref h.1, .null, .null, .null, .null]) (by omega) (by omega))
  have m1 : (hset h1 f (oC 1 [.ref h.1, .null, .null, .null, .null])).1 = f + 2 := by show h1.1 = _; omega
  have t1 : hat (hset h1 f (oC 1 [.ref h.1, .null, .null, .null, .null])) (f + 1) (aI fl.length gk) := by have := hat_ne (c' := oC 1 [.ref h.1, .null, .null, .null, .null]) (b := f) t1 (by omega); rw [hn] at this ⊢; exact this
  revert W1 m1 o1 t1
  generalize hset h1 f (oC 1 [.ref h.1, .null, .null, .null, .null]) = q1
  intro o1 W1 m1 t1
  refine s_copyI (W1.hat f2 (by omega)) rfl hl (by omega) fun h2 gs K2 n2 t2 v2 => ?_
  have o2 := K2.hat o1 (Or.inl o1.1)
  refine b_Fi_init_30 (y0 := f) (y1 := q1.1) o2 (K2.hat (W1.hat f0 (by omega)) (Or.inl (by omega))) (by omega) ?_
  have W2 := (W1.trans (Kg.any K2)).set (k := f) (oC 1 [.ref (f + 1), .ref q1.1, .null, .null, .null]) (by omega) (by omega)
  have o2 : hat (hset h2 f (oC 1 [.ref (f + 1), .ref q1.1, .null, .null, .null])) f (oC 1 [.ref (f + 1), .ref (f + 2), .null, .null, .null]) := ⟨o2.1, by rw [hset_eq, m1]⟩
  have m2 : (hset h2 f (oC 1 [.ref (f + 1), .ref q1.1, .null, .null, .null])).1 = f + 3 := by show h2.1 = _; omega
  have t1 := fi_go (f := f) (c' := oC 1 [.ref (f + 1), .ref q1.1, .null, .null, .null]) K2 t1 (by omega)
  have t2 : hat (hset h2 f (oC 1 [.ref (f + 1), .ref q1.1, .null, .null, .null])) (f + 2) (aI fl.length gs) := by have := hat_ne (c' := oC 1 [.ref (f + 1), .ref q1.1, .null, .null, .null]) (b := f) t2 (by omega); rw [m1] at this ⊢; exact this
  clear K1 K2 W1
  revert W2 m2 o2 t1 t2
  generalize hset h2 f (oC 1 [.ref (f + 1), .ref q1.1, .null, .null, .null]) = q2
  intro W2 o2 m2 t1 t2
  refine s_copyI (W2.hat f3 (by omega)) rfl hl (by omega) fun h3 gp K3 n3 t3 v3 => ?_
  have o3 := K3.hat o2 (Or.inl o2.1)
  refine b_Fi_init_42 (y0 := f) (y1 := q2.1) o3 (K3.hat (W2.hat f0 (by omega)) (Or.inl (by omega))) (by omega) ?_
  have W3 := (W2.trans (Kg.any K3)).set (k := f) (oC 1 [.ref (f + 1), .ref (f + 2), .ref q2.1, .null, .null]) (by omega) (by omega)
  have o3 : hat (hset h3 f (oC 1 [.ref (f + 1), .ref (f + 2), .ref q2.1, .null, .null])) f (oC 1 [.ref (f + 1), .ref (f + 2), .ref (f + 3), .null, .null]) := ⟨o3.1, by rw [hset_eq, m2]⟩
  have m3 : (hset h3 f (oC 1 [.ref (f + 1), .ref (f + 2), .ref q2.1, .null, .null])).1 = f + 4 := by show h3.1 = _; omega
  have t1 := fi_go (f := f) (c' := oC 1 [.ref (f + 1), .ref (f + 2), .ref q2.1, .null, .null]) K3 t1 (by omega)
  have t2 := fi_go (f := f) (c' := oC 1 [.ref (f + 1), .ref (f + 2), .ref q2.1, .null, .null]) K3 t2 (by omega)
  have t3 : hat (hset h3 f (oC 1 [.ref (f + 1), .ref (f + 2), .ref q2.1, .null, .null])) (f + 3) (aI fl.length gp) := by have := hat_ne (c' := oC 1 [.ref (f + 1), .ref (f + 2), .ref q2.1, .null, .null]) (b := f) t3 (by omega); rw [m2] at this ⊢; exact this
  clear K3 W2
  revert W3 m3 o3 t1 t2 t3
  generalize hset h3 f (oC 1 [.ref (f + 1), .ref (f + 2), .ref q2.1, .null, .null]) = q3
  intro W3 o3 m3 t1 t2 t3
  refine s_copyI (W3.hat f4 (by omega)) rfl hl (by omega) fun h4 gb K4 n4 t4 v4 => ?_
  have o4 := K4.hat o3 (Or.inl o3.1)
  refine b_Fi_init_54 (y0 := f) (y1 := q3.1) o4 (K4.hat (W3.hat f0 (by omega)) (Or.inl (by omega))) (by omega) ?_
  have W4 := (W3.trans (Kg.any K4)).set (k := f) (oC 1 [.ref (f + 1), .ref (f + 2), .ref (f + 3), .ref q3.1, .null]) (by omega) (by omega)
  have o4 : hat (hset h4 f (oC 1 [.ref (f + 1), .ref (f + 2), .ref (f + 3), .ref q3.1, .null])) f (oC 1 [.ref (f + 1), .ref (f + 2), .ref (f + 3), .ref (f + 4), .null]) := ⟨o4.1, by rw [hset_eq, m3]⟩
  have m4 : (hset h4 f (oC 1 [.ref (f + 1), .ref (f + 2), .ref (f + 3), .ref q3.1, .null])).1 = f + 5 := by show h4.1 = _; omega
  have t1 := fi_go (f := f) (c' := oC 1 [.ref (f + 1), .ref (f + 2), .ref (f + 3), .ref q3.1, .null]) K4 t1 (by omega)
  have t2 := fi_go (f := f) (c' := oC 1 [.ref (f + 1), .ref (f + 2), .ref (f + 3), .ref q3.1, .null]) K4 t2 (by omega)
  have t3 := fi_go (f := f) (c' := oC 1 [.ref (f + 1), .ref (f + 2), .ref (f + 3), .ref q3.1, .null]) K4 t3 (by omega)
  have t4 : hat (hset h4 f (oC 1 [.ref (f + 1), .ref (f + 2), .ref (f + 3), .ref q3.1, .null])) (f + 4) (aI fl.length gb) := by have := hat_ne (c' := oC 1 [.ref (f + 1), .ref (f + 2), .ref (f + 3), .ref q3.1, .null]) (b := f) t4 (by omega); rw [m3] at this ⊢; exact this
  clear K4 W3
  revert W4 m4 o4 t1 t2 t3 t4
  generalize hset h4 f (oC 1 [.ref (f + 1), .ref (f + 2), .ref (f + 3), .ref q3.1, .null]) = q4
  intro W4 o4 m4 t1 t2 t3 t4
  refine s_copyL (W4.hat f5 (by omega)) rfl hl (by omega) fun h5 gf K5 n5 t5 v5 => ?_
  have o5 := K5.hat o4 (Or.inl o4.1)
  refine b_Fi_init_66 (y0 := f) (y1 := q4.1) o5 (hR _ ((W4.trans (Kg.any K5)).set (k := f) _ (by omega) (by omega)) (by show h5.1 = _; omega) ⟨⟨o5.1, by rw [hset_eq, m4]⟩, gk, gs, gp, gb, gf, fi_go K5 t1 (by omega), fi_go K5 t2 (by omega), fi_go K5 t3 (by omega), fi_go K5 t4 (by omega), ?_, fun i s hi => ?_⟩)
  · have := hat_ne (c' := oC 1 [.ref (f + 1), .ref (f + 2), .ref (f + 3), .ref (f + 4), .ref q4.1]) (b := f) t5 (by omega); rw [m4] at this ⊢; exact this
  · have hl : i < fl.length := (List.getElem?_eq_some_iff.mp hi).1
    rw [v1 i hl, v2 i hl, v3 i hl, v4 i hl, v5 i hl]
    exact hst i s hi
end S18
end
section
/-! BUDGETS -/
theorem aI_inj {N M : Nat} {f g : Nat → Int32} (h : aI N f = aI M g) : f = g := by unfold aI at h; simp_all
def bst (f : Nat → Nat) : Nat → Nat
  | 0 => 0
  | n + 1 => if f (n + 1) < f (bst f n) then n + 1 else bst f n
theorem bst_le (f : Nat → Nat) : ∀ n, bst f n ≤ n
  | 0 => Nat.le_refl _
  | n + 1 => by
    have := bst_le f n
    show (if f (n + 1) < f (bst f n) then n + 1 else bst f n) ≤ n + 1
    split <;> omega
theorem bst_min (f : Nat → Nat) : ∀ n i, i ≤ n → f (bst f n) ≤ f i
  | 0, i, hi => by have : i = 0 := by omega
                   subst this; exact Nat.le_refl _
  | n + 1, i, hi => by
    have ih := bst_min f n
    show f (if f (n + 1) < f (bst f n) then n + 1 else bst f n) ≤ f i
    by_cases e : i = n + 1
    · subst e; split <;> omega
    · have := ih i (by omega)
      split <;> omega
/-- the least cost of the last t + 1 parts, with shares that are s together -/
def bL (c : Nat → Nat → Nat) (W : Nat → Nat) (last : Nat) : Nat → Nat → Nat
  | 0, s => if s ≤ W last + 1 then c last s else 1000000
  | t + 1, s => c (last - (t + 1)) (bst (fun sh => c (last - (t + 1)) sh + bL c W last t (s - sh)) (min s (W (last - (t + 1)) + 1))) + bL c W last t (s - bst (fun sh => c (last - (t + 1)) sh + bL c W last t (s - sh)) (min s (W (last - (t + 1)) + 1)))
def bLp (c : Nat → Nat → Nat) (W : Nat → Nat) (P i s : Nat) : Nat := bL c W (P - 1) (P - 1 - i) s
def bF (c : Nat → Nat → Nat) (W : Nat → Nat) (P i s sh : Nat) : Nat := c i sh + bLp c W P (i + 1) (s - sh)
def bSh (c : Nat → Nat → Nat) (W : Nat → Nat) (P i s : Nat) : Nat := bst (bF c W P i s) (min s (W i + 1))
theorem bLp_step {c : Nat → Nat → Nat} {W : Nat → Nat} {P i s : Nat} (h : i + 1 < P) : bLp c W P i s = bF c W P i s (bSh c W P i s) := by
  unfold bLp bSh bF
  have e : P - 1 - i = (P - 1 - (i + 1)) + 1 := by omega
  rw [e]
  show c (P - 1 - ((P - 1 - (i + 1)) + 1)) _ + _ = _
  have e2 : P - 1 - ((P - 1 - (i + 1)) + 1) = i := by omega
  rw [e2]; rfl
theorem bLp_last {c : Nat → Nat → Nat} {W : Nat → Nat} {P s : Nat} : bLp c W P (P - 1) s = if s ≤ W (P - 1) + 1 then c (P - 1) s else 1000000 := by
  unfold bLp; rw [Nat.sub_self]; rfl
def cOk (c : Nat → Nat → Nat) (P : Nat) : Prop := ∀ i, i < P → c i 0 = 0 ∧ ∀ s, c i s ≤ 32
theorem bLp_le {c : Nat → Nat → Nat} {W : Nat → Nat} {P : Nat} (hc : cOk c P) (hP : 0 < P) : ∀ t i s, i + t + 1 = P → bLp c W P i s ≤ 1000000
  | 0, i, s, e => by
    have : i = P - 1 := by omega
    subst this
    rw [bLp_last]; split
    · have := (hc (P - 1) (by omega)).2 s; omega
    · omega
  | t + 1, i, s, e => by
    rw [bLp_step (by omega)]
    have h1 := bst_min (bF c W P i s) (min s (W i + 1)) 0 (by omega)
    have h2 : bF c W P i s 0 = bLp c W P (i + 1) s := by unfold bF; rw [(hc i (by omega)).1]; simp
    have h3 := bLp_le (W := W) hc hP t (i + 1) s (by omega)
    unfold bSh; omega
theorem bF_le {c : Nat → Nat → Nat} {W : Nat → Nat} {P i s sh : Nat} (hc : cOk c P) (h : i + 1 < P) : bF c W P i s sh ≤ 1000032 := by
  have := (hc i (by omega)).2 sh
  have := bLp_le (W := W) hc (by omega) (P - 1 - (i + 1)) (i + 1) (s - sh) (by omega)
  unfold bF; omega
/-- how the shares are left over, part by part -/
def bLf (c : Nat → Nat → Nat) (W : Nat → Nat) (P r : Nat) : Nat → Nat
  | 0 => r + 1
  | i + 1 => bLf c W P r i - bSh c W P i (bLf c W P r i)
def bShr (c : Nat → Nat → Nat) (W : Nat → Nat) (P r i : Nat) : Nat := if i + 1 = P then bLf c W P r i else bSh c W P i (bLf c W P r i)
theorem bLf_le (c : Nat → Nat → Nat) (W : Nat → Nat) (P r : Nat) : ∀ i, bLf c W P r i ≤ r + 1
  | 0 => Nat.le_refl _
  | i + 1 => by
    have := bLf_le c W P r i
    show bLf c W P r i - _ ≤ _; omega
/-- the budgets' cells: costs are known of the parts below kc, least costs of the parts from lo on -/
def BuP (h : ev_H) (P : Nat) (W : Nat → Nat) (c : Nat → Nat → Nat) (kc r lo : Nat) : Prop := 1 ≤ P ∧ P ≤ 6 ∧ (∀ i, i < P → W i ≤ 24) ∧ hat h 81 (oC 0 [.ref 82, .int (nI P), .ref 83, .ref 90, .ref 97]) ∧ (∃ brf, hat h 82 (aI 6 brf) ∧ ∀ i, i < P → brf i = nI (W i)) ∧ hat h 83 (aG 6 (fun i => if i < 6 then some (83 + 1 + i) else none)) ∧ hat h 90 (aG 6 (fun i => if i < 6 then some (90 + 1 + i) else none)) ∧ (∀ i, i < 6 → ∃ g, hat h (83 + 1 + i) (aI 26 g) ∧ (i < kc → ∀ s, s ≤ W i + 1 → g s = nI (c i s))) ∧ (∀ i, i < 6 → ∃ g, hat h (90 + 1 + i) (aI 50 g) ∧ (lo ≤ i → i < P → ∀ s, s ≤ r + 1 → g s = nI (bLp c W P i s))) ∧ ∃ ch, hat h 97 (aI 6 ch)
theorem BuP.kg {h h1 : ev_H} {P : Nat} {W : Nat → Nat} {c : Nat → Nat → Nat} {kc r lo l1 h2 : Nat} (B : BuP h P W c kc r lo) (K : Kg h h1 l1 h2) (q : h2 ≤ 81 ∨ 98 ≤ l1) : BuP h1 P W c kc r lo := by
  obtain ⟨b1, b2, b3, b4, ⟨brf, b5, b5'⟩, b6, b7, b8, b9, ch, b10⟩ := B
  refine ⟨b1, b2, b3, K.hat b4 (by omega), ⟨brf, K.hat b5 (by omega), b5'⟩, K.hat b6 (by omega), K.hat b7 (by omega), fun i hi => ?_, fun i hi => ?_, ch, K.hat b10 (by omega)⟩
  · obtain ⟨g, t, v⟩ := b8 i hi; exact ⟨g, K.hat t (by omega), v⟩
  · obtain ⟨g, t, v⟩ := b9 i hi; exact ⟨g, K.hat t (by omega), v⟩
/-- nothing is known any more -/
theorem BuP.none {h : ev_H} {P : Nat} {W : Nat → Nat} {c c' : Nat → Nat → Nat} {kc r r' lo : Nat} (B : BuP h P W c kc r lo) : BuP h P W c' 0 r' P := by
  obtain ⟨b1, b2, b3, b4, b5, b6, b7, b8, b9, b10⟩ := B
  refine ⟨b1, b2, b3, b4, b5, b6, b7, fun i hi => ?_, fun i hi => ?_, b10⟩
  · obtain ⟨g, t, v⟩ := b8 i hi; exact ⟨g, t, fun q => absurd q (Nat.not_lt_zero i)⟩
  · obtain ⟨g, t, v⟩ := b9 i hi; exact ⟨g, t, fun q q2 => absurd q2 (by omega)⟩
theorem b_JA_fill_0 {G : ev_G} {d k n : Nat} {h : ev_H} {R : Option Value → ev_H → Prop} {x0 : Nat} {x1 : Int32} {N1 : Nat} {g2 : Nat → Int32}
  (a1 : hat h x0 (aI N1 g2))
  (k1 : Ev G d k n M_JA_fill 5 [.ref x0, .int x1, .int (0 : Int32), .int (nI N1)] [] h R)
  : Ev G d k n M_JA_fill 0 [.ref x0, .int x1, ev_unk, ev_unk] [] h R :=
  Ev.go (pc' := 3) (ls' := [.ref x0, .int x1, .int (0 : Int32), ev_unk]) (st' := [.ref x0]) [.iconst 0, .istore_n 2, .aload_n 0] (by decide +kernel) rfl <|
  Ev.alen (by decide +kernel) a1 (by decide) <|
  Ev.go (pc' := 5) (ls' := [.ref x0, .int x1, .int (0 : Int32), .int (nI N1)]) (st' := []) [.istore_n 3] (by decide +kernel) rfl <|
  k1
theorem b_JA_fill_5 {G : ev_G} {d k n : Nat} {h : ev_H} {R : Option Value → ev_H → Prop} {x0 : Nat} {x1 : Int32} {x2 : Int32} {x3 : Int32} {N1 : Nat} {g2 : Nat → Int32} {j3 : Nat}
  (a1 : hat h x0 (aI N1 g2))
  (i2 : x2 < x3 → ev_ix x2 j3 N1)
  (k1 : x2 < x3 → Ev G d k n M_JA_fill 5 [.ref x0, .int x1, .int (x2 + (1 : Int32)), .int x3] [] (hset h x0 (aI N1 (upd g2 j3 x1))) R)
  (k2 : ¬ x2 < x3 → R none h)
  : Ev G d k n M_JA_fill 5 [.ref x0, .int x1, .int x2, .int x3] [] h R :=
  Ev.go (pc' := 7) (ls' := [.ref x0, .int x1, .int x2, .int x3]) (st' := [.int x3, .int x2]) [.iload_n 2, .iload_n 3] (by decide +kernel) rfl <|
  Ev.br (i := .if_icmp .ge (13)) (P := x2 < x3) (t := 10) (f := 20) (r := []) (by decide +kernel) rfl (fun c1 =>
    Ev.go (pc' := 13) (ls' := [.ref x0, .int x1, .int x2, .int x3]) (st' := [.int x1, .int x2, .ref x0]) [.aload_n 0, .iload_n 2, .iload_n 1] (by decide +kernel) rfl <|
    Ev.iast (j := j3) (by decide +kernel) a1 (i2 c1) <| show Ev G d _ _ M_JA_fill 14 [.ref x0, .int x1, .int x2, .int x3] [] (hset h x0 (aI N1 (upd g2 j3 x1))) R from
    Ev.go (pc' := 5) (ls' := [.ref x0, .int x1, .int (x2 + (1 : Int32)), .int x3]) (st' := []) [.iinc 2 (1), .goto (-12)] (by decide +kernel) rfl <|
    (k1 c1)
  ) (fun c1 =>
    Ev.ret (r := none) (Or.inr (Or.inr (Or.inl ⟨rfl, by decide +kernel, rfl⟩))) (k2 c1)
  )
theorem b_Bu_costWith_0 {G : ev_G} {d k n : Nat} {h : ev_H} {R : Option Value → ev_H → Prop} {x1 : Int32} {x2 : Int32} {x3 : Int32} {f_parts_1 : Int32} {j2 : Nat} {g3 : Nat → Int32} {j4 : Nat} {j5 : Nat} {g6 : Nat → Int32} {j7 : Nat}
  (a1 : hat h 81 (oC 0 [.ref 82, .int f_parts_1, .ref 83, .ref 90, .ref 97]))
  (a2 : hat h 83 (aG 6 (fun i => if i < 6 then some (83 + 1 + i) else none)))
  (a4 : hat h (83 + 1 + j2) (aI 26 g3))
  (a6 : hat h 90 (aG 6 (fun i => if i < 6 then some (90 + 1 + i) else none)))
  (a8 : hat h (90 + 1 + j5) (aI 50 g6))
  (i3 : ev_ix x1 j2 6)
  (i5 : ev_ix x2 j4 26)
  (i7 : ev_ix (x1 + (1 : Int32)) j5 6)
  (i9 : ev_ix (x3 - x2) j7 50)
  (k1 : R (some (.int ((g3 j4) + (g6 j7)))) h)
  : Ev G d k n M_Bu_costWith 0 [.ref 81, .int x1, .int x2, .int x3] [] h R :=
  Ev.go (pc' := 1) (ls' := [.ref 81, .int x1, .int x2, .int x3]) (st' := [.ref 81]) [.aload_n 0] (by decide +kernel) rfl <|
  Ev.getf f_Bu_21 (by decide +kernel) a1 rfl <|
  Ev.go (pc' := 5) (ls' := [.ref 81, .int x1, .int x2, .int x3]) (st' := [.int x1, .ref 83]) [.iload_n 1] (by decide +kernel) rfl <|
  Ev.gald (j := j2) (b := 83 + 1 + j2) (by decide +kernel) a2 i3 (if_pos (show j2 < 6 from (i3).2.1)) <|
  Ev.go (pc' := 7) (ls' := [.ref 81, .int x1, .int x2, .int x3]) (st' := [.int x2, .ref (83 + 1 + j2)]) [.iload_n 2] (by decide +kernel) rfl <|
  Ev.iald (j := j4) (by decide +kernel) a4 i5 <|
  Ev.go (pc' := 9) (ls' := [.ref 81, .int x1, .int x2, .int x3]) (st' := [.ref 81, .int (g3 j4)]) [.aload_n 0] (by decide +kernel) rfl <|
  Ev.getf f_Bu_24 (by decide +kernel) a1 rfl <|
  Ev.go (pc' := 15) (ls' := [.ref 81, .int x1, .int x2, .int x3]) (st' := [.int (x1 + (1 : Int32)), .ref 90, .int (g3 j4)]) [.iload_n 1, .iconst 1, .iadd] (by decide +kernel) rfl <|
  Ev.gald (j := j5) (b := 90 + 1 + j5) (by decide +kernel) a6 i7 (if_pos (show j5 < 6 from (i7).2.1)) <|
  Ev.go (pc' := 19) (ls' := [.ref 81, .int x1, .int x2, .int x3]) (st' := [.int (x3 - x2), .ref (90 + 1 + j5), .int (g3 j4)]) [.iload_n 3, .iload_n 2, .isub] (by decide +kernel) rfl <|
  Ev.iald (j := j7) (by decide +kernel) a8 i9 <|
  Ev.go (pc' := 21) (ls' := [.ref 81, .int x1, .int x2, .int x3]) (st' := [.int ((g3 j4) + (g6 j7))]) [.iadd] (by decide +kernel) rfl <|
  Ev.ret (r := (some (.int ((g3 j4) + (g6 j7))))) (Or.inl ⟨_, rfl, by decide +kernel, _, rfl, rfl⟩) k1
theorem b_Bu_cheapestShare_0 {G : ev_G} {d k n : Nat} {h : ev_H} {R : Option Value → ev_H → Prop} {x1 : Int32} {x2 : Int32}
  (r1 : ∃ fs, hat h 81 (oC 0 fs))
  (k1 : Ev G d 0 0 M_Bu_costWith 0 [.ref 81, .int x1, .int (0 : Int32), .int x2] [] h (fun r h1 => Ev G (d + 1) k n M_Bu_cheapestShare 9 [.ref 81, .int x1, .int x2, .int (0 : Int32), ev_unk, ev_unk, ev_unk] (r.toList ++ []) h1 R))
  : Ev G (d + 1) k n M_Bu_cheapestShare 0 [.ref 81, .int x1, .int x2, ev_unk, ev_unk, ev_unk, ev_unk] [] h R :=
  Ev.go (pc' := 6) (ls' := [.ref 81, .int x1, .int x2, .int (0 : Int32), ev_unk, ev_unk, ev_unk]) (st' := [.int x2, .int (0 : Int32), .int x1, .ref 81]) [.iconst 0, .istore_n 3, .aload_n 0, .iload_n 1, .iconst 0, .iload_n 2] (by decide +kernel) rfl <|
  Ev.cV0 (M' := M_Bu_costWith) (as := [.int x1, .int (0 : Int32), .int x2]) (rest := []) l_Bu_73 M_Bu_costWith_ok M_Bu_costWith_in M_Bu_costWith_se (by decide +kernel) r1 rfl rfl rfl (Nat.le_of_ble_eq_true rfl) (Nat.le_of_ble_eq_true rfl) k1
theorem b_Bu_cheapestShare_9 {G : ev_G} {d k n : Nat} {h : ev_H} {R : Option Value → ev_H → Prop} {x1 : Int32} {x2 : Int32} {x3 : Int32} {y0 : Int32}
  (k1 : Ev G (d + 1) k n M_Bu_cheapestShare 14 [.ref 81, .int x1, .int x2, .int x3, .int y0, .int (1 : Int32), ev_unk] [] h R)
  : Ev G (d + 1) k n M_Bu_cheapestShare 9 [.ref 81, .int x1, .int x2, .int x3, ev_unk, ev_unk, ev_unk] [.int y0] h R :=
  Ev.go (pc' := 14) (ls' := [.ref 81, .int x1, .int x2, .int x3, .int y0, .int (1 : Int32), ev_unk]) (st' := []) [.istore 4, .iconst 1, .istore 5] (by decide +kernel) rfl <|
  k1
theorem b_Bu_cheapestShare_14 {G : ev_G} {d k n : Nat} {h : ev_H} {R : Option Value → ev_H → Prop} {x1 : Int32} {x2 : Int32} {x3 : Int32} {x4 : Int32} {x5 : Int32} {f_parts_1 : Int32} {g2 : Nat → Int32} {j3 : Nat}
  (a1 : hat h 81 (oC 0 [.ref 82, .int f_parts_1, .ref 83, .ref 90, .ref 97]))
  (a2 : hat h 82 (aI 6 g2))
  (i3 : ev_ix x1 j3 6)
  (k1 : (if ((g2 j3) + (1 : Int32)) < x2 then ((g2 j3) + (1 : Int32)) else x2) < x5 → R (some (.int x3)) h)
  (k2 : ¬ (if ((g2 j3) + (1 : Int32)) < x2 then ((g2 j3) + (1 : Int32)) else x2) < x5 → Ev G d 0 0 M_Bu_costWith 0 [.ref 81, .int x1, .int x5, .int x2] [] h (fun r h1 => Ev G (d + 1) k n M_Bu_cheapestShare 39 [.ref 81, .int x1, .int x2, .int x3, .int x4, .int x5, ev_unk] (r.toList ++ []) h1 R))
  : Ev G (d + 1) k n M_Bu_cheapestShare 14 [.ref 81, .int x1, .int x2, .int x3, .int x4, .int x5, ev_unk] [] h R :=
  Ev.go (pc' := 18) (ls' := [.ref 81, .int x1, .int x2, .int x3, .int x4, .int x5, ev_unk]) (st' := [.ref 81, .int x2, .int x5]) [.iload 5, .iload_n 2, .aload_n 0] (by decide +kernel) rfl <|
  Ev.getf f_Bu_9 (by decide +kernel) a1 rfl <|
  Ev.go (pc' := 22) (ls' := [.ref 81, .int x1, .int x2, .int x3, .int x4, .int x5, ev_unk]) (st' := [.int x1, .ref 82, .int x2, .int x5]) [.iload_n 1] (by decide +kernel) rfl <|
  Ev.iald (j := j3) (by decide +kernel) a2 i3 <|
  Ev.go (pc' := 25) (ls' := [.ref 81, .int x1, .int x2, .int x3, .int x4, .int x5, ev_unk]) (st' := [.int ((g2 j3) + (1 : Int32)), .int x2, .int x5]) [.iconst 1, .iadd] (by decide +kernel) rfl <|
  Ev.mmin lL_Bu_77 w_minS w_mathI w_minC (Nat.le_of_ble_eq_true rfl) (by decide +kernel) <|
  Ev.br (i := .if_icmp .gt (33)) (P := (if ((g2 j3) + (1 : Int32)) < x2 then ((g2 j3) + (1 : Int32)) else x2) < x5) (t := 61) (f := 31) (r := []) (by decide +kernel) rfl (fun c1 =>
    Ev.go (pc' := 62) (ls' := [.ref 81, .int x1, .int x2, .int x3, .int x4, .int x5, ev_unk]) (st' := [.int x3]) [.iload_n 3] (by decide +kernel) rfl <|
    Ev.ret (r := (some (.int x3))) (Or.inl ⟨_, rfl, by decide +kernel, _, rfl, rfl⟩) (k1 c1)
  ) (fun c1 =>
    Ev.go (pc' := 36) (ls' := [.ref 81, .int x1, .int x2, .int x3, .int x4, .int x5, ev_unk]) (st' := [.int x2, .int x5, .int x1, .ref 81]) [.aload_n 0, .iload_n 1, .iload 5, .iload_n 2] (by decide +kernel) rfl <|
    Ev.cV0 (M' := M_Bu_costWith) (as := [.int x1, .int x5, .int x2]) (rest := []) l_Bu_73 M_Bu_costWith_ok M_Bu_costWith_in M_Bu_costWith_se (by decide +kernel) ⟨_, a1⟩ rfl rfl rfl (Nat.le_of_ble_eq_true rfl) (Nat.le_of_ble_eq_true rfl) (k2 c1)
  )
theorem b_Bu_cheapestShare_39 {G : ev_G} {d k n : Nat} {h : ev_H} {R : Option Value → ev_H → Prop} {x1 : Int32} {x2 : Int32} {x3 : Int32} {x4 : Int32} {x5 : Int32} {y0 : Int32}
  (k1 : y0 < x4 → Ev G (d + 1) k n M_Bu_cheapestShare 14 [.ref 81, .int x1, .int x2, .int x5, .int y0, .int (x5 + (1 : Int32)), ev_unk] [] h R)
  (k2 : ¬ y0 < x4 → Ev G (d + 1) k n M_Bu_cheapestShare 14 [.ref 81, .int x1, .int x2, .int x3, .int x4, .int (x5 + (1 : Int32)), ev_unk] [] h R)
  : Ev G (d + 1) k n M_Bu_cheapestShare 39 [.ref 81, .int x1, .int x2, .int x3, .int x4, .int x5, ev_unk] [.int y0] h R :=
  Ev.go (pc' := 45) (ls' := [.ref 81, .int x1, .int x2, .int x3, .int x4, .int x5, .int y0]) (st' := [.int x4, .int y0]) [.istore 6, .iload 6, .iload 4] (by decide +kernel) rfl <|
  Ev.br (i := .if_icmp .ge (10)) (P := y0 < x4) (t := 48) (f := 55) (r := []) (by decide +kernel) rfl (fun c1 =>
    Ev.go (pc' := 14) (ls' := [.ref 81, .int x1, .int x2, .int x5, .int y0, .int (x5 + (1 : Int32)), .int y0]) (st' := []) [.iload 6, .istore 4, .iload 5, .istore_n 3, .iinc 5 (1), .goto (-44)] (by decide +kernel) rfl <|
    Ev.forget (ls' := [.ref 81, .int x1, .int x2, .int x5, .int y0, .int (x5 + (1 : Int32)), ev_unk]) ⟨Or.inr rfl, Or.inr rfl, Or.inr rfl, Or.inr rfl, Or.inr rfl, Or.inr rfl, Or.inl rfl, trivial⟩ <|
    (k1 c1)
  ) (fun c1 =>
    Ev.go (pc' := 14) (ls' := [.ref 81, .int x1, .int x2, .int x3, .int x4, .int (x5 + (1 : Int32)), .int y0]) (st' := []) [.iinc 5 (1), .goto (-44)] (by decide +kernel) rfl <|
    Ev.forget (ls' := [.ref 81, .int x1, .int x2, .int x3, .int x4, .int (x5 + (1 : Int32)), ev_unk]) ⟨Or.inr rfl, Or.inr rfl, Or.inr rfl, Or.inr rfl, Or.inr rfl, Or.inr rfl, Or.inl rfl, trivial⟩ <|
    (k2 c1)
  )
theorem b_Bu_partLike_0 {G : ev_G} {d k n : Nat} {h : ev_H} {R : Option Value → ev_H → Prop} {x1 : Nat} {f_bits_1 : Int32} {f_parts_2 : Int32} {f_size_3 : Int32} {fv4 : Value} {f_parts_5 : Int32} {g6 : Nat → Int32} {g7 : Nat → Int32}
  (a1 : hat h x1 (oC 6 [.int f_bits_1, .int f_parts_2, .ref (x1 + 1), .int f_size_3, .ref (x1 + 2), .ref (x1 + 3), fv4]))
  (a2 : hat h 81 (oC 0 [.ref 82, .int f_parts_5, .ref 83, .ref 90, .ref 97]))
  (a4 : hat h (x1 + 1) (aI 6 g6))
  (a6 : hat h 82 (aI 6 g7))
  (e3 : x1 ≠ 81)
  (e5 : (x1 + 1) ≠ 81)
  (e7 : x1 ≠ 82)
  (e8 : (x1 + 1) ≠ 82)
  (k1 : R none (hset (hset h 81 (oC 0 [.ref 82, .int f_parts_2, .ref 83, .ref 90, .ref 97])) 82 (aI 6 (va_cpy g6 g7 0 0 6))))
  : Ev G (d + 1) k n M_Bu_partLike 0 [.ref 81, .ref x1] [] h R :=
  Ev.go (pc' := 2) (ls' := [.ref 81, .ref x1]) (st' := [.ref x1, .ref 81]) [.aload_n 0, .aload_n 1] (by decide +kernel) rfl <|
  Ev.getf f_Bu_30 (by decide +kernel) a1 rfl <|
  Ev.putf f_Bu_15 (by decide +kernel) a2 (Nat.le_of_ble_eq_true rfl) rfl (fun q => nomatch q) <| show Ev G (d + 1) _ _ M_Bu_partLike 8 [.ref 81, .ref x1] [] (hset h 81 (oC 0 [.ref 82, .int f_parts_2, .ref 83, .ref 90, .ref 97])) R from
  Ev.go (pc' := 9) (ls' := [.ref 81, .ref x1]) (st' := [.ref x1]) [.aload_n 1] (by decide +kernel) rfl <|
  Ev.getf f_Bu_33 (by decide +kernel) (hat_ne a1 e3) rfl <|
  Ev.go (pc' := 14) (ls' := [.ref 81, .ref x1]) (st' := [.ref 81, .int (0 : Int32), .ref (x1 + 1)]) [.iconst 0, .aload_n 0] (by decide +kernel) rfl <|
  Ev.getf f_Bu_9 (by decide +kernel) (hat_set a2) rfl <|
  Ev.go (pc' := 20) (ls' := [.ref 81, .ref x1]) (st' := [.int (6 : Int32), .int (0 : Int32), .ref 82, .int (0 : Int32), .ref (x1 + 1)]) [.iconst 0, .bipush (6)] (by decide +kernel) rfl <|
  Ev.acpyI (sp := 0) (dp := 0) (cn := 6) lL_Bu_34 w_cpN w_cpS w_sysI (by decide +kernel) (hat_ne a4 e5) (hat_ne a6 (by decide)) rfl rfl rfl (by decide) (by decide) (by decide) (by decide) (Nat.le_of_ble_eq_true rfl) <| show Ev G (d + 1) _ _ M_Bu_partLike 23 [.ref 81, .ref x1] [] (hset (hset h 81 (oC 0 [.ref 82, .int f_parts_2, .ref 83, .ref 90, .ref 97])) 82 (aI 6 (va_cpy g6 g7 0 0 6))) R from
  Ev.ret (r := none) (Or.inr (Or.inr (Or.inl ⟨rfl, by decide +kernel, rfl⟩))) k1
theorem b_Bu_partInTwo_0 {G : ev_G} {d k n : Nat} {h : ev_H} {R : Option Value → ev_H → Prop} {x1 : Int32} {x2 : Int32} {f_parts_1 : Int32} {g2 : Nat → Int32}
  (a1 : hat h 81 (oC 0 [.ref 82, .int f_parts_1, .ref 83, .ref 90, .ref 97]))
  (a2 : hat h 82 (aI 6 g2))
  (k1 : R none (hset (hset (hset h 81 (oC 0 [.ref 82, .int (2 : Int32), .ref 83, .ref 90, .ref 97])) 82 (aI 6 (upd g2 0 x1))) 82 (aI 6 (upd (upd g2 0 x1) 1 x2))))
  : Ev G d k n M_Bu_partInTwo 0 [.ref 81, .int x1, .int x2] [] h R :=
  Ev.go (pc' := 2) (ls' := [.ref 81, .int x1, .int x2]) (st' := [.int (2 : Int32), .ref 81]) [.aload_n 0, .iconst 2] (by decide +kernel) rfl <|
  Ev.putf f_Bu_15 (by decide +kernel) a1 (Nat.le_of_ble_eq_true rfl) rfl (fun q => nomatch q) <| show Ev G d _ _ M_Bu_partInTwo 5 [.ref 81, .int x1, .int x2] [] (hset h 81 (oC 0 [.ref 82, .int (2 : Int32), .ref 83, .ref 90, .ref 97])) R from
  Ev.go (pc' := 6) (ls' := [.ref 81, .int x1, .int x2]) (st' := [.ref 81]) [.aload_n 0] (by decide +kernel) rfl <|
  Ev.getf f_Bu_9 (by decide +kernel) (hat_set a1) rfl <|
  Ev.go (pc' := 11) (ls' := [.ref 81, .int x1, .int x2]) (st' := [.int x1, .int (0 : Int32), .ref 82]) [.iconst 0, .iload_n 1] (by decide +kernel) rfl <|
  Ev.iast (j := 0) (by decide +kernel) (hat_ne a2 (by decide)) ⟨rfl, by decide, by decide⟩ <| show Ev G d _ _ M_Bu_partInTwo 12 [.ref 81, .int x1, .int x2] [] (hset (hset h 81 (oC 0 [.ref 82, .int (2 : Int32), .ref 83, .ref 90, .ref 97])) 82 (aI 6 (upd g2 0 x1))) R from
  Ev.go (pc' := 13) (ls' := [.ref 81, .int x1, .int x2]) (st' := [.ref 81]) [.aload_n 0] (by decide +kernel) rfl <|
  Ev.getf f_Bu_9 (by decide +kernel) (hat_ne (hat_set a1) (by decide)) rfl <|
  Ev.go (pc' := 18) (ls' := [.ref 81, .int x1, .int x2]) (st' := [.int x2, .int (1 : Int32), .ref 82]) [.iconst 1, .iload_n 2] (by decide +kernel) rfl <|
  Ev.iast (j := 1) (by decide +kernel) (hat_set (hat_ne a2 (by decide))) ⟨rfl, by decide, by decide⟩ <| show Ev G d _ _ M_Bu_partInTwo 19 [.ref 81, .int x1, .int x2] [] (hset (hset (hset h 81 (oC 0 [.ref 82, .int (2 : Int32), .ref 83, .ref 90, .ref 97])) 82 (aI 6 (upd g2 0 x1))) 82 (aI 6 (upd (upd g2 0 x1) 1 x2))) R from
  Ev.ret (r := none) (Or.inr (Or.inr (Or.inl ⟨rfl, by decide +kernel, rfl⟩))) k1
section S19
variable {G : ev_G} {d : Nat} {h : ev_H} {R : Option Value → ev_H → Prop} {S : AS}
theorem s_JA_fill {a N : Nat} {g : Nat → Int32} {v : Int32} (ha : hat h a (aI N g)) (hN : N < 2147483648) (hR : ∀ h' g', Kp h h' a (a + 1) → hat h' a (aI N g') → (∀ i, i < N → g' i = v) → R none h') : Ev G d 0 0 M_JA_fill 0 [.ref a, .int v, ev_unk, ev_unk] [] h R := by
  refine b_JA_fill_0 ha ?_
  have L := up0 (P := fun i => ∀ h' g', Kp h h' a (a + 1) → hat h' a (aI N g') → (∀ j, j < i → g' j = v) → Ev G d 0 0 M_JA_fill 5 [.ref a, .int v, .int (nI i), .int (nI N)] [] h' R) N ?_ ?_
  · exact L h g (Kp.refl _ _ _) ha (fun j q => absurd q (Nat.not_lt_zero j))
  · intro i hi ih h' g' K t e
    refine b_JA_fill_5 (j3 := i) t (fun _ => ixn hi hN) (fun _ => ?_) (fun q => absurd (nI_lt hi (by omega)) q)
    rw [nI_1]
    refine ih _ _ (K.set _ (by omega) (by omega)) ⟨t.1, hset_eq _ _ _⟩ fun j hj => ?_
    by_cases ej : j = i
    · subst ej; simp only [upd, if_true]
    · simp only [upd, if_neg ej]; exact e j (by omega)
  · intro h' g' K t e
    exact b_JA_fill_5 (j3 := 0) t (fun q => absurd q (nl_self (by omega))) (fun q => absurd q (nl_self (by omega))) (fun _ => hR h' g' K t e)
variable {P : Nat} {W : Nat → Nat} {c : Nat → Nat → Nat} {kc r lo : Nat}
theorem s_Bu_costWith {p sh s : Nat} {pI shI sI : Int32} (B : BuP h P W c kc r lo) (hp : pI = nI p ∧ p + 1 < P ∧ p < kc ∧ lo ≤ p + 1) (hsh : shI = nI sh ∧ sh ≤ W p + 1 ∧ sh ≤ s) (hs : sI = nI s ∧ s ≤ r + 1) (hr : r ≤ 48) (hR : R (some (.int (nI (bF c W P p s sh)))) h) : Ev G d 0 0 M_Bu_costWith 0 [.ref 81, .int pI, .int shI, .int sI] [] h R := by
  obtain ⟨rfl, p1, p2, p3⟩ := hp
  obtain ⟨rfl, s1, s2⟩ := hsh
  obtain ⟨rfl, s3⟩ := hs
  obtain ⟨b1, b2, b3, b4, ⟨brf, b5, b5'⟩, b6, b7, b8, b9, ch, b10⟩ := B
  obtain ⟨g, t, v⟩ := b8 p (by omega)
  obtain ⟨g', t', v'⟩ := b9 (p + 1) (by omega)
  have hw := b3 p (by omega)
  refine b_Bu_costWith_0 (j2 := p) (j4 := sh) (j5 := p + 1) (j7 := s - sh) b4 b6 t b7 t' (ixn (by omega) (by decide)) (ixn (by omega) (by decide)) (by rw [nI_1]; exact ixn (by omega) (by decide)) (by rw [nI_sub s2]; exact ixn (by omega) (by decide)) ?_
  rw [v p2 sh s1, v' p3 p1 (s - sh) (by omega), nI_add]
  exact hR
theorem s_Bu_cheapestShare {p s : Nat} {pI sI : Int32} (B : BuP h P W c kc r lo) (hc : cOk c P) (hp : pI = nI p ∧ p + 1 < P ∧ p < kc ∧ lo ≤ p + 1) (hs : sI = nI s ∧ s ≤ r + 1) (hr : r ≤ 48) (hR : R (some (.int (nI (bSh c W P p s)))) h) : Ev G (d + 1) 0 0 M_Bu_cheapestShare 0 [.ref 81, .int pI, .int sI, ev_unk, ev_unk, ev_unk, ev_unk] [] h R := by
  have B0 := B
  obtain ⟨rfl, p1, p2, p3⟩ := hp
  obtain ⟨rfl, s3⟩ := hs
  obtain ⟨b1, b2, b3, b4, ⟨brf, b5, b5'⟩, b6, b7, b8, b9, ch, b10⟩ := B
  have hw := b3 p (by omega)
  refine b_Bu_cheapestShare_0 ⟨_, b4⟩ (s_Bu_costWith B0 ⟨rfl, p1, p2, p3⟩ ⟨(show (0 : Int32) = nI 0 from rfl), by omega, by omega⟩ ⟨rfl, s3⟩ hr ?_)
  refine b_Bu_cheapestShare_9 ?_
  have em : (if brf p + 1 < nI s then brf p + 1 else nI s) = nI (min s (W p + 1)) := by
    rw [b5' p (by omega), nI_1]
    by_cases q : W p + 1 < s
    · rw [if_pos (nI_lt q (by omega)), Nat.min_eq_right (by omega)]
    · rw [if_neg (fun z => q ((nI_ltI (by omega) (by omega)).mp z)), Nat.min_eq_left (by omega)]
  have L := up0 (P := fun i => Ev G (d + 1) 0 0 M_Bu_cheapestShare 14 [.ref 81, .int (nI p), .int (nI s), .int (nI (bst (bF c W P p s) i)), .int (nI (bF c W P p s (bst (bF c W P p s) i))), .int (nI (i + 1)), ev_unk] [] h R) (min s (W p + 1)) ?_ ?_
  · exact L
  · intro i hi ih
    refine b_Bu_cheapestShare_14 (j3 := p) b4 b5 (ixn (by omega) (by decide)) (fun q => ?_) (fun _ => ?_)
    · rw [em] at q; exact absurd q (nI_nlt (by omega) (by omega))
    · refine s_Bu_costWith B0 ⟨rfl, p1, p2, p3⟩ ⟨rfl, by omega, by omega⟩ ⟨rfl, s3⟩ hr ?_
      have f1 : bF c W P p s (i + 1) ≤ 1000032 := bF_le hc p1
      have f2 : bF c W P p s (bst (bF c W P p s) i) ≤ 1000032 := bF_le hc p1
      have st : bst (bF c W P p s) (i + 1) = if bF c W P p s (i + 1) < bF c W P p s (bst (bF c W P p s) i) then i + 1 else bst (bF c W P p s) i := rfl
      refine b_Bu_cheapestShare_39 (fun q => ?_) (fun q => ?_)
      · have q := (nI_ltI (by omega) (by omega)).mp q
        rw [if_pos q] at st; rw [st] at ih; rw [nI_1]; exact ih
      · have q : ¬ bF c W P p s (i + 1) < bF c W P p s (bst (bF c W P p s) i) := fun z => q (nI_lt z (by omega))
        rw [if_neg q] at st; rw [st] at ih; rw [nI_1]; exact ih
  · refine b_Bu_cheapestShare_14 (j3 := p) b4 b5 (ixn (by omega) (by decide)) (fun q => hR) (fun q => absurd ?_ q)
    rw [em]; exact nI_lt (by omega) (by omega)
theorem s_Bu_partLike {P0 : Nat} {W0 : Nat → Nat} {a : Nat} (B : BuP h P0 W0 c kc r lo) (hS : StR h a S) (ok : sOk S) (ha : a + 4 ≤ 81) (hR : ∀ h', Kp h h' 81 83 → (∀ c' r', BuP h' (sP S) (sBr S) c' 0 r' (sP S)) → R none h') : Ev G (d + 1) 0 0 M_Bu_partLike 0 [.ref 81, .ref a] [] h R := by
  obtain ⟨b1, b2, b3, b4, ⟨brf, b5, b5'⟩, b6, b7, b8, b9, ch, b10⟩ := B
  obtain ⟨brg, tgg, cog, gv, u1, u2, u3, u4, v1, v2, E⟩ := hS
  have K := (((Kp.refl h 81 83).set (k := 81) (oC 0 [.ref 82, .int (nI (sP S)), .ref 83, .ref 90, .ref 97]) (by omega) (by omega)).set (k := 82) (aI 6 (va_cpy brg brf 0 0 6)) (by omega) (by omega))
  have h6 := ok.2.2.2.1
  refine b_Bu_partLike_0 u1 b4 u2 b5 (by omega) (by omega) (by omega) (by omega) (hR _ K fun c' r' => ⟨ok.2.2.1, h6, ok.2.2.2.2.2.1, hat_ne ⟨b4.1, hset_eq _ _ _⟩ (by omega), ⟨_, ⟨b5.1, hset_eq _ _ _⟩, fun i hi => ?_⟩, K.hat b6 (by omega), K.hat b7 (by omega), fun i hi => ?_, fun i hi => ?_, ch, K.hat b10 (by omega)⟩)
  · unfold va_cpy; rw [if_pos (by omega), Nat.zero_add, Nat.sub_zero]; exact v1 i hi
  · obtain ⟨g, t, v⟩ := b8 i hi; exact ⟨g, K.hat t (by omega), fun q => absurd q (Nat.not_lt_zero i)⟩
  · obtain ⟨g, t, v⟩ := b9 i hi; exact ⟨g, K.hat t (by omega), fun q q2 => absurd q2 (by omega)⟩
def twoW (a b : Nat) : Nat → Nat := fun i => if i = 0 then a else b
theorem s_Bu_partInTwo {P0 : Nat} {W0 : Nat → Nat} {x y : Nat} {xI yI : Int32} (B : BuP h P0 W0 c kc r lo) (hx : xI = nI x ∧ x ≤ 24) (hy : yI = nI y ∧ y ≤ 24) (hR : ∀ h', Kp h h' 81 83 → (∀ c' r', BuP h' 2 (twoW x y) c' 0 r' 2) → R none h') : Ev G d 0 0 M_Bu_partInTwo 0 [.ref 81, .int xI, .int yI] [] h R := by
  obtain ⟨rfl, hx⟩ := hx
  obtain ⟨rfl, hy⟩ := hy
  obtain ⟨b1, b2, b3, b4, ⟨brf, b5, b5'⟩, b6, b7, b8, b9, ch, b10⟩ := B
  have K := ((((Kp.refl h 81 83).set (k := 81) (oC 0 [.ref 82, .int 2, .ref 83, .ref 90, .ref 97]) (by omega) (by omega)).set (k := 82) (aI 6 (upd brf 0 (nI x))) (by omega) (by omega)).set (k := 82) (aI 6 (upd (upd brf 0 (nI x)) 1 (nI y))) (by omega) (by omega))
  refine b_Bu_partInTwo_0 b4 b5 (hR _ K fun c' r' => ⟨by omega, by omega, fun i hi => ?_, hat_ne (hat_ne ⟨b4.1, hset_eq _ _ _⟩ (by omega)) (by omega), ⟨_, ⟨b5.1, hset_eq _ _ _⟩, fun i hi => ?_⟩, K.hat b6 (by omega), K.hat b7 (by omega), fun i hi => ?_, fun i hi => ?_, ch, K.hat b10 (by omega)⟩)
  · unfold twoW; split <;> omega
  · have : i = 0 ∨ i = 1 := by omega
    rcases this with rfl | rfl <;> rfl
  · obtain ⟨g, t, v⟩ := b8 i hi; exact ⟨g, K.hat t (by omega), fun q => absurd q (Nat.not_lt_zero i)⟩
  · obtain ⟨g, t, v⟩ := b9 i hi; exact ⟨g, K.hat t (by omega), fun q q2 => absurd q2 (by omega)⟩
end S19
theorem b_Bu_tabulate_0 {G : ev_G} {d k n : Nat} {h : ev_H} {R : Option Value → ev_H → Prop} {x1 : Int32} {f_parts_1 : Int32}
  (a1 : hat h 81 (oC 0 [.ref 82, .int f_parts_1, .ref 83, .ref 90, .ref 97]))
  (k1 : Ev G (d + 1) k n M_Bu_tabulate 9 [.ref 81, .int x1, .int (f_parts_1 - (1 : Int32)), .int (0 : Int32), ev_unk] [] h R)
  : Ev G (d + 1) k n M_Bu_tabulate 0 [.ref 81, .int x1, ev_unk, ev_unk, ev_unk] [] h R :=
  Ev.go (pc' := 1) (ls' := [.ref 81, .int x1, ev_unk, ev_unk, ev_unk]) (st' := [.ref 81]) [.aload_n 0] (by decide +kernel) rfl <|
  Ev.getf f_Bu_15 (by decide +kernel) a1 rfl <|
  Ev.go (pc' := 9) (ls' := [.ref 81, .int x1, .int (f_parts_1 - (1 : Int32)), .int (0 : Int32), ev_unk]) (st' := []) [.iconst 1, .isub, .istore_n 2, .iconst 0, .istore_n 3] (by decide +kernel) rfl <|
  k1
theorem b_Bu_tabulate_9 {G : ev_G} {d k n : Nat} {h : ev_H} {R : Option Value → ev_H → Prop} {x1 : Int32} {x2 : Int32} {x3 : Int32} {f_parts_1 : Int32} {j2 : Nat} {g3 : Nat → Int32} {g4 : Nat → Int32} {j5 : Nat} {g6 : Nat → Int32}
  (a1 : hat h 81 (oC 0 [.ref 82, .int f_parts_1, .ref 83, .ref 90, .ref 97]))
  (a2 : hat h 90 (aG 6 (fun i => if i < 6 then some (90 + 1 + i) else none)))
  (a4 : hat h 82 (aI 6 g3))
  (a5 : hat h (90 + 1 + j2) (aI 50 g4))
  (a10 : hat h 83 (aG 6 (fun i => if i < 6 then some (83 + 1 + i) else none)))
  (a12 : hat h (83 + 1 + j2) (aI 26 g6))
  (i3 : ¬ (x1 + (1 : Int32)) < x3 → ev_ix x2 j2 6)
  (i6 : ¬ (x1 + (1 : Int32)) < x3 → ((g3 j2) + (1 : Int32)) < x3 → ev_ix x3 j5 50)
  (e7 : ¬ (x1 + (1 : Int32)) < x3 → ((g3 j2) + (1 : Int32)) < x3 → 81 ≠ (90 + 1 + j2))
  (e8 : ¬ (x1 + (1 : Int32)) < x3 → ((g3 j2) + (1 : Int32)) < x3 → 90 ≠ (90 + 1 + j2))
  (e9 : ¬ (x1 + (1 : Int32)) < x3 → ((g3 j2) + (1 : Int32)) < x3 → 82 ≠ (90 + 1 + j2))
  (i11 : ¬ (x1 + (1 : Int32)) < x3 → ¬ ((g3 j2) + (1 : Int32)) < x3 → ev_ix x2 j2 6)
  (i13 : ¬ (x1 + (1 : Int32)) < x3 → ¬ ((g3 j2) + (1 : Int32)) < x3 → ev_ix x3 j5 26)
  (i14 : ¬ (x1 + (1 : Int32)) < x3 → ¬ ((g3 j2) + (1 : Int32)) < x3 → ev_ix x3 j5 50)
  (e15 : ¬ (x1 + (1 : Int32)) < x3 → ¬ ((g3 j2) + (1 : Int32)) < x3 → 81 ≠ (90 + 1 + j2))
  (e16 : ¬ (x1 + (1 : Int32)) < x3 → ¬ ((g3 j2) + (1 : Int32)) < x3 → 90 ≠ (90 + 1 + j2))
  (e17 : ¬ (x1 + (1 : Int32)) < x3 → ¬ ((g3 j2) + (1 : Int32)) < x3 → 82 ≠ (90 + 1 + j2))
  (e18 : ¬ (x1 + (1 : Int32)) < x3 → ¬ ((g3 j2) + (1 : Int32)) < x3 → 83 ≠ (90 + 1 + j2))
  (e19 : ¬ (x1 + (1 : Int32)) < x3 → ¬ ((g3 j2) + (1 : Int32)) < x3 → (83 + 1 + j2) ≠ (90 + 1 + j2))
  (k1 : (x1 + (1 : Int32)) < x3 → Ev G (d + 1) k n M_Bu_tabulate 59 [.ref 81, .int x1, .int x2, .int (x2 - (1 : Int32)), ev_unk] [] h R)
  (k2 : ¬ (x1 + (1 : Int32)) < x3 → ((g3 j2) + (1 : Int32)) < x3 → Ev G (d + 1) k n M_Bu_tabulate 9 [.ref 81, .int x1, .int x2, .int (x3 + (1 : Int32)), ev_unk] [] (hset h (90 + 1 + j2) (aI 50 (upd g4 j5 (1000000 : Int32)))) R)
  (k3 : ¬ (x1 + (1 : Int32)) < x3 → ¬ ((g3 j2) + (1 : Int32)) < x3 → Ev G (d + 1) k n M_Bu_tabulate 9 [.ref 81, .int x1, .int x2, .int (x3 + (1 : Int32)), ev_unk] [] (hset h (90 + 1 + j2) (aI 50 (upd g4 j5 (g6 j5)))) R)
  : Ev G (d + 1) k n M_Bu_tabulate 9 [.ref 81, .int x1, .int x2, .int x3, ev_unk] [] h R :=
  Ev.go (pc' := 13) (ls' := [.ref 81, .int x1, .int x2, .int x3, ev_unk]) (st' := [.int (x1 + (1 : Int32)), .int x3]) [.iload_n 3, .iload_n 1, .iconst 1, .iadd] (by decide +kernel) rfl <|
  Ev.br (i := .if_icmp .gt (42)) (P := (x1 + (1 : Int32)) < x3) (t := 55) (f := 16) (r := []) (by decide +kernel) rfl (fun c1 =>
    Ev.go (pc' := 59) (ls' := [.ref 81, .int x1, .int x2, .int (x2 - (1 : Int32)), ev_unk]) (st' := []) [.iload_n 2, .iconst 1, .isub, .istore_n 3] (by decide +kernel) rfl <|
    (k1 c1)
  ) (fun c1 =>
    Ev.go (pc' := 17) (ls' := [.ref 81, .int x1, .int x2, .int x3, ev_unk]) (st' := [.ref 81]) [.aload_n 0] (by decide +kernel) rfl <|
    Ev.getf f_Bu_24 (by decide +kernel) a1 rfl <|
    Ev.go (pc' := 21) (ls' := [.ref 81, .int x1, .int x2, .int x3, ev_unk]) (st' := [.int x2, .ref 90]) [.iload_n 2] (by decide +kernel) rfl <|
    Ev.gald (j := j2) (b := 90 + 1 + j2) (by decide +kernel) a2 (i3 c1) (if_pos (show j2 < 6 from ((i3 c1)).2.1)) <|
    Ev.go (pc' := 25) (ls' := [.ref 81, .int x1, .int x2, .int x3, ev_unk]) (st' := [.ref 81, .int x3, .int x3, .ref (90 + 1 + j2)]) [.iload_n 3, .iload_n 3, .aload_n 0] (by decide +kernel) rfl <|
    Ev.getf f_Bu_9 (by decide +kernel) a1 rfl <|
    Ev.go (pc' := 29) (ls' := [.ref 81, .int x1, .int x2, .int x3, ev_unk]) (st' := [.int x2, .ref 82, .int x3, .int x3, .ref (90 + 1 + j2)]) [.iload_n 2] (by decide +kernel) rfl <|
    Ev.iald (j := j2) (by decide +kernel) a4 (i3 c1) <|
    Ev.go (pc' := 32) (ls' := [.ref 81, .int x1, .int x2, .int x3, ev_unk]) (st' := [.int ((g3 j2) + (1 : Int32)), .int x3, .int x3, .ref (90 + 1 + j2)]) [.iconst 1, .iadd] (by decide +kernel) rfl <|
    Ev.br (i := .if_icmp .gt (14)) (P := ((g3 j2) + (1 : Int32)) < x3) (t := 46) (f := 35) (r := [.int x3, .ref (90 + 1 + j2)]) (by decide +kernel) rfl (fun c2 =>
      Ev.ldc k_Bu_68 (by decide +kernel) <|
      Ev.iast (j := j5) (by decide +kernel) a5 (i6 c1 c2) <| show Ev G (d + 1) _ _ M_Bu_tabulate 49 [.ref 81, .int x1, .int x2, .int x3, ev_unk] [] (hset h (90 + 1 + j2) (aI 50 (upd g4 j5 (1000000 : Int32)))) R from
      Ev.go (pc' := 9) (ls' := [.ref 81, .int x1, .int x2, .int (x3 + (1 : Int32)), ev_unk]) (st' := []) [.iinc 3 (1), .goto (-43)] (by decide +kernel) rfl <|
      (k2 c1 c2)
    ) (fun c2 =>
      Ev.go (pc' := 36) (ls' := [.ref 81, .int x1, .int x2, .int x3, ev_unk]) (st' := [.ref 81, .int x3, .ref (90 + 1 + j2)]) [.aload_n 0] (by decide +kernel) rfl <|
      Ev.getf f_Bu_21 (by decide +kernel) a1 rfl <|
      Ev.go (pc' := 40) (ls' := [.ref 81, .int x1, .int x2, .int x3, ev_unk]) (st' := [.int x2, .ref 83, .int x3, .ref (90 + 1 + j2)]) [.iload_n 2] (by decide +kernel) rfl <|
      Ev.gald (j := j2) (b := 83 + 1 + j2) (by decide +kernel) a10 (i11 c1 c2) (if_pos (show j2 < 6 from ((i11 c1 c2)).2.1)) <|
      Ev.go (pc' := 42) (ls' := [.ref 81, .int x1, .int x2, .int x3, ev_unk]) (st' := [.int x3, .ref (83 + 1 + j2), .int x3, .ref (90 + 1 + j2)]) [.iload_n 3] (by decide +kernel) rfl <|
      Ev.iald (j := j5) (by decide +kernel) a12 (i13 c1 c2) <|
      Ev.go (pc' := 48) (ls' := [.ref 81, .int x1, .int x2, .int x3, ev_unk]) (st' := [.int (g6 j5), .int x3, .ref (90 + 1 + j2)]) [.goto (5)] (by decide +kernel) rfl <|
      Ev.iast (j := j5) (by decide +kernel) a5 (i14 c1 c2) <| show Ev G (d + 1) _ _ M_Bu_tabulate 49 [.ref 81, .int x1, .int x2, .int x3, ev_unk] [] (hset h (90 + 1 + j2) (aI 50 (upd g4 j5 (g6 j5)))) R from
      Ev.go (pc' := 9) (ls' := [.ref 81, .int x1, .int x2, .int (x3 + (1 : Int32)), ev_unk]) (st' := []) [.iinc 3 (1), .goto (-43)] (by decide +kernel) rfl <|
      (k3 c1 c2)
    )
  )
theorem b_Bu_tabulate_59 {G : ev_G} {d k n : Nat} {h : ev_H} {R : Option Value → ev_H → Prop} {x1 : Int32} {x2 : Int32} {x3 : Int32}
  (k1 : (0 : Int32) < x3 → Ev G (d + 1) k n M_Bu_tabulate 66 [.ref 81, .int x1, .int x2, .int x3, .int (0 : Int32)] [] h R)
  (k2 : ¬ (0 : Int32) < x3 → R none h)
  : Ev G (d + 1) k n M_Bu_tabulate 59 [.ref 81, .int x1, .int x2, .int x3, ev_unk] [] h R :=
  Ev.go (pc' := 60) (ls' := [.ref 81, .int x1, .int x2, .int x3, ev_unk]) (st' := [.int x3]) [.iload_n 3] (by decide +kernel) rfl <|
  Ev.br (i := .ifCond .le (49)) (P := (0 : Int32) < x3) (t := 63) (f := 109) (r := []) (by decide +kernel) rfl (fun c1 =>
    Ev.go (pc' := 66) (ls' := [.ref 81, .int x1, .int x2, .int x3, .int (0 : Int32)]) (st' := []) [.iconst 0, .istore 4] (by decide +kernel) rfl <|
    (k1 c1)
  ) (fun c1 =>
    Ev.ret (r := none) (Or.inr (Or.inr (Or.inl ⟨rfl, by decide +kernel, rfl⟩))) (k2 c1)
  )
theorem b_Bu_tabulate_66 {G : ev_G} {d k n : Nat} {h : ev_H} {R : Option Value → ev_H → Prop} {x1 : Int32} {x2 : Int32} {x3 : Int32} {x4 : Int32} {f_parts_1 : Int32} {j2 : Nat}
  (a1 : hat h 81 (oC 0 [.ref 82, .int f_parts_1, .ref 83, .ref 90, .ref 97]))
  (a2 : hat h 90 (aG 6 (fun i => if i < 6 then some (90 + 1 + i) else none)))
  (i3 : ¬ (x1 + (1 : Int32)) < x4 → ev_ix x3 j2 6)
  (k1 : (x1 + (1 : Int32)) < x4 → Ev G (d + 1) k n M_Bu_tabulate 59 [.ref 81, .int x1, .int x2, .int (x3 + (-1 : Int32)), ev_unk] [] h R)
  (k2 : ¬ (x1 + (1 : Int32)) < x4 → Ev G d 0 0 M_Bu_cheapestShare 0 [.ref 81, .int x3, .int x4, ev_unk, ev_unk, ev_unk, ev_unk] [] h (fun r h1 => Ev G (d + 1) k n M_Bu_tabulate 91 [.ref 81, .int x1, .int x2, .int x3, .int x4] (r.toList ++ [.int x3, .ref 81, .int x4, .ref (90 + 1 + j2)]) h1 R))
  : Ev G (d + 1) k n M_Bu_tabulate 66 [.ref 81, .int x1, .int x2, .int x3, .int x4] [] h R :=
  Ev.go (pc' := 71) (ls' := [.ref 81, .int x1, .int x2, .int x3, .int x4]) (st' := [.int (x1 + (1 : Int32)), .int x4]) [.iload 4, .iload_n 1, .iconst 1, .iadd] (by decide +kernel) rfl <|
  Ev.br (i := .if_icmp .gt (32)) (P := (x1 + (1 : Int32)) < x4) (t := 103) (f := 74) (r := []) (by decide +kernel) rfl (fun c1 =>
    Ev.go (pc' := 59) (ls' := [.ref 81, .int x1, .int x2, .int (x3 + (-1 : Int32)), .int x4]) (st' := []) [.iinc 3 (-1), .goto (-47)] (by decide +kernel) rfl <|
    Ev.forget (ls' := [.ref 81, .int x1, .int x2, .int (x3 + (-1 : Int32)), ev_unk]) ⟨Or.inr rfl, Or.inr rfl, Or.inr rfl, Or.inr rfl, Or.inl rfl, trivial⟩ <|
    (k1 c1)
  ) (fun c1 =>
    Ev.go (pc' := 75) (ls' := [.ref 81, .int x1, .int x2, .int x3, .int x4]) (st' := [.ref 81]) [.aload_n 0] (by decide +kernel) rfl <|
    Ev.getf f_Bu_24 (by decide +kernel) a1 rfl <|
    Ev.go (pc' := 79) (ls' := [.ref 81, .int x1, .int x2, .int x3, .int x4]) (st' := [.int x3, .ref 90]) [.iload_n 3] (by decide +kernel) rfl <|
    Ev.gald (j := j2) (b := 90 + 1 + j2) (by decide +kernel) a2 (i3 c1) (if_pos (show j2 < 6 from ((i3 c1)).2.1)) <|
    Ev.go (pc' := 88) (ls' := [.ref 81, .int x1, .int x2, .int x3, .int x4]) (st' := [.int x4, .int x3, .ref 81, .int x3, .ref 81, .int x4, .ref (90 + 1 + j2)]) [.iload 4, .aload_n 0, .iload_n 3, .aload_n 0, .iload_n 3, .iload 4] (by decide +kernel) rfl <|
    Ev.cV0 (M' := M_Bu_cheapestShare) (as := [.int x3, .int x4]) (rest := [.int x3, .ref 81, .int x4, .ref (90 + 1 + j2)]) l_Bu_69 M_Bu_cheapestShare_ok M_Bu_cheapestShare_in M_Bu_cheapestShare_se (by decide +kernel) ⟨_, a1⟩ rfl rfl rfl (Nat.le_of_ble_eq_true rfl) (Nat.le_of_ble_eq_true rfl) (k2 c1)
  )
theorem b_Bu_tabulate_91 {G : ev_G} {d k n : Nat} {h : ev_H} {R : Option Value → ev_H → Prop} {x1 : Int32} {x2 : Int32} {x3 : Int32} {x4 : Int32} {y0 : Nat} {y1 : Int32} {y3 : Int32} {y4 : Int32}
  (r1 : ∃ fs, hat h 81 (oC 0 fs))
  (k1 : Ev G d 0 0 M_Bu_costWith 0 [.ref 81, .int y3, .int y4, .int x4] [] h (fun r h1 => Ev G (d + 1) k n M_Bu_tabulate 96 [.ref 81, .int x1, .int x2, .int x3, .int x4] (r.toList ++ [.int y1, .ref y0]) h1 R))
  : Ev G (d + 1) k n M_Bu_tabulate 91 [.ref 81, .int x1, .int x2, .int x3, .int x4] [.int y4, .int y3, .ref 81, .int y1, .ref y0] h R :=
  Ev.go (pc' := 93) (ls' := [.ref 81, .int x1, .int x2, .int x3, .int x4]) (st' := [.int x4, .int y4, .int y3, .ref 81, .int y1, .ref y0]) [.iload 4] (by decide +kernel) rfl <|
  Ev.cV0 (M' := M_Bu_costWith) (as := [.int y3, .int y4, .int x4]) (rest := [.int y1, .ref y0]) l_Bu_73 M_Bu_costWith_ok M_Bu_costWith_in M_Bu_costWith_se (by decide +kernel) r1 rfl rfl rfl (Nat.le_of_ble_eq_true rfl) (Nat.le_of_ble_eq_true rfl) k1
theorem b_Bu_tabulate_96 {G : ev_G} {d k n : Nat} {h : ev_H} {R : Option Value → ev_H → Prop} {x1 : Int32} {x2 : Int32} {x3 : Int32} {x4 : Int32} {y0 : Nat} {y1 : Int32} {y2 : Int32} {g1 : Nat → Int32} {j2 : Nat}
  (a1 : hat h y0 (aI 50 g1))
  (i2 : ev_ix y1 j2 50)
  (k1 : Ev G (d + 1) k n M_Bu_tabulate 66 [.ref 81, .int x1, .int x2, .int x3, .int (x4 + (1 : Int32))] [] (hset h y0 (aI 50 (upd g1 j2 y2))) R)
  : Ev G (d + 1) k n M_Bu_tabulate 96 [.ref 81, .int x1, .int x2, .int x3, .int x4] [.int y2, .int y1, .ref y0] h R :=
  Ev.iast (j := j2) (by decide +kernel) a1 i2 <| show Ev G (d + 1) _ _ M_Bu_tabulate 97 [.ref 81, .int x1, .int x2, .int x3, .int x4] [] (hset h y0 (aI 50 (upd g1 j2 y2))) R from
  Ev.go (pc' := 66) (ls' := [.ref 81, .int x1, .int x2, .int x3, .int (x4 + (1 : Int32))]) (st' := []) [.iinc 4 (1), .goto (-34)] (by decide +kernel) rfl <|
  k1
theorem b_Bu_choose_0 {G : ev_G} {d k n : Nat} {h : ev_H} {R : Option Value → ev_H → Prop} {x1 : Int32}
  (k1 : Ev G (d + 1) k n M_Bu_choose 9 [.ref 81, .int x1, .int (x1 + (1 : Int32)), .int (0 : Int32), .int (0 : Int32), ev_unk] [] h R)
  : Ev G (d + 1) k n M_Bu_choose 0 [.ref 81, .int x1, ev_unk, ev_unk, ev_unk, ev_unk] [] h R :=
  Ev.go (pc' := 9) (ls' := [.ref 81, .int x1, .int (x1 + (1 : Int32)), .int (0 : Int32), .int (0 : Int32), ev_unk]) (st' := []) [.iload_n 1, .iconst 1, .iadd, .istore_n 2, .iconst 0, .istore_n 3, .iconst 0, .istore 4] (by decide +kernel) rfl <|
  k1
theorem b_Bu_choose_9 {G : ev_G} {d k n : Nat} {h : ev_H} {R : Option Value → ev_H → Prop} {x1 : Int32} {x2 : Int32} {x3 : Int32} {x4 : Int32} {f_parts_1 : Int32} {g2 : Nat → Int32} {j3 : Nat} {g4 : Nat → Int32} {j5 : Nat}
  (a1 : hat h 81 (oC 0 [.ref 82, .int f_parts_1, .ref 83, .ref 90, .ref 97]))
  (a2 : hat h 97 (aI 6 g2))
  (a4 : hat h 90 (aG 6 (fun i => if i < 6 then some (90 + 1 + i) else none)))
  (a5 : hat h (90 + 1 + j3) (aI 50 g4))
  (i3 : ¬ (x4 + (1 : Int32)) < f_parts_1 → ev_ix (f_parts_1 - (1 : Int32)) j3 6)
  (e6 : ¬ (x4 + (1 : Int32)) < f_parts_1 → (90 + 1 + j3) ≠ 97)
  (i7 : ¬ (x4 + (1 : Int32)) < f_parts_1 → ev_ix x2 j5 50)
  (k1 : (x4 + (1 : Int32)) < f_parts_1 → Ev G d 0 0 M_Bu_cheapestShare 0 [.ref 81, .int x4, .int x2, ev_unk, ev_unk, ev_unk, ev_unk] [] h (fun r h1 => Ev G (d + 1) k n M_Bu_choose 27 [.ref 81, .int x1, .int x2, .int x3, .int x4, ev_unk] (r.toList ++ []) h1 R))
  (k2 : ¬ (x4 + (1 : Int32)) < f_parts_1 → R (some (.int (x3 + (g4 j5)))) (hset h 97 (aI 6 (upd g2 j3 (x2 - (1 : Int32))))))
  : Ev G (d + 1) k n M_Bu_choose 9 [.ref 81, .int x1, .int x2, .int x3, .int x4, ev_unk] [] h R :=
  Ev.go (pc' := 14) (ls' := [.ref 81, .int x1, .int x2, .int x3, .int x4, ev_unk]) (st' := [.ref 81, .int (x4 + (1 : Int32))]) [.iload 4, .iconst 1, .iadd, .aload_n 0] (by decide +kernel) rfl <|
  Ev.getf f_Bu_15 (by decide +kernel) a1 rfl <|
  Ev.br (i := .if_icmp .ge (47)) (P := (x4 + (1 : Int32)) < f_parts_1) (t := 20) (f := 64) (r := []) (by decide +kernel) rfl (fun c1 =>
    Ev.go (pc' := 24) (ls' := [.ref 81, .int x1, .int x2, .int x3, .int x4, ev_unk]) (st' := [.int x2, .int x4, .ref 81]) [.aload_n 0, .iload 4, .iload_n 2] (by decide +kernel) rfl <|
    Ev.cV0 (M' := M_Bu_cheapestShare) (as := [.int x4, .int x2]) (rest := []) l_Bu_69 M_Bu_cheapestShare_ok M_Bu_cheapestShare_in M_Bu_cheapestShare_se (by decide +kernel) ⟨_, a1⟩ rfl rfl rfl (Nat.le_of_ble_eq_true rfl) (Nat.le_of_ble_eq_true rfl) (k1 c1)
  ) (fun c1 =>
    Ev.go (pc' := 65) (ls' := [.ref 81, .int x1, .int x2, .int x3, .int x4, ev_unk]) (st' := [.ref 81]) [.aload_n 0] (by decide +kernel) rfl <|
    Ev.getf f_Bu_27 (by decide +kernel) a1 rfl <|
    Ev.go (pc' := 69) (ls' := [.ref 81, .int x1, .int x2, .int x3, .int x4, ev_unk]) (st' := [.ref 81, .ref 97]) [.aload_n 0] (by decide +kernel) rfl <|
    Ev.getf f_Bu_15 (by decide +kernel) a1 rfl <|
    Ev.go (pc' := 77) (ls' := [.ref 81, .int x1, .int x2, .int x3, .int x4, ev_unk]) (st' := [.int (x2 - (1 : Int32)), .int (f_parts_1 - (1 : Int32)), .ref 97]) [.iconst 1, .isub, .iload_n 2, .iconst 1, .isub] (by decide +kernel) rfl <|
    Ev.iast (j := j3) (by decide +kernel) a2 (i3 c1) <| show Ev G (d + 1) _ _ M_Bu_choose 78 [.ref 81, .int x1, .int x2, .int x3, .int x4, ev_unk] [] (hset h 97 (aI 6 (upd g2 j3 (x2 - (1 : Int32))))) R from
    Ev.go (pc' := 80) (ls' := [.ref 81, .int x1, .int x2, .int x3, .int x4, ev_unk]) (st' := [.ref 81, .int x3]) [.iload_n 3, .aload_n 0] (by decide +kernel) rfl <|
    Ev.getf f_Bu_24 (by decide +kernel) (hat_ne a1 (by decide)) rfl <|
    Ev.go (pc' := 84) (ls' := [.ref 81, .int x1, .int x2, .int x3, .int x4, ev_unk]) (st' := [.ref 81, .ref 90, .int x3]) [.aload_n 0] (by decide +kernel) rfl <|
    Ev.getf f_Bu_15 (by decide +kernel) (hat_ne a1 (by decide)) rfl <|
    Ev.go (pc' := 89) (ls' := [.ref 81, .int x1, .int x2, .int x3, .int x4, ev_unk]) (st' := [.int (f_parts_1 - (1 : Int32)), .ref 90, .int x3]) [.iconst 1, .isub] (by decide +kernel) rfl <|
    Ev.gald (j := j3) (b := 90 + 1 + j3) (by decide +kernel) (hat_ne a4 (by decide)) (i3 c1) (if_pos (show j3 < 6 from ((i3 c1)).2.1)) <|
    Ev.go (pc' := 91) (ls' := [.ref 81, .int x1, .int x2, .int x3, .int x4, ev_unk]) (st' := [.int x2, .ref (90 + 1 + j3), .int x3]) [.iload_n 2] (by decide +kernel) rfl <|
    Ev.iald (j := j5) (by decide +kernel) (hat_ne a5 (e6 c1)) (i7 c1) <|
    Ev.go (pc' := 93) (ls' := [.ref 81, .int x1, .int x2, .int x3, .int x4, ev_unk]) (st' := [.int (x3 + (g4 j5))]) [.iadd] (by decide +kernel) rfl <|
    Ev.ret (r := (some (.int (x3 + (g4 j5))))) (Or.inl ⟨_, rfl, by decide +kernel, _, rfl, rfl⟩) (k2 c1)
  )
theorem b_Bu_choose_27 {G : ev_G} {d k n : Nat} {h : ev_H} {R : Option Value → ev_H → Prop} {x1 : Int32} {x2 : Int32} {x3 : Int32} {x4 : Int32} {y0 : Int32} {f_parts_1 : Int32} {g2 : Nat → Int32} {j3 : Nat} {g4 : Nat → Int32} {j5 : Nat}
  (a1 : hat h 81 (oC 0 [.ref 82, .int f_parts_1, .ref 83, .ref 90, .ref 97]))
  (a2 : hat h 97 (aI 6 g2))
  (a4 : hat h 83 (aG 6 (fun i => if i < 6 then some (83 + 1 + i) else none)))
  (a5 : hat h (83 + 1 + j3) (aI 26 g4))
  (i3 : ev_ix x4 j3 6)
  (e6 : (83 + 1 + j3) ≠ 97)
  (i7 : ev_ix y0 j5 26)
  (k1 : Ev G (d + 1) k n M_Bu_choose 9 [.ref 81, .int x1, .int (x2 - y0), .int (x3 + (g4 j5)), .int (x4 + (1 : Int32)), ev_unk] [] (hset h 97 (aI 6 (upd g2 j3 (y0 - (1 : Int32))))) R)
  : Ev G (d + 1) k n M_Bu_choose 27 [.ref 81, .int x1, .int x2, .int x3, .int x4, ev_unk] [.int y0] h R :=
  Ev.go (pc' := 30) (ls' := [.ref 81, .int x1, .int x2, .int x3, .int x4, .int y0]) (st' := [.ref 81]) [.istore 5, .aload_n 0] (by decide +kernel) rfl <|
  Ev.getf f_Bu_27 (by decide +kernel) a1 rfl <|
  Ev.go (pc' := 39) (ls' := [.ref 81, .int x1, .int x2, .int x3, .int x4, .int y0]) (st' := [.int (y0 - (1 : Int32)), .int x4, .ref 97]) [.iload 4, .iload 5, .iconst 1, .isub] (by decide +kernel) rfl <|
  Ev.iast (j := j3) (by decide +kernel) a2 i3 <| show Ev G (d + 1) _ _ M_Bu_choose 40 [.ref 81, .int x1, .int x2, .int x3, .int x4, .int y0] [] (hset h 97 (aI 6 (upd g2 j3 (y0 - (1 : Int32))))) R from
  Ev.go (pc' := 42) (ls' := [.ref 81, .int x1, .int x2, .int x3, .int x4, .int y0]) (st' := [.ref 81, .int x3]) [.iload_n 3, .aload_n 0] (by decide +kernel) rfl <|
  Ev.getf f_Bu_21 (by decide +kernel) (hat_ne a1 (by decide)) rfl <|
  Ev.go (pc' := 47) (ls' := [.ref 81, .int x1, .int x2, .int x3, .int x4, .int y0]) (st' := [.int x4, .ref 83, .int x3]) [.iload 4] (by decide +kernel) rfl <|
  Ev.gald (j := j3) (b := 83 + 1 + j3) (by decide +kernel) (hat_ne a4 (by decide)) i3 (if_pos (show j3 < 6 from (i3).2.1)) <|
  Ev.go (pc' := 50) (ls' := [.ref 81, .int x1, .int x2, .int x3, .int x4, .int y0]) (st' := [.int y0, .ref (83 + 1 + j3), .int x3]) [.iload 5] (by decide +kernel) rfl <|
  Ev.iald (j := j5) (by decide +kernel) (hat_ne a5 e6) i7 <|
  Ev.go (pc' := 9) (ls' := [.ref 81, .int x1, .int (x2 - y0), .int (x3 + (g4 j5)), .int (x4 + (1 : Int32)), .int y0]) (st' := []) [.iadd, .istore_n 3, .iload_n 2, .iload 5, .isub, .istore_n 2, .iinc 4 (1), .goto (-52)] (by decide +kernel) rfl <|
  Ev.forget (ls' := [.ref 81, .int x1, .int (x2 - y0), .int (x3 + (g4 j5)), .int (x4 + (1 : Int32)), ev_unk]) ⟨Or.inr rfl, Or.inr rfl, Or.inr rfl, Or.inr rfl, Or.inr rfl, Or.inl rfl, trivial⟩ <|
  k1
section S19
variable {G : ev_G} {d : Nat} {h : ev_H} {R : Option Value → ev_H → Prop} {S : AS}
variable {P : Nat} {W : Nat → Nat} {c : Nat → Nat → Nat} {kc r lo : Nat}
theorem BuP.obj (B : BuP h P W c kc r lo) : ∃ fs, hat h 81 (oC 0 fs) := ⟨_, B.2.2.2.1⟩
/-- one row of least costs is filled up to m -/
def BuQ (h : ev_H) (P : Nat) (W : Nat → Nat) (c : Nat → Nat → Nat) (kc r lo i m : Nat) : Prop := BuP h P W c kc r lo ∧ ∃ g, hat h (90 + 1 + i) (aI 50 g) ∧ ∀ s, s < m → g s = nI (bLp c W P i s)
theorem BuQ.put {i m : Nat} (Q : BuQ h P W c kc r (i + 1) i m) (hi : i < P) {g : Nat → Int32} (hg : hat h (90 + 1 + i) (aI 50 g)) {x : Int32} (hx : x = nI (bLp c W P i m)) : BuQ (hset h (90 + 1 + i) (aI 50 (upd g m x))) P W c kc r (i + 1) i (m + 1) := by
  obtain ⟨⟨b1, b2, b3, b4, ⟨brf, b5, b5'⟩, b6, b7, b8, b9, ch, b10⟩, g0, t0, v0⟩ := Q
  have eg : g0 = g := by
    have := t0.2.symm.trans hg.2
    exact aI_inj this
  subst eg
  have K := (Kp.refl h (90 + 1 + i) (90 + 1 + i + 1)).set (k := 90 + 1 + i) (aI 50 (upd g0 m x)) (by omega) (by omega)
  refine ⟨⟨b1, b2, b3, K.hat b4 (by omega), ⟨brf, K.hat b5 (by omega), b5'⟩, K.hat b6 (by omega), K.hat b7 (by omega), fun j hj => ?_, fun j hj => ?_, ch, K.hat b10 (by omega)⟩, _, ⟨t0.1, hset_eq _ _ _⟩, fun s hs => ?_⟩
  · obtain ⟨g, t, v⟩ := b8 j hj; exact ⟨g, K.hat t (by omega), v⟩
  · by_cases e : j = i
    · subst e; exact ⟨_, ⟨t0.1, hset_eq _ _ _⟩, fun q => absurd q (by omega)⟩
    · obtain ⟨g, t, v⟩ := b9 j hj; exact ⟨g, K.hat t (by omega), v⟩
  · by_cases e : s = m
    · subst e; simp only [upd, if_true]; exact hx
    · simp only [upd, if_neg e]; exact v0 s (by omega)
theorem BuQ.full {i : Nat} (Q : BuQ h P W c kc r (i + 1) i (r + 2)) : BuP h P W c kc r i := by
  obtain ⟨⟨b1, b2, b3, b4, b5, b6, b7, b8, b9, b10⟩, g0, t0, v0⟩ := Q
  refine ⟨b1, b2, b3, b4, b5, b6, b7, b8, fun j hj => ?_, b10⟩
  by_cases e : j = i
  · subst e; exact ⟨g0, t0, fun _ _ s hs => v0 s (by omega)⟩
  · obtain ⟨g, t, v⟩ := b9 j hj; exact ⟨g, t, fun q => v (by omega)⟩
theorem BuQ.start {i : Nat} (B : BuP h P W c kc r (i + 1)) (hi : i < 6) : BuQ h P W c kc r (i + 1) i 0 := by
  obtain ⟨g, t, v⟩ := B.2.2.2.2.2.2.2.2.1 i hi
  exact ⟨B, g, t, fun s q => absurd q (Nat.not_lt_zero s)⟩
theorem s_Bu_tabulate {rI : Int32} (B : BuP h P W c P r P) (hc : cOk c P) (hr : rI = nI r ∧ r ≤ 48) (hR : ∀ h', Kp h h' 91 97 → BuP h' P W c P r 1 → BuP h' P W c P r (min 1 (P - 1)) → R none h') : Ev G (d + 2) 0 0 M_Bu_tabulate 0 [.ref 81, .int rI, ev_unk, ev_unk, ev_unk] [] h R := by
  obtain ⟨rfl, hr⟩ := hr
  have b1 := B.1
  have b2 := B.2.1
  refine b_Bu_tabulate_0 B.2.2.2.1 ?_
  rw [show nI P - 1 = nI (P - 1) from nI_sub (b := 1) b1]
  -- the other rows
  have L2 : ∀ i, i + 1 < P → ∀ h', Kp h h' 91 97 → BuP h' P W c P r (i + 1) → (i = 0 → BuP h' P W c P r (min 1 (P - 1))) → Ev G (d + 2) 0 0 M_Bu_tabulate 59 [.ref 81, .int (nI r), .int (nI (P - 1)), .int (nI i), ev_unk] [] h' R := by
    intro i
    induction i with
    | zero =>
      intro hi h' K B' q
      exact b_Bu_tabulate_59 (fun z => absurd z (by decide)) (fun _ => hR h' K B' (q rfl))
    | succ i ih =>
      intro hi h' K B' _
      have pos : (0 : Int32) < nI (i + 1) := nI_lt (a := 0) (by omega) (by omega)
      refine b_Bu_tabulate_59 (fun _ => ?_) (fun z => absurd pos z)
      have L3 := up0 (P := fun m => ∀ h', Kp h h' 91 97 → BuQ h' P W c P r (i + 1 + 1) (i + 1) m → Ev G (d + 2) 0 0 M_Bu_tabulate 66 [.ref 81, .int (nI r), .int (nI (P - 1)), .int (nI (i + 1)), .int (nI m)] [] h' R) (r + 2) ?_ ?_
      · exact L3 h' K (BuQ.start B' (by omega))
      · intro m hm ih2 h' K Q
        have no : ¬ nI r + 1 < nI m := by rw [nI_1]; exact nI_nlt (by omega) (by omega)
        refine b_Bu_tabulate_66 (j2 := i + 1) Q.1.2.2.2.1 Q.1.2.2.2.2.2.2.1 (fun _ => ixn (by omega) (by decide)) (fun q => absurd q no) (fun _ => ?_)
        refine s_Bu_cheapestShare Q.1 hc ⟨rfl, by omega, by omega, by omega⟩ ⟨rfl, by omega⟩ hr ?_
        have hb := bst_le (bF c W P (i + 1) m) (min m (W (i + 1) + 1))
        refine b_Bu_tabulate_91 (y3 := nI (i + 1)) (y1 := nI m) (y0 := 90 + 1 + (i + 1)) Q.1.obj (s_Bu_costWith Q.1 ⟨rfl, by omega, by omega, by omega⟩ ⟨rfl, by unfold bSh; omega, by unfold bSh; omega⟩ ⟨rfl, by omega⟩ hr ?_)
        obtain ⟨g, t, v⟩ := Q.2
        refine b_Bu_tabulate_96 (j2 := m) t (ixn (by omega) (by decide)) ?_
        rw [nI_1]
        refine ih2 _ (K.set _ (by omega) (by omega)) (BuQ.put Q (by omega) t ?_)
        rw [bLp_step (by omega)]
      · intro h' K Q
        have yes : nI r + 1 < nI (r + 2) := by rw [nI_1]; exact nI_lt (by omega) (by omega)
        refine b_Bu_tabulate_66 (j2 := 0) Q.1.2.2.2.1 Q.1.2.2.2.2.2.2.1 (fun q => absurd yes q) (fun _ => ?_) (fun q => absurd yes q)
        rw [nI_dec]
        exact ih (by omega) h' K Q.full (fun e => by subst e; rw [Nat.min_eq_left (by omega)]; exact Q.full)
  -- the last row
  have L1 := up0 (P := fun m => ∀ h', Kp h h' 91 97 → BuQ h' P W c P r (P - 1 + 1) (P - 1) m → Ev G (d + 2) 0 0 M_Bu_tabulate 9 [.ref 81, .int (nI r), .int (nI (P - 1)), .int (nI m), ev_unk] [] h' R) (r + 2) ?_ ?_
  · exact L1 h (Kp.refl _ _ _) (BuQ.start (by rw [Nat.sub_add_cancel b1]; exact B) (by omega))
  · intro m hm ih h' K Q
    have no : ¬ nI r + 1 < nI m := by rw [nI_1]; exact nI_nlt (by omega) (by omega)
    have Q0 := Q
    obtain ⟨⟨_, _, c3, c4, ⟨brf, c5, c5'⟩, c6, c7, c8, c9, ch, c10⟩, g, t, v⟩ := Q
    obtain ⟨gc, tc, vc⟩ := c8 (P - 1) (by omega)
    have hw := c3 (P - 1) (by omega)
    have ew : brf (P - 1) + 1 = nI (W (P - 1) + 1) := by rw [c5' _ (by omega), nI_1]
    refine b_Bu_tabulate_9 (j2 := P - 1) (j5 := m) c4 c7 c5 t c6 tc (fun _ => ixn (by omega) (by decide)) (fun _ _ => ixn (by omega) (by decide)) (fun _ _ => by omega) (fun _ _ => by omega) (fun _ _ => by omega) (fun _ _ => ixn (by omega) (by decide)) (fun _ q => ?_) (fun _ _ => ixn (by omega) (by decide)) (fun _ _ => by omega) (fun _ _ => by omega) (fun _ _ => by omega) (fun _ _ => by omega) (fun _ _ => by omega) (fun q => absurd q no) (fun _ q => ?_) (fun _ q => ?_)
    · rw [ew] at q
      have q : m ≤ W (P - 1) + 1 := Nat.le_of_not_lt fun z => q (nI_lt z (by omega))
      exact ixn (by omega) (by decide)
    · rw [ew] at q
      have q := (nI_ltI (by omega) (by omega)).mp q
      rw [nI_1]
      refine ih _ (K.set _ (by omega) (by omega)) (BuQ.put Q0 (by omega) t ?_)
      rw [bLp_last, if_neg (by omega)]; rfl
    · rw [ew] at q
      have q : m ≤ W (P - 1) + 1 := Nat.le_of_not_lt fun z => q (nI_lt z (by omega))
      rw [nI_1]
      refine ih _ (K.set _ (by omega) (by omega)) (BuQ.put Q0 (by omega) t ?_)
      rw [bLp_last, if_pos q]; exact vc (by omega) m q
  · intro h' K Q
    have yes : nI r + 1 < nI (r + 2) := by rw [nI_1]; exact nI_lt (by omega) (by omega)
    have Q0 := Q
    obtain ⟨⟨_, _, c3, c4, ⟨brf, c5, c5'⟩, c6, c7, c8, c9, ch, c10⟩, g, t, v⟩ := Q
    obtain ⟨gc, tc, vc⟩ := c8 (P - 1) (by omega)
    refine b_Bu_tabulate_9 (j2 := P - 1) (j5 := 0) c4 c7 c5 t c6 tc (fun q => absurd yes q) (fun q => absurd yes q) (fun q => absurd yes q) (fun q => absurd yes q) (fun q => absurd yes q) (fun q => absurd yes q) (fun q => absurd yes q) (fun q => absurd yes q) (fun q => absurd yes q) (fun q => absurd yes q) (fun q => absurd yes q) (fun q => absurd yes q) (fun q => absurd yes q) (fun _ => ?_) (fun q => absurd yes q) (fun q => absurd yes q)
    have F := Q0.full
    by_cases e : P = 1
    · have e2 : nI (P - 1) - 1 = (-1 : Int32) := by rw [e]; rfl
      rw [e2]
      refine b_Bu_tabulate_59 (fun z => absurd z (by decide)) (fun _ => hR h' K ?_ ?_)
      · have := Q0.1; rw [e] at this ⊢; exact this
      · rw [e] at F ⊢; exact F
    · rw [show nI (P - 1) - 1 = nI (P - 1 - 1) from nI_sub (b := 1) (by omega)]
      refine L2 (P - 1 - 1) (by omega) h' K (by rw [show P - 1 - 1 + 1 = P - 1 by omega]; exact F) fun z => ?_
      rw [show min 1 (P - 1) = P - 1 by omega]; exact F
/-- the budgets that are chosen -/
def BuC (h : ev_H) (P : Nat) (sh : Nat → Nat) (m : Nat) : Prop := ∃ ch, hat h 97 (aI 6 ch) ∧ ∀ i, i < m → ch i = nI (sh i) - 1
theorem s_Bu_choose {rI : Int32} (B1 : BuP h P W c P r 1) (B2 : BuP h P W c P r (min 1 (P - 1))) (hc : cOk c P) (hr : rI = nI r ∧ r ≤ 48) (hR : ∀ h', Kp h h' 97 98 → BuP h' P W c P r 1 → BuC h' P (bShr c W P r) P → R (some (.int (nI (bLp c W P 0 (r + 1))))) h') : Ev G (d + 2) 0 0 M_Bu_choose 0 [.ref 81, .int rI, ev_unk, ev_unk, ev_unk, ev_unk] [] h R := by
  obtain ⟨rfl, hr⟩ := hr
  have b1 := B1.1
  have b2 := B1.2.1
  have b3 := B1.2.2.1
  refine b_Bu_choose_0 ?_
  rw [nI_1]
  have B3 : BuP h P W c P r (P - 1) := by
    by_cases e : P = 1
    · rw [e] at B2 ⊢; exact B2
    · obtain ⟨x1, x2, x3, x4, x5, x6, x7, x8, x9, x10⟩ := B1
      refine ⟨x1, x2, x3, x4, x5, x6, x7, x8, fun i hi => ?_, x10⟩
      obtain ⟨g, t, v⟩ := x9 i hi
      exact ⟨g, t, fun q => v (by omega)⟩
  have L := up0 (P := fun i => ∀ h' cst, Kp h h' 97 98 → BuC h' P (bShr c W P r) i → cst + bLp c W P i (bLf c W P r i) = bLp c W P 0 (r + 1) → Ev G (d + 2) 0 0 M_Bu_choose 9 [.ref 81, .int (nI r), .int (nI (bLf c W P r i)), .int (nI cst), .int (nI i), ev_unk] [] h' R) (P - 1) ?_ ?_
  · refine L h 0 (Kp.refl _ _ _) ?_ (Nat.zero_add _)
    obtain ⟨ch, x⟩ := B1.2.2.2.2.2.2.2.2.2
    exact ⟨ch, x, fun i q => absurd q (Nat.not_lt_zero i)⟩
  · intro i hi ih h' cst K C e
    have B' : BuP h' P W c P r 1 := by
      obtain ⟨x1, x2, x3, x4, ⟨brf, x5, x5'⟩, x6, x7, x8, x9, ch, x10⟩ := B1
      obtain ⟨ch', y, _⟩ := C
      refine ⟨x1, x2, x3, K.hat x4 (by omega), ⟨brf, K.hat x5 (by omega), x5'⟩, K.hat x6 (by omega), K.hat x7 (by omega), fun j hj => ?_, fun j hj => ?_, ch', y⟩
      · obtain ⟨g, t, v⟩ := x8 j hj; exact ⟨g, K.hat t (by omega), v⟩
      · obtain ⟨g, t, v⟩ := x9 j hj; exact ⟨g, K.hat t (by omega), v⟩
    have yes : nI i + 1 < nI P := by rw [nI_1]; exact nI_lt (by omega) (by omega)
    obtain ⟨ch, y, z⟩ := C
    obtain ⟨gl, tl, vl⟩ := B'.2.2.2.2.2.2.2.2.1 0 (by omega)
    refine b_Bu_choose_9 (j3 := 0) (j5 := 0) B'.2.2.2.1 y B'.2.2.2.2.2.2.1 tl (fun q => absurd yes q) (fun q => absurd yes q) (fun q => absurd yes q) (fun _ => ?_) (fun q => absurd yes q)
    have hlf := bLf_le c W P r i
    refine s_Bu_cheapestShare B' hc ⟨rfl, by omega, by omega, by omega⟩ ⟨rfl, hlf⟩ hr ?_
    obtain ⟨gc, tc, vc⟩ := B'.2.2.2.2.2.2.2.1 i (by omega)
    have hb := bst_le (bF c W P i (bLf c W P r i)) (min (bLf c W P r i) (W i + 1))
    have hw := b3 i (by omega)
    have hsh : bSh c W P i (bLf c W P r i) ≤ bLf c W P r i ∧ bSh c W P i (bLf c W P r i) ≤ W i + 1 := by unfold bSh; omega
    refine b_Bu_choose_27 (j3 := i) (j5 := bSh c W P i (bLf c W P r i)) B'.2.2.2.1 y B'.2.2.2.2.2.1 tc (ixn (by omega) (by decide)) (by omega) (ixn (by omega) (by decide)) ?_
    rw [vc (by omega) _ hsh.2, nI_add, nI_1, nI_sub hsh.1]
    refine ih _ _ (K.set _ (by omega) (by omega)) ⟨_, ⟨y.1, hset_eq _ _ _⟩, fun j hj => ?_⟩ ?_
    · by_cases ej : j = i
      · subst ej; simp only [upd, if_true]; unfold bShr; rw [if_neg (by omega)]
      · simp only [upd, if_neg ej]; exact z j (by omega)
    · rw [bLp_step (by omega)] at e
      unfold bF at e
      show cst + c i _ + bLp c W P (i + 1) (bLf c W P r i - bSh c W P i (bLf c W P r i)) = _
      omega
  · intro h' cst K C e
    have no : ¬ nI (P - 1) + 1 < nI P := by rw [nI_1, Nat.sub_add_cancel b1]; exact nl_self (by omega)
    obtain ⟨ch, y, z⟩ := C
    have B' : BuP h' P W c P r (P - 1) := by
      obtain ⟨x1, x2, x3, x4, ⟨brf, x5, x5'⟩, x6, x7, x8, x9, ch0, x10⟩ := B3
      refine ⟨x1, x2, x3, K.hat x4 (by omega), ⟨brf, K.hat x5 (by omega), x5'⟩, K.hat x6 (by omega), K.hat x7 (by omega), fun j hj => ?_, fun j hj => ?_, ch, y⟩
      · obtain ⟨g, t, v⟩ := x8 j hj; exact ⟨g, K.hat t (by omega), v⟩
      · obtain ⟨g, t, v⟩ := x9 j hj; exact ⟨g, K.hat t (by omega), v⟩
    obtain ⟨gl, tl, vl⟩ := B'.2.2.2.2.2.2.2.2.1 (P - 1) (by omega)
    have hlf := bLf_le c W P r (P - 1)
    refine b_Bu_choose_9 (j3 := P - 1) (j5 := bLf c W P r (P - 1)) B'.2.2.2.1 y B'.2.2.2.2.2.2.1 tl (fun _ => by rw [show nI P - 1 = nI (P - 1) from nI_sub (b := 1) b1]; exact ixn (by omega) (by decide)) (fun _ => by omega) (fun _ => ixn (by omega) (by decide)) (fun q => absurd q no) (fun _ => ?_)
    rw [vl (Nat.le_refl _) (by omega) _ hlf, nI_add, e]
    have K2 := (Kp.refl h' 97 98).set (k := 97) (aI 6 (upd ch (P - 1) (nI (bLf c W P r (P - 1)) - 1))) (by omega) (by omega)
    refine hR _ (K.trans K2) ?_ ⟨_, ⟨y.1, hset_eq _ _ _⟩, fun j hj => ?_⟩
    · obtain ⟨x1, x2, x3, x4, ⟨brf, x5, x5'⟩, x6, x7, x8, x9, ch0, x10⟩ := B1
      have K3 := K.trans K2
      refine ⟨x1, x2, x3, K3.hat x4 (by omega), ⟨brf, K3.hat x5 (by omega), x5'⟩, K3.hat x6 (by omega), K3.hat x7 (by omega), fun j hj => ?_, fun j hj => ?_, _, ⟨y.1, hset_eq _ _ _⟩⟩
      · obtain ⟨g, t, v⟩ := x8 j hj; exact ⟨g, K3.hat t (by omega), v⟩
      · obtain ⟨g, t, v⟩ := x9 j hj; exact ⟨g, K3.hat t (by omega), v⟩
    · by_cases ej : j = P - 1
      · subst ej; simp only [upd, if_true]; unfold bShr; rw [if_pos (by omega)]
      · simp only [upd, if_neg ej]; exact z j (by omega)
end S19
end
section
/-! WEIGHING and CANDIDATES -/
/-- how many of w bits from st on are set -/
def farN (y : Int64) (st w : Nat) : Nat := cnt (fun b => lt y (st + b)) w
theorem farN_le (y : Int64) (st w : Nat) : farN y st w ≤ w := cnt_le _ _
theorem lN_sub' {a b : Nat} (h : b ≤ a) : lN a - lN b = lN (a - b) := by
  rw [show lN a = lN (a - b) + lN b from by
    show Int64.ofNat a = Int64.ofNat (a - b) + Int64.ofNat b
    rw [← Int64.ofNat_add, Nat.sub_add_cancel h]]
  exact Int64.add_sub_cancel _ _
theorem mask_bit {w st k : Nat} (hw : w ≤ 48) (hs : st ≤ 48) (hk : k < 64) : lt ((((1 : Int64) <<< ((nI w).toInt64 &&& 63)) - (1 : Int64)) <<< ((nI st).toInt64 &&& 63)) k = (decide (st ≤ k) && decide (k - st < w)) := by
  rw [l_shl st (by omega) _ hk]
  have e : ((1 : Int64) <<< ((nI w).toInt64 &&& 63)) - (1 : Int64) = lN (2 ^ w - 1) := by
    rw [show (1 : Int64) = lN 1 from rfl, l_shN 1 (by omega), Nat.one_mul]
    exact lN_sub' Nat.one_le_two_pow
  have b : 2 ^ w ≤ 2 ^ 48 := Nat.pow_le_pow_right (by decide) hw
  rw [e, lt_lN _ _ (by omega), Nat.testBit_two_pow_sub_one]
theorem pop_mask (y : Int64) {w st : Nat} (hw : w ≤ 48) (hs : st ≤ 48) (h : st + w ≤ 64) : pop (y &&& ((((1 : Int64) <<< ((nI w).toInt64 &&& 63)) - (1 : Int64)) <<< ((nI st).toInt64 &&& 63))) = farN y st w := by
  unfold pop
  have e : cnt (lt (y &&& ((((1 : Int64) <<< ((nI w).toInt64 &&& 63)) - (1 : Int64)) <<< ((nI st).toInt64 &&& 63)))) 64 = cnt (fun k => lt y k && (decide (st ≤ k) && decide (k - st < w))) 64 := cnt_congr fun k hk => by rw [l_and, mask_bit hw hs hk]
  rw [e, show 64 = st + (w + (64 - st - w)) by omega, cnt_split, cnt_split]
  have z1 : cnt (fun k => lt y k && (decide (st ≤ k) && decide (k - st < w))) st = 0 := cnt_zero fun k hk => by rw [decide_eq_false (by omega : ¬ st ≤ k)]; simp
  have z2 : cnt (fun j => lt y (st + (w + j)) && (decide (st ≤ st + (w + j)) && decide (st + (w + j) - st < w))) (64 - st - w) = 0 := cnt_zero fun k hk => by rw [decide_eq_false (by omega : ¬ st + (w + k) - st < w)]; simp
  rw [z1, z2, Nat.zero_add, Nat.add_zero]
  exact cnt_congr fun k hk => by rw [decide_eq_true (by omega : st ≤ st + k), decide_eq_true (by omega : st + k - st < w)]; simp
/-- what a share of a part costs, among a set -/
def cstN (p : Nat → Bool) (co : Nat → Int64) (x : Int64) (W : Nat → Nat) (i s : Nat) : Nat := cnt (fun j => p j && decide (farN (co j ^^^ x) (sumT W i) (W i) + 1 ≤ s)) 32
theorem cstN_ok (p : Nat → Bool) (co : Nat → Int64) (x : Int64) (W : Nat → Nat) (P : Nat) : cOk (cstN p co x W) P := fun i _ => ⟨cnt_zero fun k _ => by rw [decide_eq_false (by omega)]; simp, fun s => cnt_le _ _⟩
theorem cnt_step (p : Nat → Bool) (f : Nat → Nat) (s : Nat) : ∀ n, cnt (fun j => p j && decide (f j ≤ s + 1)) n = cnt (fun j => p j && decide (f j ≤ s)) n + cnt (fun j => p j && decide (f j = s + 1)) n
  | 0 => rfl
  | n + 1 => by
    have ih := cnt_step p f s n
    show cnt _ n + (if p n && decide (f n ≤ s + 1) then 1 else 0) = (cnt _ n + if p n && decide (f n ≤ s) then 1 else 0) + (cnt _ n + if p n && decide (f n = s + 1) then 1 else 0)
    rw [ih]
    cases p n
    · simp
    · by_cases h1 : f n ≤ s
      · simp [h1, show f n ≤ s + 1 by omega, show ¬ f n = s + 1 by omega]; omega
      · by_cases h2 : f n = s + 1
        · simp [h2, show ¬ s + 1 ≤ s by omega]; omega
        · simp [h1, h2, show ¬ f n ≤ s + 1 by omega]
theorem BuP.row {h h' : ev_H} {P : Nat} {W : Nat → Nat} {c : Nat → Nat → Nat} {r lo i : Nat} {g : Nat → Int32} (B : BuP h P W c i r lo) (hi : i < 6) (K : Kp h h' (83 + 1 + i) (83 + 1 + i + 1)) (t : hat h' (83 + 1 + i) (aI 26 g)) : BuP h' P W c i r lo := by
  obtain ⟨b1, b2, b3, b4, ⟨brf, b5, b5'⟩, b6, b7, b8, b9, ch, b10⟩ := B
  refine ⟨b1, b2, b3, K.hat b4 (by omega), ⟨brf, K.hat b5 (by omega), b5'⟩, K.hat b6 (by omega), K.hat b7 (by omega), fun j hj => ?_, fun j hj => ?_, ch, K.hat b10 (by omega)⟩
  · by_cases e : j = i
    · subst e; exact ⟨g, t, fun q => absurd q (Nat.lt_irrefl j)⟩
    · obtain ⟨g, t, v⟩ := b8 j hj; exact ⟨g, K.hat t (by omega), v⟩
  · obtain ⟨g, t, v⟩ := b9 j hj; exact ⟨g, K.hat t (by omega), v⟩
theorem BuP.rowDone {h : ev_H} {P : Nat} {W : Nat → Nat} {c : Nat → Nat → Nat} {r lo i : Nat} {g : Nat → Int32} (B : BuP h P W c i r lo) (t : hat h (83 + 1 + i) (aI 26 g)) (v : ∀ s, s ≤ W i + 1 → g s = nI (c i s)) : BuP h P W c (i + 1) r lo := by
  obtain ⟨b1, b2, b3, b4, b5, b6, b7, b8, b9, b10⟩ := B
  refine ⟨b1, b2, b3, b4, b5, b6, b7, fun j hj => ?_, b9, b10⟩
  by_cases e : j = i
  · subst e; exact ⟨g, t, fun _ => v⟩
  · obtain ⟨g, t, v⟩ := b8 j hj; exact ⟨g, t, fun q => v (by omega)⟩
theorem b_Bu_weigh_0 {G : ev_G} {d k n : Nat} {h : ev_H} {R : Option Value → ev_H → Prop} {x1 : Nat} {x2 : Int32} {x3 : Int64}
  (k1 : Ev G (d + 1) k n M_Bu_weigh 6 [.ref 81, .ref x1, .int x2, .long x3, ev_unk, .int (0 : Int32), .int (0 : Int32), ev_unk, ev_unk, ev_unk, ev_unk] [] h R)
  : Ev G (d + 1) k n M_Bu_weigh 0 [.ref 81, .ref x1, .int x2, .long x3, ev_unk, ev_unk, ev_unk, ev_unk, ev_unk, ev_unk, ev_unk] [] h R :=
  Ev.go (pc' := 6) (ls' := [.ref 81, .ref x1, .int x2, .long x3, ev_unk, .int (0 : Int32), .int (0 : Int32), ev_unk, ev_unk, ev_unk, ev_unk]) (st' := []) [.iconst 0, .istore 5, .iconst 0, .istore 6] (by decide +kernel) rfl <|
  k1
theorem b_Bu_weigh_6 {G : ev_G} {d k n : Nat} {h : ev_H} {R : Option Value → ev_H → Prop} {x1 : Nat} {x2 : Int32} {x3 : Int64} {x5 : Int32} {x6 : Int32} {f_parts_1 : Int32} {g2 : Nat → Int32} {j3 : Nat}
  (a1 : hat h 81 (oC 0 [.ref 82, .int f_parts_1, .ref 83, .ref 90, .ref 97]))
  (a2 : hat h 82 (aI 6 g2))
  (a4 : hat h 83 (aG 6 (fun i => if i < 6 then some (83 + 1 + i) else none)))
  (i3 : x6 < f_parts_1 → ev_ix x6 j3 6)
  (k1 : x6 < f_parts_1 → Ev G d 0 0 M_JA_fill 0 [.ref (83 + 1 + j3), .int (0 : Int32), ev_unk, ev_unk] [] h (fun r h1 => Ev G (d + 1) k n M_Bu_weigh 46 [.ref 81, .ref x1, .int x2, .long x3, ev_unk, .int x5, .int x6, .long ((((1 : Int64) <<< ((g2 j3).toInt64 &&& 63)) - (1 : Int64)) <<< (x5.toInt64 &&& 63)), ev_unk, .ref (83 + 1 + j3), ev_unk] (r.toList ++ []) h1 R))
  (k2 : ¬ x6 < f_parts_1 → R none h)
  : Ev G (d + 1) k n M_Bu_weigh 6 [.ref 81, .ref x1, .int x2, .long x3, ev_unk, .int x5, .int x6, ev_unk, ev_unk, ev_unk, ev_unk] [] h R :=
  Ev.go (pc' := 9) (ls' := [.ref 81, .ref x1, .int x2, .long x3, ev_unk, .int x5, .int x6, ev_unk, ev_unk, ev_unk, ev_unk]) (st' := [.ref 81, .int x6]) [.iload 6, .aload_n 0] (by decide +kernel) rfl <|
  Ev.getf f_Bu_15 (by decide +kernel) a1 rfl <|
  Ev.br (i := .if_icmp .ge (130)) (P := x6 < f_parts_1) (t := 15) (f := 142) (r := []) (by decide +kernel) rfl (fun c1 =>
    Ev.go (pc' := 17) (ls' := [.ref 81, .ref x1, .int x2, .long x3, ev_unk, .int x5, .int x6, ev_unk, ev_unk, ev_unk, ev_unk]) (st' := [.ref 81, .long (1 : Int64)]) [.lconst 1, .aload_n 0] (by decide +kernel) rfl <|
    Ev.getf f_Bu_9 (by decide +kernel) a1 rfl <|
    Ev.go (pc' := 22) (ls' := [.ref 81, .ref x1, .int x2, .long x3, ev_unk, .int x5, .int x6, ev_unk, ev_unk, ev_unk, ev_unk]) (st' := [.int x6, .ref 82, .long (1 : Int64)]) [.iload 6] (by decide +kernel) rfl <|
    Ev.iald (j := j3) (by decide +kernel) a2 (i3 c1) <|
    Ev.go (pc' := 32) (ls' := [.ref 81, .ref x1, .int x2, .long x3, ev_unk, .int x5, .int x6, .long ((((1 : Int64) <<< ((g2 j3).toInt64 &&& 63)) - (1 : Int64)) <<< (x5.toInt64 &&& 63)), ev_unk, ev_unk, ev_unk]) (st' := [.ref 81]) [.lshl, .lconst 1, .lsub, .iload 5, .lshl, .lstore 7, .aload_n 0] (by decide +kernel) rfl <|
    Ev.getf f_Bu_21 (by decide +kernel) a1 rfl <|
    Ev.go (pc' := 37) (ls' := [.ref 81, .ref x1, .int x2, .long x3, ev_unk, .int x5, .int x6, .long ((((1 : Int64) <<< ((g2 j3).toInt64 &&& 63)) - (1 : Int64)) <<< (x5.toInt64 &&& 63)), ev_unk, ev_unk, ev_unk]) (st' := [.int x6, .ref 83]) [.iload 6] (by decide +kernel) rfl <|
    Ev.gald (j := j3) (b := 83 + 1 + j3) (by decide +kernel) a4 (i3 c1) (if_pos (show j3 < 6 from ((i3 c1)).2.1)) <|
    Ev.go (pc' := 43) (ls' := [.ref 81, .ref x1, .int x2, .long x3, ev_unk, .int x5, .int x6, .long ((((1 : Int64) <<< ((g2 j3).toInt64 &&& 63)) - (1 : Int64)) <<< (x5.toInt64 &&& 63)), ev_unk, .ref (83 + 1 + j3), ev_unk]) (st' := [.int (0 : Int32), .ref (83 + 1 + j3)]) [.astore 9, .aload 9, .iconst 0] (by decide +kernel) rfl <|
    Ev.cS0 (M' := M_JA_fill) (as := [.ref (83 + 1 + j3), .int (0 : Int32)]) (rest := []) l_Bu_52 M_JA_fill_ok M_JA_fill_st (by decide +kernel) rfl rfl (Nat.le_of_ble_eq_true rfl) (Nat.le_of_ble_eq_true rfl) (k1 c1)
  ) (fun c1 =>
    Ev.ret (r := none) (Or.inr (Or.inr (Or.inl ⟨rfl, by decide +kernel, rfl⟩))) (k2 c1)
  )
theorem b_Bu_weigh_46 {G : ev_G} {d k n : Nat} {h : ev_H} {R : Option Value → ev_H → Prop} {x1 : Nat} {x2 : Int32} {x3 : Int64} {x5 : Int32} {x6 : Int32} {x7 : Int64} {x9 : Nat}
  (k1 : Ev G (d + 1) k n M_Bu_weigh 49 [.ref 81, .ref x1, .int x2, .long x3, ev_unk, .int x5, .int x6, .long x7, ev_unk, .ref x9, .int (0 : Int32)] [] h R)
  : Ev G (d + 1) k n M_Bu_weigh 46 [.ref 81, .ref x1, .int x2, .long x3, ev_unk, .int x5, .int x6, .long x7, ev_unk, .ref x9, ev_unk] [] h R :=
  Ev.go (pc' := 49) (ls' := [.ref 81, .ref x1, .int x2, .long x3, ev_unk, .int x5, .int x6, .long x7, ev_unk, .ref x9, .int (0 : Int32)]) (st' := []) [.iconst 0, .istore 10] (by decide +kernel) rfl <|
  k1
theorem b_Bu_weigh_49 {G : ev_G} {d k n : Nat} {h : ev_H} {R : Option Value → ev_H → Prop} {x1 : Nat} {x2 : Int32} {x3 : Int64} {x5 : Int32} {x6 : Int32} {x7 : Int64} {x9 : Nat} {x10 : Int32} {g1 : Nat → Int64} {j2 : Nat} {g3 : Nat → Int32} {j4 : Nat}
  (a1 : hat h x1 (aL 32 g1))
  (a3 : hat h x9 (aI 26 g3))
  (i2 : x10 < (nI 32) → ¬ (b2i (inI x2 x10)) = (0 : Int32) → ev_ix x10 j2 32)
  (i4 : x10 < (nI 32) → ¬ (b2i (inI x2 x10)) = (0 : Int32) → ev_ix ((nI (pop (((g1 j2) ^^^ x3) &&& x7))) + (1 : Int32)) j4 26)
  (e5 : x10 < (nI 32) → ¬ (b2i (inI x2 x10)) = (0 : Int32) → x1 ≠ x9)
  (k1 : x10 < (nI 32) → (b2i (inI x2 x10)) = (0 : Int32) → Ev G (d + 1) k n M_Bu_weigh 49 [.ref 81, .ref x1, .int x2, .long x3, ev_unk, .int x5, .int x6, .long x7, ev_unk, .ref x9, .int (x10 + (1 : Int32))] [] h R)
  (k2 : x10 < (nI 32) → ¬ (b2i (inI x2 x10)) = (0 : Int32) → Ev G (d + 1) k n M_Bu_weigh 49 [.ref 81, .ref x1, .int x2, .long x3, ev_unk, .int x5, .int x6, .long x7, ev_unk, .ref x9, .int (x10 + (1 : Int32))] [] (hset h x9 (aI 26 (upd g3 j4 ((g3 j4) + (1 : Int32))))) R)
  (k3 : ¬ x10 < (nI 32) → Ev G (d + 1) k n M_Bu_weigh 95 [.ref 81, .ref x1, .int x2, .long x3, ev_unk, .int x5, .int x6, .long x7, ev_unk, .ref x9, .int (1 : Int32)] [] h R)
  : Ev G (d + 1) k n M_Bu_weigh 49 [.ref 81, .ref x1, .int x2, .long x3, ev_unk, .int x5, .int x6, .long x7, ev_unk, .ref x9, .int x10] [] h R :=
  Ev.go (pc' := 52) (ls' := [.ref 81, .ref x1, .int x2, .long x3, ev_unk, .int x5, .int x6, .long x7, ev_unk, .ref x9, .int x10]) (st' := [.ref x1, .int x10]) [.iload 10, .aload_n 1] (by decide +kernel) rfl <|
  Ev.alen (by decide +kernel) a1 (by decide) <|
  Ev.br (i := .if_icmp .ge (39)) (P := x10 < (nI 32)) (t := 56) (f := 92) (r := []) (by decide +kernel) rfl (fun c1 =>
    Ev.go (pc' := 59) (ls' := [.ref 81, .ref x1, .int x2, .long x3, ev_unk, .int x5, .int x6, .long x7, ev_unk, .ref x9, .int x10]) (st' := [.int x10, .int x2]) [.iload_n 2, .iload 10] (by decide +kernel) rfl <|
    Ev.cSN0 (M' := M_X_isIn) (as := [.int x2, .int x10]) (rest := []) l_Bu_58 M_X_isIn_ok M_X_isIn_st (by decide +kernel) rfl rfl (Nat.le_of_ble_eq_true rfl) (Nat.le_of_ble_eq_true rfl) (s_X_isIn <| show Ev G (d + 1) _ _ M_Bu_weigh 62 [.ref 81, .ref x1, .int x2, .long x3, ev_unk, .int x5, .int x6, .long x7, ev_unk, .ref x9, .int x10] [.int (b2i (inI x2 x10))] h R from
      Ev.br (i := .ifCond .eq (24)) (P := (b2i (inI x2 x10)) = (0 : Int32)) (t := 86) (f := 65) (r := []) (by decide +kernel) rfl (fun c2 =>
        Ev.go (pc' := 49) (ls' := [.ref 81, .ref x1, .int x2, .long x3, ev_unk, .int x5, .int x6, .long x7, ev_unk, .ref x9, .int (x10 + (1 : Int32))]) (st' := []) [.iinc 10 (1), .goto (-40)] (by decide +kernel) rfl <|
        (k1 c1 c2)
      ) (fun c2 =>
        Ev.go (pc' := 70) (ls' := [.ref 81, .ref x1, .int x2, .long x3, ev_unk, .int x5, .int x6, .long x7, ev_unk, .ref x9, .int x10]) (st' := [.int x10, .ref x1, .ref x9]) [.aload 9, .aload_n 1, .iload 10] (by decide +kernel) rfl <|
        Ev.lald (j := j2) (by decide +kernel) a1 (i2 c1 c2) <|
        Ev.go (pc' := 76) (ls' := [.ref 81, .ref x1, .int x2, .long x3, ev_unk, .int x5, .int x6, .long x7, ev_unk, .ref x9, .int x10]) (st' := [.long (((g1 j2) ^^^ x3) &&& x7), .ref x9]) [.lload_n 3, .lxor, .lload 7, .land] (by decide +kernel) rfl <|
        Ev.cS0 (M' := M_JL_bitCount) (as := [.long (((g1 j2) ^^^ x3) &&& x7)]) (rest := [.ref x9]) l_Bu_62 M_JL_bitCount_ok M_JL_bitCount_st (by decide +kernel) rfl rfl (Nat.le_of_ble_eq_true rfl) (Nat.le_of_ble_eq_true rfl) (s_JL_bitCount <| show Ev G (d + 1) _ _ M_Bu_weigh 79 [.ref 81, .ref x1, .int x2, .long x3, ev_unk, .int x5, .int x6, .long x7, ev_unk, .ref x9, .int x10] [.int (nI (pop (((g1 j2) ^^^ x3) &&& x7))), .ref x9] h R from
          Ev.go (pc' := 82) (ls' := [.ref 81, .ref x1, .int x2, .long x3, ev_unk, .int x5, .int x6, .long x7, ev_unk, .ref x9, .int x10]) (st' := [.int ((nI (pop (((g1 j2) ^^^ x3) &&& x7))) + (1 : Int32)), .ref x9, .int ((nI (pop (((g1 j2) ^^^ x3) &&& x7))) + (1 : Int32)), .ref x9]) [.iconst 1, .iadd, .dup2] (by decide +kernel) rfl <|
          Ev.iald (j := j4) (by decide +kernel) a3 (i4 c1 c2) <|
          Ev.go (pc' := 85) (ls' := [.ref 81, .ref x1, .int x2, .long x3, ev_unk, .int x5, .int x6, .long x7, ev_unk, .ref x9, .int x10]) (st' := [.int ((g3 j4) + (1 : Int32)), .int ((nI (pop (((g1 j2) ^^^ x3) &&& x7))) + (1 : Int32)), .ref x9]) [.iconst 1, .iadd] (by decide +kernel) rfl <|
          Ev.iast (j := j4) (by decide +kernel) a3 (i4 c1 c2) <| show Ev G (d + 1) _ _ M_Bu_weigh 86 [.ref 81, .ref x1, .int x2, .long x3, ev_unk, .int x5, .int x6, .long x7, ev_unk, .ref x9, .int x10] [] (hset h x9 (aI 26 (upd g3 j4 ((g3 j4) + (1 : Int32))))) R from
          Ev.go (pc' := 49) (ls' := [.ref 81, .ref x1, .int x2, .long x3, ev_unk, .int x5, .int x6, .long x7, ev_unk, .ref x9, .int (x10 + (1 : Int32))]) (st' := []) [.iinc 10 (1), .goto (-40)] (by decide +kernel) rfl <|
          (k2 c1 c2)
        )
      )
    )
  ) (fun c1 =>
    Ev.go (pc' := 95) (ls' := [.ref 81, .ref x1, .int x2, .long x3, ev_unk, .int x5, .int x6, .long x7, ev_unk, .ref x9, .int (1 : Int32)]) (st' := []) [.iconst 1, .istore 10] (by decide +kernel) rfl <|
    (k3 c1)
  )
theorem b_Bu_weigh_95 {G : ev_G} {d k n : Nat} {h : ev_H} {R : Option Value → ev_H → Prop} {x1 : Nat} {x2 : Int32} {x3 : Int64} {x5 : Int32} {x6 : Int32} {x7 : Int64} {x9 : Nat} {x10 : Int32} {g1 : Nat → Int32} {j2 : Nat} {j3 : Nat} {f_parts_4 : Int32} {g5 : Nat → Int32} {j6 : Nat}
  (a1 : hat h x9 (aI 26 g1))
  (a4 : hat h 81 (oC 0 [.ref 82, .int f_parts_4, .ref 83, .ref 90, .ref 97]))
  (a5 : hat h 82 (aI 6 g5))
  (i2 : x10 < (nI 26) → ev_ix x10 j2 26)
  (i3 : x10 < (nI 26) → ev_ix (x10 - (1 : Int32)) j3 26)
  (i6 : ¬ x10 < (nI 26) → ev_ix x6 j6 6)
  (k1 : x10 < (nI 26) → Ev G (d + 1) k n M_Bu_weigh 95 [.ref 81, .ref x1, .int x2, .long x3, ev_unk, .int x5, .int x6, .long x7, ev_unk, .ref x9, .int (x10 + (1 : Int32))] [] (hset h x9 (aI 26 (upd g1 j2 ((g1 j2) + (g1 j3))))) R)
  (k2 : ¬ x10 < (nI 26) → Ev G (d + 1) k n M_Bu_weigh 6 [.ref 81, .ref x1, .int x2, .long x3, ev_unk, .int (x5 + (g5 j6)), .int (x6 + (1 : Int32)), ev_unk, ev_unk, ev_unk, ev_unk] [] h R)
  : Ev G (d + 1) k n M_Bu_weigh 95 [.ref 81, .ref x1, .int x2, .long x3, ev_unk, .int x5, .int x6, .long x7, ev_unk, .ref x9, .int x10] [] h R :=
  Ev.go (pc' := 99) (ls' := [.ref 81, .ref x1, .int x2, .long x3, ev_unk, .int x5, .int x6, .long x7, ev_unk, .ref x9, .int x10]) (st' := [.ref x9, .int x10]) [.iload 10, .aload 9] (by decide +kernel) rfl <|
  Ev.alen (by decide +kernel) a1 (by decide) <|
  Ev.br (i := .if_icmp .ge (24)) (P := x10 < (nI 26)) (t := 103) (f := 124) (r := []) (by decide +kernel) rfl (fun c1 =>
    Ev.go (pc' := 108) (ls' := [.ref 81, .ref x1, .int x2, .long x3, ev_unk, .int x5, .int x6, .long x7, ev_unk, .ref x9, .int x10]) (st' := [.int x10, .ref x9, .int x10, .ref x9]) [.aload 9, .iload 10, .dup2] (by decide +kernel) rfl <|
    Ev.iald (j := j2) (by decide +kernel) a1 (i2 c1) <|
    Ev.go (pc' := 115) (ls' := [.ref 81, .ref x1, .int x2, .long x3, ev_unk, .int x5, .int x6, .long x7, ev_unk, .ref x9, .int x10]) (st' := [.int (x10 - (1 : Int32)), .ref x9, .int (g1 j2), .int x10, .ref x9]) [.aload 9, .iload 10, .iconst 1, .isub] (by decide +kernel) rfl <|
    Ev.iald (j := j3) (by decide +kernel) a1 (i3 c1) <|
    Ev.go (pc' := 117) (ls' := [.ref 81, .ref x1, .int x2, .long x3, ev_unk, .int x5, .int x6, .long x7, ev_unk, .ref x9, .int x10]) (st' := [.int ((g1 j2) + (g1 j3)), .int x10, .ref x9]) [.iadd] (by decide +kernel) rfl <|
    Ev.iast (j := j2) (by decide +kernel) a1 (i2 c1) <| show Ev G (d + 1) _ _ M_Bu_weigh 118 [.ref 81, .ref x1, .int x2, .long x3, ev_unk, .int x5, .int x6, .long x7, ev_unk, .ref x9, .int x10] [] (hset h x9 (aI 26 (upd g1 j2 ((g1 j2) + (g1 j3))))) R from
    Ev.go (pc' := 95) (ls' := [.ref 81, .ref x1, .int x2, .long x3, ev_unk, .int x5, .int x6, .long x7, ev_unk, .ref x9, .int (x10 + (1 : Int32))]) (st' := []) [.iinc 10 (1), .goto (-26)] (by decide +kernel) rfl <|
    (k1 c1)
  ) (fun c1 =>
    Ev.go (pc' := 127) (ls' := [.ref 81, .ref x1, .int x2, .long x3, ev_unk, .int x5, .int x6, .long x7, ev_unk, .ref x9, .int x10]) (st' := [.ref 81, .int x5]) [.iload 5, .aload_n 0] (by decide +kernel) rfl <|
    Ev.getf f_Bu_9 (by decide +kernel) a4 rfl <|
    Ev.go (pc' := 132) (ls' := [.ref 81, .ref x1, .int x2, .long x3, ev_unk, .int x5, .int x6, .long x7, ev_unk, .ref x9, .int x10]) (st' := [.int x6, .ref 82, .int x5]) [.iload 6] (by decide +kernel) rfl <|
    Ev.iald (j := j6) (by decide +kernel) a5 (i6 c1) <|
    Ev.go (pc' := 6) (ls' := [.ref 81, .ref x1, .int x2, .long x3, ev_unk, .int (x5 + (g5 j6)), .int (x6 + (1 : Int32)), .long x7, ev_unk, .ref x9, .int x10]) (st' := []) [.iadd, .istore 5, .iinc 6 (1), .goto (-133)] (by decide +kernel) rfl <|
    Ev.forget (ls' := [.ref 81, .ref x1, .int x2, .long x3, ev_unk, .int (x5 + (g5 j6)), .int (x6 + (1 : Int32)), ev_unk, ev_unk, ev_unk, ev_unk]) ⟨Or.inr rfl, Or.inr rfl, Or.inr rfl, Or.inr rfl, Or.inr rfl, Or.inr rfl, Or.inr rfl, Or.inl rfl, Or.inr rfl, Or.inl rfl, Or.inl rfl, trivial⟩ <|
    (k2 c1)
  )
theorem b_Bu_candidates_0 {G : ev_G} {d k n : Nat} {h : ev_H} {R : Option Value → ev_H → Prop} {x1 : Nat} {x2 : Int32} {x3 : Int64}
  (k1 : Ev G (d + 1) k n M_Bu_candidates 9 [.ref 81, .ref x1, .int x2, .long x3, ev_unk, .int (0 : Int32), .int (0 : Int32), .int (0 : Int32), ev_unk, ev_unk, ev_unk] [] h R)
  : Ev G (d + 1) k n M_Bu_candidates 0 [.ref 81, .ref x1, .int x2, .long x3, ev_unk, ev_unk, ev_unk, ev_unk, ev_unk, ev_unk, ev_unk] [] h R :=
  Ev.go (pc' := 9) (ls' := [.ref 81, .ref x1, .int x2, .long x3, ev_unk, .int (0 : Int32), .int (0 : Int32), .int (0 : Int32), ev_unk, ev_unk, ev_unk]) (st' := []) [.iconst 0, .istore 5, .iconst 0, .istore 6, .iconst 0, .istore 7] (by decide +kernel) rfl <|
  k1
theorem b_Bu_candidates_9 {G : ev_G} {d k n : Nat} {h : ev_H} {R : Option Value → ev_H → Prop} {x1 : Nat} {x2 : Int32} {x3 : Int64} {x5 : Int32} {x6 : Int32} {x7 : Int32} {f_parts_1 : Int32} {g2 : Nat → Int32} {j3 : Nat}
  (a1 : hat h 81 (oC 0 [.ref 82, .int f_parts_1, .ref 83, .ref 90, .ref 97]))
  (a2 : hat h 82 (aI 6 g2))
  (i3 : x7 < f_parts_1 → ev_ix x7 j3 6)
  (k1 : x7 < f_parts_1 → Ev G (d + 1) k n M_Bu_candidates 37 [.ref 81, .ref x1, .int x2, .long x3, ev_unk, .int x5, .int x6, .int x7, .long ((((1 : Int64) <<< ((g2 j3).toInt64 &&& 63)) - (1 : Int64)) <<< (x6.toInt64 &&& 63)), ev_unk, .int (0 : Int32)] [] h R)
  (k2 : ¬ x7 < f_parts_1 → R (some (.int x5)) h)
  : Ev G (d + 1) k n M_Bu_candidates 9 [.ref 81, .ref x1, .int x2, .long x3, ev_unk, .int x5, .int x6, .int x7, ev_unk, ev_unk, ev_unk] [] h R :=
  Ev.go (pc' := 12) (ls' := [.ref 81, .ref x1, .int x2, .long x3, ev_unk, .int x5, .int x6, .int x7, ev_unk, ev_unk, ev_unk]) (st' := [.ref 81, .int x7]) [.iload 7, .aload_n 0] (by decide +kernel) rfl <|
  Ev.getf f_Bu_15 (by decide +kernel) a1 rfl <|
  Ev.br (i := .if_icmp .ge (93)) (P := x7 < f_parts_1) (t := 18) (f := 108) (r := []) (by decide +kernel) rfl (fun c1 =>
    Ev.go (pc' := 20) (ls' := [.ref 81, .ref x1, .int x2, .long x3, ev_unk, .int x5, .int x6, .int x7, ev_unk, ev_unk, ev_unk]) (st' := [.ref 81, .long (1 : Int64)]) [.lconst 1, .aload_n 0] (by decide +kernel) rfl <|
    Ev.getf f_Bu_9 (by decide +kernel) a1 rfl <|
    Ev.go (pc' := 25) (ls' := [.ref 81, .ref x1, .int x2, .long x3, ev_unk, .int x5, .int x6, .int x7, ev_unk, ev_unk, ev_unk]) (st' := [.int x7, .ref 82, .long (1 : Int64)]) [.iload 7] (by decide +kernel) rfl <|
    Ev.iald (j := j3) (by decide +kernel) a2 (i3 c1) <|
    Ev.go (pc' := 37) (ls' := [.ref 81, .ref x1, .int x2, .long x3, ev_unk, .int x5, .int x6, .int x7, .long ((((1 : Int64) <<< ((g2 j3).toInt64 &&& 63)) - (1 : Int64)) <<< (x6.toInt64 &&& 63)), ev_unk, .int (0 : Int32)]) (st' := []) [.lshl, .lconst 1, .lsub, .iload 6, .lshl, .lstore 8, .iconst 0, .istore 10] (by decide +kernel) rfl <|
    (k1 c1)
  ) (fun c1 =>
    Ev.go (pc' := 110) (ls' := [.ref 81, .ref x1, .int x2, .long x3, ev_unk, .int x5, .int x6, .int x7, ev_unk, ev_unk, ev_unk]) (st' := [.int x5]) [.iload 5] (by decide +kernel) rfl <|
    Ev.ret (r := (some (.int x5))) (Or.inl ⟨_, rfl, by decide +kernel, _, rfl, rfl⟩) (k2 c1)
  )
theorem b_Bu_candidates_37 {G : ev_G} {d k n : Nat} {h : ev_H} {R : Option Value → ev_H → Prop} {x1 : Nat} {x2 : Int32} {x3 : Int64} {x5 : Int32} {x6 : Int32} {x7 : Int32} {x8 : Int64} {x10 : Int32} {g1 : Nat → Int64} {j2 : Nat} {f_parts_3 : Int32} {g4 : Nat → Int32} {j5 : Nat} {g6 : Nat → Int32}
  (a1 : hat h x1 (aL 32 g1))
  (a3 : hat h 81 (oC 0 [.ref 82, .int f_parts_3, .ref 83, .ref 90, .ref 97]))
  (a4 : hat h 97 (aI 6 g4))
  (a6 : hat h 82 (aI 6 g6))
  (i2 : x10 < (nI 32) → ¬ (b2i (inI x2 x10)) = (0 : Int32) → ev_ix x10 j2 32)
  (i5 : x10 < (nI 32) → ¬ (b2i (inI x2 x10)) = (0 : Int32) → ev_ix x7 j5 6)
  (i7 : ¬ x10 < (nI 32) → ev_ix x7 j5 6)
  (k1 : x10 < (nI 32) → (b2i (inI x2 x10)) = (0 : Int32) → Ev G (d + 1) k n M_Bu_candidates 37 [.ref 81, .ref x1, .int x2, .long x3, ev_unk, .int x5, .int x6, .int x7, .long x8, ev_unk, .int (x10 + (1 : Int32))] [] h R)
  (k2 : x10 < (nI 32) → ¬ (b2i (inI x2 x10)) = (0 : Int32) → (g4 j5) < (nI (pop (((g1 j2) ^^^ x3) &&& x8))) → Ev G (d + 1) k n M_Bu_candidates 37 [.ref 81, .ref x1, .int x2, .long x3, ev_unk, .int x5, .int x6, .int x7, .long x8, ev_unk, .int (x10 + (1 : Int32))] [] h R)
  (k3 : x10 < (nI 32) → ¬ (b2i (inI x2 x10)) = (0 : Int32) → ¬ (g4 j5) < (nI (pop (((g1 j2) ^^^ x3) &&& x8))) → Ev G (d + 1) k n M_Bu_candidates 37 [.ref 81, .ref x1, .int x2, .long x3, ev_unk, .int (x5 ||| ((1 : Int32) <<< (x10 &&& 31))), .int x6, .int x7, .long x8, ev_unk, .int (x10 + (1 : Int32))] [] h R)
  (k4 : ¬ x10 < (nI 32) → Ev G (d + 1) k n M_Bu_candidates 9 [.ref 81, .ref x1, .int x2, .long x3, ev_unk, .int x5, .int (x6 + (g6 j5)), .int (x7 + (1 : Int32)), ev_unk, ev_unk, ev_unk] [] h R)
  : Ev G (d + 1) k n M_Bu_candidates 37 [.ref 81, .ref x1, .int x2, .long x3, ev_unk, .int x5, .int x6, .int x7, .long x8, ev_unk, .int x10] [] h R :=
  Ev.go (pc' := 40) (ls' := [.ref 81, .ref x1, .int x2, .long x3, ev_unk, .int x5, .int x6, .int x7, .long x8, ev_unk, .int x10]) (st' := [.ref x1, .int x10]) [.iload 10, .aload_n 1] (by decide +kernel) rfl <|
  Ev.alen (by decide +kernel) a1 (by decide) <|
  Ev.br (i := .if_icmp .ge (49)) (P := x10 < (nI 32)) (t := 44) (f := 90) (r := []) (by decide +kernel) rfl (fun c1 =>
    Ev.go (pc' := 47) (ls' := [.ref 81, .ref x1, .int x2, .long x3, ev_unk, .int x5, .int x6, .int x7, .long x8, ev_unk, .int x10]) (st' := [.int x10, .int x2]) [.iload_n 2, .iload 10] (by decide +kernel) rfl <|
    Ev.cSN0 (M' := M_X_isIn) (as := [.int x2, .int x10]) (rest := []) l_Bu_58 M_X_isIn_ok M_X_isIn_st (by decide +kernel) rfl rfl (Nat.le_of_ble_eq_true rfl) (Nat.le_of_ble_eq_true rfl) (s_X_isIn <| show Ev G (d + 1) _ _ M_Bu_candidates 50 [.ref 81, .ref x1, .int x2, .long x3, ev_unk, .int x5, .int x6, .int x7, .long x8, ev_unk, .int x10] [.int (b2i (inI x2 x10))] h R from
      Ev.br (i := .ifCond .eq (34)) (P := (b2i (inI x2 x10)) = (0 : Int32)) (t := 84) (f := 53) (r := []) (by decide +kernel) rfl (fun c2 =>
        Ev.go (pc' := 37) (ls' := [.ref 81, .ref x1, .int x2, .long x3, ev_unk, .int x5, .int x6, .int x7, .long x8, ev_unk, .int (x10 + (1 : Int32))]) (st' := []) [.iinc 10 (1), .goto (-50)] (by decide +kernel) rfl <|
        (k1 c1 c2)
      ) (fun c2 =>
        Ev.go (pc' := 56) (ls' := [.ref 81, .ref x1, .int x2, .long x3, ev_unk, .int x5, .int x6, .int x7, .long x8, ev_unk, .int x10]) (st' := [.int x10, .ref x1]) [.aload_n 1, .iload 10] (by decide +kernel) rfl <|
        Ev.lald (j := j2) (by decide +kernel) a1 (i2 c1 c2) <|
        Ev.go (pc' := 62) (ls' := [.ref 81, .ref x1, .int x2, .long x3, ev_unk, .int x5, .int x6, .int x7, .long x8, ev_unk, .int x10]) (st' := [.long (((g1 j2) ^^^ x3) &&& x8)]) [.lload_n 3, .lxor, .lload 8, .land] (by decide +kernel) rfl <|
        Ev.cS0 (M' := M_JL_bitCount) (as := [.long (((g1 j2) ^^^ x3) &&& x8)]) (rest := []) l_Bu_62 M_JL_bitCount_ok M_JL_bitCount_st (by decide +kernel) rfl rfl (Nat.le_of_ble_eq_true rfl) (Nat.le_of_ble_eq_true rfl) (s_JL_bitCount <| show Ev G (d + 1) _ _ M_Bu_candidates 65 [.ref 81, .ref x1, .int x2, .long x3, ev_unk, .int x5, .int x6, .int x7, .long x8, ev_unk, .int x10] [.int (nI (pop (((g1 j2) ^^^ x3) &&& x8)))] h R from
          Ev.go (pc' := 66) (ls' := [.ref 81, .ref x1, .int x2, .long x3, ev_unk, .int x5, .int x6, .int x7, .long x8, ev_unk, .int x10]) (st' := [.ref 81, .int (nI (pop (((g1 j2) ^^^ x3) &&& x8)))]) [.aload_n 0] (by decide +kernel) rfl <|
          Ev.getf f_Bu_27 (by decide +kernel) a3 rfl <|
          Ev.go (pc' := 71) (ls' := [.ref 81, .ref x1, .int x2, .long x3, ev_unk, .int x5, .int x6, .int x7, .long x8, ev_unk, .int x10]) (st' := [.int x7, .ref 97, .int (nI (pop (((g1 j2) ^^^ x3) &&& x8)))]) [.iload 7] (by decide +kernel) rfl <|
          Ev.iald (j := j5) (by decide +kernel) a4 (i5 c1 c2) <|
          Ev.br (i := .if_icmp .gt (12)) (P := (g4 j5) < (nI (pop (((g1 j2) ^^^ x3) &&& x8)))) (t := 84) (f := 75) (r := []) (by decide +kernel) rfl (fun c3 =>
            Ev.go (pc' := 37) (ls' := [.ref 81, .ref x1, .int x2, .long x3, ev_unk, .int x5, .int x6, .int x7, .long x8, ev_unk, .int (x10 + (1 : Int32))]) (st' := []) [.iinc 10 (1), .goto (-50)] (by decide +kernel) rfl <|
            (k2 c1 c2 c3)
          ) (fun c3 =>
            Ev.go (pc' := 37) (ls' := [.ref 81, .ref x1, .int x2, .long x3, ev_unk, .int (x5 ||| ((1 : Int32) <<< (x10 &&& 31))), .int x6, .int x7, .long x8, ev_unk, .int (x10 + (1 : Int32))]) (st' := []) [.iload 5, .iconst 1, .iload 10, .ishl, .ior, .istore 5, .iinc 10 (1), .goto (-50)] (by decide +kernel) rfl <|
            (k3 c1 c2 c3)
          )
        )
      )
    )
  ) (fun c1 =>
    Ev.go (pc' := 93) (ls' := [.ref 81, .ref x1, .int x2, .long x3, ev_unk, .int x5, .int x6, .int x7, .long x8, ev_unk, .int x10]) (st' := [.ref 81, .int x6]) [.iload 6, .aload_n 0] (by decide +kernel) rfl <|
    Ev.getf f_Bu_9 (by decide +kernel) a3 rfl <|
    Ev.go (pc' := 98) (ls' := [.ref 81, .ref x1, .int x2, .long x3, ev_unk, .int x5, .int x6, .int x7, .long x8, ev_unk, .int x10]) (st' := [.int x7, .ref 82, .int x6]) [.iload 7] (by decide +kernel) rfl <|
    Ev.iald (j := j5) (by decide +kernel) a6 (i7 c1) <|
    Ev.go (pc' := 9) (ls' := [.ref 81, .ref x1, .int x2, .long x3, ev_unk, .int x5, .int (x6 + (g6 j5)), .int (x7 + (1 : Int32)), .long x8, ev_unk, .int x10]) (st' := []) [.iadd, .istore 6, .iinc 7 (1), .goto (-96)] (by decide +kernel) rfl <|
    Ev.forget (ls' := [.ref 81, .ref x1, .int x2, .long x3, ev_unk, .int x5, .int (x6 + (g6 j5)), .int (x7 + (1 : Int32)), ev_unk, ev_unk, ev_unk]) ⟨Or.inr rfl, Or.inr rfl, Or.inr rfl, Or.inr rfl, Or.inr rfl, Or.inr rfl, Or.inr rfl, Or.inr rfl, Or.inl rfl, Or.inr rfl, Or.inl rfl, trivial⟩ <|
    (k4 c1)
  )
theorem b_Bu_plan_0 {G : ev_G} {d k n : Nat} {h : ev_H} {R : Option Value → ev_H → Prop} {x1 : Nat} {x2 : Int32} {x3 : Int64} {x5 : Int32}
  (r1 : ∃ fs, hat h 81 (oC 0 fs))
  (k1 : Ev G d 0 0 M_Bu_weigh 0 [.ref 81, .ref x1, .int x2, .long x3, ev_unk, ev_unk, ev_unk, ev_unk, ev_unk, ev_unk, ev_unk] [] h (fun r h1 => Ev G (d + 1) k n M_Bu_plan 7 [.ref 81, .ref x1, .int x2, .long x3, ev_unk, .int x5] (r.toList ++ []) h1 R))
  : Ev G (d + 1) k n M_Bu_plan 0 [.ref 81, .ref x1, .int x2, .long x3, ev_unk, .int x5] [] h R :=
  Ev.go (pc' := 4) (ls' := [.ref 81, .ref x1, .int x2, .long x3, ev_unk, .int x5]) (st' := [.long x3, .int x2, .ref x1, .ref 81]) [.aload_n 0, .aload_n 1, .iload_n 2, .lload_n 3] (by decide +kernel) rfl <|
  Ev.cV0 (M' := M_Bu_weigh) (as := [.ref x1, .int x2, .long x3]) (rest := []) l_Bu_40 M_Bu_weigh_ok M_Bu_weigh_in M_Bu_weigh_se (by decide +kernel) r1 rfl rfl rfl (Nat.le_of_ble_eq_true rfl) (Nat.le_of_ble_eq_true rfl) k1
theorem b_Bu_plan_7 {G : ev_G} {d k n : Nat} {h : ev_H} {R : Option Value → ev_H → Prop} {x1 : Nat} {x2 : Int32} {x3 : Int64} {x5 : Int32}
  (r1 : ∃ fs, hat h 81 (oC 0 fs))
  (k1 : Ev G d 0 0 M_Bu_tabulate 0 [.ref 81, .int x5, ev_unk, ev_unk, ev_unk] [] h (fun r h1 => Ev G (d + 1) k n M_Bu_plan 13 [.ref 81, .ref x1, .int x2, .long x3, ev_unk, .int x5] (r.toList ++ []) h1 R))
  : Ev G (d + 1) k n M_Bu_plan 7 [.ref 81, .ref x1, .int x2, .long x3, ev_unk, .int x5] [] h R :=
  Ev.go (pc' := 10) (ls' := [.ref 81, .ref x1, .int x2, .long x3, ev_unk, .int x5]) (st' := [.int x5, .ref 81]) [.aload_n 0, .iload 5] (by decide +kernel) rfl <|
  Ev.cV0 (M' := M_Bu_tabulate) (as := [.int x5]) (rest := []) l_Bu_44 M_Bu_tabulate_ok M_Bu_tabulate_in M_Bu_tabulate_se (by decide +kernel) r1 rfl rfl rfl (Nat.le_of_ble_eq_true rfl) (Nat.le_of_ble_eq_true rfl) k1
theorem b_Bu_plan_13 {G : ev_G} {d k n : Nat} {h : ev_H} {R : Option Value → ev_H → Prop} {x1 : Nat} {x2 : Int32} {x3 : Int64} {x5 : Int32}
  (r1 : ∃ fs, hat h 81 (oC 0 fs))
  (k1 : Ev G d 0 0 M_Bu_choose 0 [.ref 81, .int x5, ev_unk, ev_unk, ev_unk, ev_unk] [] h (fun r h1 => Ev G (d + 1) k n M_Bu_plan 19 [.ref 81, .ref x1, .int x2, .long x3, ev_unk, .int x5] (r.toList ++ []) h1 R))
  : Ev G (d + 1) k n M_Bu_plan 13 [.ref 81, .ref x1, .int x2, .long x3, ev_unk, .int x5] [] h R :=
  Ev.go (pc' := 16) (ls' := [.ref 81, .ref x1, .int x2, .long x3, ev_unk, .int x5]) (st' := [.int x5, .ref 81]) [.aload_n 0, .iload 5] (by decide +kernel) rfl <|
  Ev.cV0 (M' := M_Bu_choose) (as := [.int x5]) (rest := []) l_Bu_48 M_Bu_choose_ok M_Bu_choose_in M_Bu_choose_se (by decide +kernel) r1 rfl rfl rfl (Nat.le_of_ble_eq_true rfl) (Nat.le_of_ble_eq_true rfl) k1
theorem b_Bu_plan_19 {G : ev_G} {d k n : Nat} {h : ev_H} {R : Option Value → ev_H → Prop} {x1 : Nat} {x2 : Int32} {x3 : Int64} {x5 : Int32} {y0 : Int32}
  (k1 : R (some (.int y0)) h)
  : Ev G (d + 1) k n M_Bu_plan 19 [.ref 81, .ref x1, .int x2, .long x3, ev_unk, .int x5] [.int y0] h R :=
  Ev.ret (r := (some (.int y0))) (Or.inl ⟨_, rfl, by decide +kernel, _, rfl, rfl⟩) k1
section S20
variable {G : ev_G} {d : Nat} {h : ev_H} {R : Option Value → ev_H → Prop} {S : AS}
variable {P : Nat} {W : Nat → Nat} {c : Nat → Nat → Nat} {kc r lo : Nat}
theorem s_Bu_weigh {a : Nat} {set : Int32} {x : Int64} {cof : Nat → Int64} (B : BuP h P W c 0 r lo) (hc : c = cstN (bt set) cof x W) (hW : sumT W P ≤ 48) (ha : hat h a (aL 32 cof)) (ha2 : a < 81) (hR : ∀ h', Kp h h' 84 90 → BuP h' P W c P r lo → R none h') : Ev G (d + 1) 0 0 M_Bu_weigh 0 [.ref 81, .ref a, .int set, .long x, ev_unk, ev_unk, ev_unk, ev_unk, ev_unk, ev_unk, ev_unk] [] h R := by
  have b1 := B.1
  have b2 := B.2.1
  have b3 := B.2.2.1
  refine b_Bu_weigh_0 ?_
  have L := up0 (P := fun i => ∀ h', Kp h h' 84 90 → BuP h' P W c i r lo → Ev G (d + 1) 0 0 M_Bu_weigh 6 [.ref 81, .ref a, .int set, .long x, ev_unk, .int (nI (sumT W i)), .int (nI i), ev_unk, ev_unk, ev_unk, ev_unk] [] h' R) P ?_ ?_
  · exact L h (Kp.refl _ _ _) B
  · intro i hi ih h' K B'
    have yes : nI i < nI P := nI_lt hi (by omega)
    have hw := b3 i hi
    have hst : sumT W i + W i ≤ 48 := Nat.le_trans (sumT_mono W (m := i + 1) hi) hW
    obtain ⟨b4, ⟨brf, b5, b5'⟩, b6, b7, b8, b9, ch, b10⟩ := B'.2.2.2
    obtain ⟨g0, t0, -⟩ := b8 i (by omega)
    refine b_Bu_weigh_6 (j3 := i) b4 b5 b6 (fun _ => ixn (by omega) (by decide)) (fun _ => ?_) (fun q => absurd yes q)
    rw [b5' i hi]
    refine s_JA_fill t0 (by decide) fun h1 g1 K1 t1 v1 => b_Bu_weigh_46 ?_
    have B1 := B'.row (by omega) K1 t1
    have KK1 := K.trans (K1.wide (lo' := 84) (hi' := 90) (by omega) (by omega))
    -- the codes
    have L1 := up0 (P := fun m => ∀ h' g, Kp h h' 84 90 → BuP h' P W c i r lo → hat h' (83 + 1 + i) (aI 26 g) → (∀ s, s < 26 → g s = nI (cnt (fun j => bt set j && decide (farN (cof j ^^^ x) (sumT W i) (W i) + 1 = s)) m)) → Ev G (d + 1) 0 0 M_Bu_weigh 49 [.ref 81, .ref a, .int set, .long x, ev_unk, .int (nI (sumT W i)), .int (nI i), .long ((((1 : Int64) <<< ((nI (W i)).toInt64 &&& 63)) - (1 : Int64)) <<< ((nI (sumT W i)).toInt64 &&& 63)), ev_unk, .ref (83 + 1 + i), .int (nI m)] [] h' R) 32 ?_ ?_
    · exact L1 h1 g1 KK1 B1 t1 fun s hs => (v1 s hs).trans rfl
    · intro m hm ih2 h2 g2 K2 B2 t2 v2
      have ym : nI m < nI 32 := nI_lt hm (by decide)
      have hf := farN_le (cof m ^^^ x) (sumT W i) (W i)
      have ef : pop ((cof m ^^^ x) &&& ((((1 : Int64) <<< ((nI (W i)).toInt64 &&& 63)) - (1 : Int64)) <<< ((nI (sumT W i)).toInt64 &&& 63))) = farN (cof m ^^^ x) (sumT W i) (W i) := pop_mask _ (by omega) (by omega) (by omega)
      have st : ∀ s, cnt (fun j => bt set j && decide (farN (cof j ^^^ x) (sumT W i) (W i) + 1 = s)) (m + 1) = cnt (fun j => bt set j && decide (farN (cof j ^^^ x) (sumT W i) (W i) + 1 = s)) m + if bt set m && decide (farN (cof m ^^^ x) (sumT W i) (W i) + 1 = s) then 1 else 0 := fun s => rfl
      refine b_Bu_weigh_49 (j2 := m) (j4 := farN (cof m ^^^ x) (sumT W i) (W i) + 1) (K2.hat ha (by omega)) t2 (fun _ _ => ixn hm (by decide)) (fun _ _ => by rw [ef, nI_1]; exact ixn (by omega) (by decide)) (fun _ _ => by omega) (fun _ q => ?_) (fun _ q => ?_) (fun q => absurd ym q)
      · rw [inI_n hm] at q
        have q := b2i_e0 q
        rw [nI_1]
        refine ih2 h2 g2 K2 B2 t2 fun s hs => ?_
        rw [st, q, v2 s hs]; simp
      · rw [inI_n hm] at q
        have q := b2i_n0 q
        rw [nI_1]
        have KW := (Kp.refl h2 (83 + 1 + i) (83 + 1 + i + 1)).set (k := 83 + 1 + i) (aI 26 (upd g2 (farN (cof m ^^^ x) (sumT W i) (W i) + 1) (g2 (farN (cof m ^^^ x) (sumT W i) (W i) + 1) + 1))) (by omega) (by omega)
        refine ih2 _ _ (K2.trans (KW.wide (by omega) (by omega))) (B2.row (by omega) KW ⟨t2.1, hset_eq _ _ _⟩) ⟨t2.1, hset_eq _ _ _⟩ fun s hs => ?_
        rw [st, q]
        by_cases e : s = farN (cof m ^^^ x) (sumT W i) (W i) + 1
        · subst e; simp only [upd, if_true, decide_true, Bool.and_true]; rw [v2 _ hs, nI_1]
        · have e2 : ¬ farN (cof m ^^^ x) (sumT W i) (W i) + 1 = s := fun z => e z.symm
          simp only [upd, if_neg e, decide_eq_false e2, Bool.and_false, Bool.false_eq_true, if_false, Nat.add_zero]; exact v2 s hs
    · intro h2 g2 K2 B2 t2 v2
      have no : ¬ nI 32 < nI 32 := nl_self (by decide)
      refine b_Bu_weigh_49 (j2 := 0) (j4 := 0) (K2.hat ha (by omega)) t2 (fun q => absurd q no) (fun q => absurd q no) (fun q => absurd q no) (fun q => absurd q no) (fun q => absurd q no) (fun _ => ?_)
      -- sums
      have L3 := up_to (P := fun m => 1 ≤ m → ∀ h' g, Kp h h' 84 90 → BuP h' P W c i r lo → hat h' (83 + 1 + i) (aI 26 g) → (∀ s, s < 26 → g s = if s < m then nI (c i s) else nI (cnt (fun j => bt set j && decide (farN (cof j ^^^ x) (sumT W i) (W i) + 1 = s)) 32)) → Ev G (d + 1) 0 0 M_Bu_weigh 95 [.ref 81, .ref a, .int set, .long x, ev_unk, .int (nI (sumT W i)), .int (nI i), .long ((((1 : Int64) <<< ((nI (W i)).toInt64 &&& 63)) - (1 : Int64)) <<< ((nI (sumT W i)).toInt64 &&& 63)), ev_unk, .ref (83 + 1 + i), .int (nI m)] [] h' R) (N := 26) ?_ ?_
      · refine L3 1 (by omega) (Nat.le_refl _) h2 g2 K2 B2 t2 fun s hs => ?_
        rw [v2 s hs]
        by_cases e : s < 1
        · have : s = 0 := by omega
          subst this
          rw [if_pos e, hc, ((cstN_ok (bt set) cof x W P) i hi).1]
          rw [cnt_zero fun k _ => by rw [decide_eq_false (by omega)]; simp]
        · rw [if_neg e]
      · intro m hm ih3 h1m h3 g3 K3 B3 t3 v3
        have ym : nI m < nI 26 := nI_lt hm (by decide)
        obtain ⟨q4, ⟨brq, q5, q5'⟩, -⟩ := B3.2.2.2
        refine b_Bu_weigh_95 (j2 := m) (j3 := m - 1) (j6 := i) t3 q4 q5 (fun _ => ixn hm (by decide)) (fun _ => by rw [show nI m - 1 = nI (m - 1) from nI_sub (b := 1) h1m]; exact ixn (by omega) (by decide)) (fun q => absurd ym q) (fun _ => ?_) (fun q => absurd ym q)
        rw [nI_1]
        have KW := (Kp.refl h3 (83 + 1 + i) (83 + 1 + i + 1)).set (k := 83 + 1 + i) (aI 26 (upd g3 m (g3 m + g3 (m - 1)))) (by omega) (by omega)
        refine ih3 (by omega) _ _ (K3.trans (KW.wide (by omega) (by omega))) (B3.row (by omega) KW ⟨t3.1, hset_eq _ _ _⟩) ⟨t3.1, hset_eq _ _ _⟩ fun s hs => ?_
        by_cases e : s = m
        · subst e
          simp only [upd, if_true]
          rw [if_pos (by omega), v3 s hs, if_neg (by omega), v3 (s - 1) (by omega), if_pos (by omega), nI_add, hc]
          obtain ⟨u, rfl⟩ : ∃ u, s = u + 1 := ⟨s - 1, by omega⟩
          congr 1
          unfold cstN
          rw [Nat.add_sub_cancel, cnt_step (bt set) (fun j => farN (cof j ^^^ x) (sumT W i) (W i) + 1) u 32, Nat.add_comm]
        · simp only [upd, if_neg e]; rw [v3 s hs]
          by_cases e2 : s < m
          · rw [if_pos e2, if_pos (by omega)]
          · rw [if_neg e2, if_neg (by omega)]
      · intro h1m h3 g3 K3 B3 t3 v3
        have no : ¬ nI 26 < nI 26 := nl_self (by decide)
        obtain ⟨q4, ⟨brq, q5, q5'⟩, -⟩ := B3.2.2.2
        refine b_Bu_weigh_95 (j2 := 0) (j3 := 0) (j6 := i) t3 q4 q5 (fun q => absurd q no) (fun q => absurd q no) (fun _ => ixn (by omega) (by decide)) (fun q => absurd q no) (fun _ => ?_)
        rw [q5' i hi, nI_add, nI_1]
        exact ih h3 K3 (B3.rowDone t3 fun s hs => by rw [v3 s (by omega), if_pos (by omega)])
  · intro h' K B'
    obtain ⟨b4, ⟨brf, b5, b5'⟩, b6, b7, b8, b9, ch, b10⟩ := B'.2.2.2
    exact b_Bu_weigh_6 (j3 := 0) b4 b5 b6 (fun q => absurd q (nl_self (by omega))) (fun q => absurd q (nl_self (by omega))) (fun _ => hR h' K B')
theorem s_Bu_plan {a : Nat} {set : Int32} {x : Int64} {cof : Nat → Int64} {rI : Int32} {r0 : Nat} {c0 : Nat → Nat → Nat} (B : BuP h P W c0 kc r0 lo) (hc : c = cstN (bt set) cof x W) (hW : sumT W P ≤ 48) (ha : hat h a (aL 32 cof)) (ha2 : a < 81) (hr : rI = nI r ∧ r ≤ 48) (hR : ∀ h', Kp h h' 84 98 → BuP h' P W c P r 1 → BuC h' P (bShr c W P r) P → R (some (.int (nI (bLp c W P 0 (r + 1))))) h') : Ev G (d + 3) 0 0 M_Bu_plan 0 [.ref 81, .ref a, .int set, .long x, ev_unk, .int rI] [] h R := by
  have B0 : BuP h P W c 0 r P := B.none
  have hok : cOk c P := by rw [hc]; exact cstN_ok _ _ _ _ _
  refine b_Bu_plan_0 B0.obj (s_Bu_weigh B0 hc hW ha ha2 fun h1 K1 B1 => ?_)
  refine b_Bu_plan_7 B1.obj (s_Bu_tabulate B1 hok hr fun h2 K2 B2 B2' => ?_)
  refine b_Bu_plan_13 B2.obj (s_Bu_choose B2 B2' hok hr fun h3 K3 B3 C3 => ?_)
  exact b_Bu_plan_19 (hR h3 (((K1.wide (by omega) (by omega)).trans (K2.wide (by omega) (by omega))).trans (K3.wide (by omega) (by omega))) B3 C3)
/-- any of the first n -/
def anyT (f : Nat → Bool) : Nat → Bool
  | 0 => false
  | n + 1 => anyT f n || f n
theorem anyT_congr {f g : Nat → Bool} : ∀ {n : Nat}, (∀ k, k < n → f k = g k) → anyT f n = anyT g n
  | 0, _ => rfl
  | n + 1, h => by
    show (anyT f n || f n) = (anyT g n || g n)
    rw [anyT_congr fun k hk => h k (by omega), h n (by omega)]
theorem setI_ins (q : Nat → Bool) {m : Nat} (hm : m < 32) : setI q ||| (1 <<< (nI m &&& 31)) = setI (fun j => q j || decide (j = m)) := by
  rw [setI_one hm, setI_or]
theorem nI_predlt {a b : Nat} (ha : a < 2147483648) (hb : b < 2147483648) : nI a - 1 < nI b ↔ a ≤ b := by
  cases a with
  | zero =>
    refine ⟨fun _ => Nat.zero_le _, fun _ => ?_⟩
    have : ¬ nI b < 0 := nI_pos (by omega)
    show Int32.ofNat 0 - 1 < nI b
    rw [Int32.lt_iff_toInt_lt, nI_toInt (by omega)]
    show (-1 : Int) < _
    omega
  | succ a =>
    rw [nI_pred, nI_ltI (by omega) (by omega)]; omega
def canP (p : Nat → Bool) (co : Nat → Int64) (x : Int64) (W : Nat → Nat) (sh : Nat → Nat) (i j : Nat) : Bool := p j && anyT (fun i' => decide (farN (co j ^^^ x) (sumT W i') (W i') < sh i')) i
theorem s_Bu_candidates {a : Nat} {set : Int32} {x : Int64} {cof : Nat → Int64} {sh : Nat → Nat} (B : BuP h P W c kc r lo) (C : BuC h P sh P) (hsh : ∀ i, i < P → sh i ≤ 49) (hW : sumT W P ≤ 48) (ha : hat h a (aL 32 cof)) (hR : R (some (.int (setI (canP (bt set) cof x W sh P)))) h) : Ev G (d + 1) 0 0 M_Bu_candidates 0 [.ref 81, .ref a, .int set, .long x, ev_unk, ev_unk, ev_unk, ev_unk, ev_unk, ev_unk, ev_unk] [] h R := by
  obtain ⟨b1, b2, b3, b4, ⟨brf, b5, b5'⟩, b6, b7, b8, b9, ch0, b10⟩ := B
  obtain ⟨ch, y, z⟩ := C
  refine b_Bu_candidates_0 ?_
  have L := up0 (P := fun i => Ev G (d + 1) 0 0 M_Bu_candidates 9 [.ref 81, .ref a, .int set, .long x, ev_unk, .int (setI (canP (bt set) cof x W sh i)), .int (nI (sumT W i)), .int (nI i), ev_unk, ev_unk, ev_unk] [] h R) P ?_ ?_
  · have e : setI (canP (bt set) cof x W sh 0) = 0 := (setI_congr fun j _ => by unfold canP anyT; simp).trans setI_0.symm
    rw [e] at L; exact L
  · intro i hi ih
    have yes : nI i < nI P := nI_lt hi (by omega)
    have hw := b3 i hi
    have hs := hsh i hi
    have hst : sumT W i + W i ≤ 48 := Nat.le_trans (sumT_mono W (m := i + 1) hi) hW
    refine b_Bu_candidates_9 (j3 := i) b4 b5 (fun _ => ixn (by omega) (by decide)) (fun _ => ?_) (fun q => absurd yes q)
    rw [b5' i hi]
    have L1 := up0 (P := fun m => Ev G (d + 1) 0 0 M_Bu_candidates 37 [.ref 81, .ref a, .int set, .long x, ev_unk, .int (setI (fun j => canP (bt set) cof x W sh i j || (decide (j < m) && (bt set j && decide (farN (cof j ^^^ x) (sumT W i) (W i) < sh i))))), .int (nI (sumT W i)), .int (nI i), .long ((((1 : Int64) <<< ((nI (W i)).toInt64 &&& 63)) - (1 : Int64)) <<< ((nI (sumT W i)).toInt64 &&& 63)), ev_unk, .int (nI m)] [] h R) 32 ?_ ?_
    · have e : setI (fun j => canP (bt set) cof x W sh i j || (decide (j < 0) && (bt set j && decide (farN (cof j ^^^ x) (sumT W i) (W i) < sh i)))) = setI (canP (bt set) cof x W sh i) := setI_congr fun j _ => by simp
      rw [e] at L1; exact L1
    · intro m hm ih2
      have ym : nI m < nI 32 := nI_lt hm (by decide)
      have hf := farN_le (cof m ^^^ x) (sumT W i) (W i)
      have ef : pop ((cof m ^^^ x) &&& ((((1 : Int64) <<< ((nI (W i)).toInt64 &&& 63)) - (1 : Int64)) <<< ((nI (sumT W i)).toInt64 &&& 63))) = farN (cof m ^^^ x) (sumT W i) (W i) := pop_mask _ (by omega) (by omega) (by omega)
      have skip : (bt set m && decide (farN (cof m ^^^ x) (sumT W i) (W i) < sh i)) = false → setI (fun j => canP (bt set) cof x W sh i j || (decide (j < m + 1) && (bt set j && decide (farN (cof j ^^^ x) (sumT W i) (W i) < sh i)))) = setI (fun j => canP (bt set) cof x W sh i j || (decide (j < m) && (bt set j && decide (farN (cof j ^^^ x) (sumT W i) (W i) < sh i)))) := fun q => setI_congr fun j _ => by
        by_cases e : j = m
        · subst e; rw [q]; simp
        · rw [show decide (j < m + 1) = decide (j < m) from decide_eq_decide.mpr (by omega)]
      refine b_Bu_candidates_37 (j2 := m) (j5 := i) ha b4 y b5 (fun _ _ => ixn hm (by decide)) (fun _ _ => ixn (by omega) (by decide)) (fun q => absurd ym q) (fun _ q => ?_) (fun _ q q2 => ?_) (fun _ q q2 => ?_) (fun q => absurd ym q)
      · rw [inI_n hm] at q
        rw [skip (by rw [b2i_e0 q]; rfl)] at ih2
        rw [nI_1]; exact ih2
      · rw [z i hi, ef, nI_predlt (by omega) (by omega)] at q2
        rw [skip (by rw [decide_eq_false (by omega), Bool.and_false])] at ih2
        rw [nI_1]; exact ih2
      · rw [inI_n hm] at q
        rw [z i hi, ef, nI_predlt (by omega) (by omega)] at q2
        have e : setI (fun j => canP (bt set) cof x W sh i j || (decide (j < m + 1) && (bt set j && decide (farN (cof j ^^^ x) (sumT W i) (W i) < sh i)))) = setI (fun j => canP (bt set) cof x W sh i j || (decide (j < m) && (bt set j && decide (farN (cof j ^^^ x) (sumT W i) (W i) < sh i)))) ||| (1 <<< (nI m &&& 31)) := by
          rw [setI_ins _ hm]
          refine setI_congr fun j _ => ?_
          by_cases e : j = m
          · subst e; rw [b2i_n0 q, decide_eq_true (by omega : farN (cof j ^^^ x) (sumT W i) (W i) < sh i)]; simp
          · rw [show decide (j < m + 1) = decide (j < m) from decide_eq_decide.mpr (by omega), decide_eq_false e]; simp
        rw [e] at ih2
        rw [nI_1]; exact ih2
    · have no : ¬ nI 32 < nI 32 := nl_self (by decide)
      refine b_Bu_candidates_37 (j2 := 0) (j5 := i) ha b4 y b5 (fun q => absurd q no) (fun q => absurd q no) (fun _ => ixn (by omega) (by decide)) (fun q => absurd q no) (fun q => absurd q no) (fun q => absurd q no) (fun _ => ?_)
      rw [b5' i hi, nI_add, nI_1]
      have e : setI (fun j => canP (bt set) cof x W sh i j || (decide (j < 32) && (bt set j && decide (farN (cof j ^^^ x) (sumT W i) (W i) < sh i)))) = setI (canP (bt set) cof x W sh (i + 1)) := setI_congr fun j hj => by
        rw [decide_eq_true hj]
        show _ = (bt set j && (anyT _ i || _))
        unfold canP
        cases bt set j <;> simp
      rw [e]; exact ih
  · refine b_Bu_candidates_9 (j3 := 0) b4 b5 (fun q => absurd q (nl_self (by omega))) (fun q => absurd q (nl_self (by omega))) (fun _ => hR)
end S20
end
section
/-! RANKING -/
def RaR (h : ev_H) (n : Nat) (o fr : Nat → Nat) : Prop := n ≤ 32 ∧ ∃ go gf gg, hat h 98 (oC 3 [.ref 99, .ref 100, .ref 101, .int (nI n)]) ∧ hat h 99 (aI 32 go) ∧ hat h 100 (aI 32 gf) ∧ hat h 101 (aI 32 gg) ∧ ∀ j, j < n → go j = nI (o j) ∧ gf j = nI (fr j)
theorem RaR.kg {h h1 : ev_H} {n : Nat} {o fr : Nat → Nat} {lo hi : Nat} (B : RaR h n o fr) (K : Kg h h1 lo hi) (q : hi ≤ 98 ∨ 102 ≤ lo) : RaR h1 n o fr := by
  obtain ⟨b1, go, gf, gg, b2, b3, b4, b5, b6⟩ := B
  exact ⟨b1, go, gf, gg, K.hat b2 (by omega), K.hat b3 (by omega), K.hat b4 (by omega), K.hat b5 (by omega), b6⟩
/-- where a far is put in -/
def ipos (fr : Nat → Nat) (f0 : Nat) : Nat → Nat
  | 0 => 0
  | m + 1 => if f0 < fr m then ipos fr f0 m else m + 1
theorem ipos_le (fr : Nat → Nat) (f0 : Nat) : ∀ m, ipos fr f0 m ≤ m
  | 0 => Nat.le_refl _
  | m + 1 => by
    have := ipos_le fr f0 m
    show (if f0 < fr m then ipos fr f0 m else m + 1) ≤ m + 1
    split <;> omega
def insF (o : Nat → Nat) (k c : Nat) : Nat → Nat := fun j => if j < k then o j else if j = k then c else o (j - 1)
def rkS (p : Nat → Bool) (far : Nat → Nat) : Nat → Nat × (Nat → Nat) × (Nat → Nat)
  | 0 => (0, fun _ => 0, fun _ => 0)
  | m + 1 => if p m then ((rkS p far m).1 + 1, insF (rkS p far m).2.1 (ipos (rkS p far m).2.2 (far m) (rkS p far m).1) m, insF (rkS p far m).2.2 (ipos (rkS p far m).2.2 (far m) (rkS p far m).1) (far m)) else rkS p far m
theorem rkS_n (p : Nat → Bool) (far : Nat → Nat) : ∀ m, (rkS p far m).1 = cnt p m
  | 0 => rfl
  | m + 1 => by
    have := rkS_n p far m
    show (if p m then _ else rkS p far m).1 = cnt p m + if p m then 1 else 0
    cases p m
    · exact this
    · show (rkS p far m).1 + 1 = _; rw [this]; rfl
theorem rkS_le (p : Nat → Bool) {far : Nat → Nat} (hf : ∀ j, far j ≤ 64) : ∀ m j, j < (rkS p far m).1 → (rkS p far m).2.2 j ≤ 64 ∧ (rkS p far m).2.1 j < m
  | 0, j, h => absurd h (Nat.not_lt_zero j)
  | m + 1, j, h => by
    have ih := rkS_le p hf m
    have e : rkS p far (m + 1) = if p m then ((rkS p far m).1 + 1, insF (rkS p far m).2.1 (ipos (rkS p far m).2.2 (far m) (rkS p far m).1) m, insF (rkS p far m).2.2 (ipos (rkS p far m).2.2 (far m) (rkS p far m).1) (far m)) else rkS p far m := rfl
    rw [e] at h ⊢
    cases q : p m
    · rw [q] at h
      simp only [Bool.false_eq_true, if_false] at h ⊢
      have := ih j h; omega
    · rw [q] at h
      simp only [if_true] at h ⊢
      have hk := ipos_le (rkS p far m).2.2 (far m) (rkS p far m).1
      unfold insF
      by_cases c1 : j < ipos (rkS p far m).2.2 (far m) (rkS p far m).1
      · rw [if_pos c1, if_pos c1]; have := ih j (by omega); omega
      · by_cases c2 : j = ipos (rkS p far m).2.2 (far m) (rkS p far m).1
        · rw [if_neg c1, if_pos c2, if_neg c1, if_pos c2]; have := hf m; omega
        · rw [if_neg c1, if_neg c2, if_neg c1, if_neg c2]; have := ih (j - 1) (by omega); omega
theorem b_Ra_insert_0 {G : ev_G} {d k n : Nat} {h : ev_H} {R : Option Value → ev_H → Prop} {x1 : Int32} {x2 : Int32} {f_size_1 : Int32}
  (a1 : hat h 98 (oC 3 [.ref 99, .ref 100, .ref 101, .int f_size_1]))
  (k1 : Ev G d k n M_Ra_insert 5 [.ref 98, .int x1, .int x2, .int f_size_1] [] h R)
  : Ev G d k n M_Ra_insert 0 [.ref 98, .int x1, .int x2, ev_unk] [] h R :=
  Ev.go (pc' := 1) (ls' := [.ref 98, .int x1, .int x2, ev_unk]) (st' := [.ref 98]) [.aload_n 0] (by decide +kernel) rfl <|
  Ev.getf f_Ra_21 (by decide +kernel) a1 rfl <|
  Ev.go (pc' := 5) (ls' := [.ref 98, .int x1, .int x2, .int f_size_1]) (st' := []) [.istore_n 3] (by decide +kernel) rfl <|
  k1
theorem b_Ra_insert_5 {G : ev_G} {d k n : Nat} {h : ev_H} {R : Option Value → ev_H → Prop} {x1 : Int32} {x2 : Int32} {x3 : Int32} {f_size_1 : Int32} {g2 : Nat → Int32} {j3 : Nat} {g4 : Nat → Int32} {j5 : Nat}
  (a1 : hat h 98 (oC 3 [.ref 99, .ref 100, .ref 101, .int f_size_1]))
  (a2 : hat h 100 (aI 32 g2))
  (a4 : hat h 99 (aI 32 g4))
  (i3 : (0 : Int32) < x3 → ev_ix (x3 - (1 : Int32)) j3 32)
  (i5 : (0 : Int32) < x3 → x2 < (g2 j3) → ev_ix (x3 - (1 : Int32)) j3 32)
  (i6 : (0 : Int32) < x3 → x2 < (g2 j3) → ev_ix x3 j5 32)
  (k1 : (0 : Int32) < x3 → x2 < (g2 j3) → Ev G d k n M_Ra_insert 5 [.ref 98, .int x1, .int x2, .int (x3 + (-1 : Int32))] [] (hset (hset h 99 (aI 32 (upd g4 j5 (g4 j3)))) 100 (aI 32 (upd g2 j5 (g2 j3)))) R)
  (k2 : (0 : Int32) < x3 → ¬ x2 < (g2 j3) → Ev G d k n M_Ra_insert 55 [.ref 98, .int x1, .int x2, .int x3] [] h R)
  (k3 : ¬ (0 : Int32) < x3 → Ev G d k n M_Ra_insert 55 [.ref 98, .int x1, .int x2, .int x3] [] h R)
  : Ev G d k n M_Ra_insert 5 [.ref 98, .int x1, .int x2, .int x3] [] h R :=
  Ev.go (pc' := 6) (ls' := [.ref 98, .int x1, .int x2, .int x3]) (st' := [.int x3]) [.iload_n 3] (by decide +kernel) rfl <|
  Ev.br (i := .ifCond .le (49)) (P := (0 : Int32) < x3) (t := 9) (f := 55) (r := []) (by decide +kernel) rfl (fun c1 =>
    Ev.go (pc' := 10) (ls' := [.ref 98, .int x1, .int x2, .int x3]) (st' := [.ref 98]) [.aload_n 0] (by decide +kernel) rfl <|
    Ev.getf f_Ra_15 (by decide +kernel) a1 rfl <|
    Ev.go (pc' := 16) (ls' := [.ref 98, .int x1, .int x2, .int x3]) (st' := [.int (x3 - (1 : Int32)), .ref 100]) [.iload_n 3, .iconst 1, .isub] (by decide +kernel) rfl <|
    Ev.iald (j := j3) (by decide +kernel) a2 (i3 c1) <|
    Ev.go (pc' := 18) (ls' := [.ref 98, .int x1, .int x2, .int x3]) (st' := [.int x2, .int (g2 j3)]) [.iload_n 2] (by decide +kernel) rfl <|
    Ev.br (i := .if_icmp .le (37)) (P := x2 < (g2 j3)) (t := 21) (f := 55) (r := []) (by decide +kernel) rfl (fun c2 =>
      Ev.go (pc' := 22) (ls' := [.ref 98, .int x1, .int x2, .int x3]) (st' := [.ref 98]) [.aload_n 0] (by decide +kernel) rfl <|
      Ev.getf f_Ra_9 (by decide +kernel) a1 rfl <|
      Ev.go (pc' := 27) (ls' := [.ref 98, .int x1, .int x2, .int x3]) (st' := [.ref 98, .int x3, .ref 99]) [.iload_n 3, .aload_n 0] (by decide +kernel) rfl <|
      Ev.getf f_Ra_9 (by decide +kernel) a1 rfl <|
      Ev.go (pc' := 33) (ls' := [.ref 98, .int x1, .int x2, .int x3]) (st' := [.int (x3 - (1 : Int32)), .ref 99, .int x3, .ref 99]) [.iload_n 3, .iconst 1, .isub] (by decide +kernel) rfl <|
      Ev.iald (j := j3) (by decide +kernel) a4 (i5 c1 c2) <|
      Ev.iast (j := j5) (by decide +kernel) a4 (i6 c1 c2) <| show Ev G d _ _ M_Ra_insert 35 [.ref 98, .int x1, .int x2, .int x3] [] (hset h 99 (aI 32 (upd g4 j5 (g4 j3)))) R from
      Ev.go (pc' := 36) (ls' := [.ref 98, .int x1, .int x2, .int x3]) (st' := [.ref 98]) [.aload_n 0] (by decide +kernel) rfl <|
      Ev.getf f_Ra_15 (by decide +kernel) (hat_ne a1 (by decide)) rfl <|
      Ev.go (pc' := 41) (ls' := [.ref 98, .int x1, .int x2, .int x3]) (st' := [.ref 98, .int x3, .ref 100]) [.iload_n 3, .aload_n 0] (by decide +kernel) rfl <|
      Ev.getf f_Ra_15 (by decide +kernel) (hat_ne a1 (by decide)) rfl <|
      Ev.go (pc' := 47) (ls' := [.ref 98, .int x1, .int x2, .int x3]) (st' := [.int (x3 - (1 : Int32)), .ref 100, .int x3, .ref 100]) [.iload_n 3, .iconst 1, .isub] (by decide +kernel) rfl <|
      Ev.iald (j := j3) (by decide +kernel) (hat_ne a2 (by decide)) (i5 c1 c2) <|
      Ev.iast (j := j5) (by decide +kernel) (hat_ne a2 (by decide)) (i6 c1 c2) <| show Ev G d _ _ M_Ra_insert 49 [.ref 98, .int x1, .int x2, .int x3] [] (hset (hset h 99 (aI 32 (upd g4 j5 (g4 j3)))) 100 (aI 32 (upd g2 j5 (g2 j3)))) R from
      Ev.go (pc' := 5) (ls' := [.ref 98, .int x1, .int x2, .int (x3 + (-1 : Int32))]) (st' := []) [.iinc 3 (-1), .goto (-47)] (by decide +kernel) rfl <|
      (k1 c1 c2)
    ) (fun c2 =>
      (k2 c1 c2)
    )
  ) (fun c1 =>
    (k3 c1)
  )
theorem b_Ra_insert_55 {G : ev_G} {d k n : Nat} {h : ev_H} {R : Option Value → ev_H → Prop} {x1 : Int32} {x2 : Int32} {x3 : Int32} {f_size_1 : Int32} {g2 : Nat → Int32} {j3 : Nat} {g4 : Nat → Int32}
  (a1 : hat h 98 (oC 3 [.ref 99, .ref 100, .ref 101, .int f_size_1]))
  (a2 : hat h 99 (aI 32 g2))
  (a4 : hat h 100 (aI 32 g4))
  (i3 : ev_ix x3 j3 32)
  (k1 : R none (hset (hset (hset h 99 (aI 32 (upd g2 j3 x1))) 100 (aI 32 (upd g4 j3 x2))) 98 (oC 3 [.ref 99, .ref 100, .ref 101, .int (f_size_1 + (1 : Int32))])))
  : Ev G d k n M_Ra_insert 55 [.ref 98, .int x1, .int x2, .int x3] [] h R :=
  Ev.go (pc' := 56) (ls' := [.ref 98, .int x1, .int x2, .int x3]) (st' := [.ref 98]) [.aload_n 0] (by decide +kernel) rfl <|
  Ev.getf f_Ra_9 (by decide +kernel) a1 rfl <|
  Ev.go (pc' := 61) (ls' := [.ref 98, .int x1, .int x2, .int x3]) (st' := [.int x1, .int x3, .ref 99]) [.iload_n 3, .iload_n 1] (by decide +kernel) rfl <|
  Ev.iast (j := j3) (by decide +kernel) a2 i3 <| show Ev G d _ _ M_Ra_insert 62 [.ref 98, .int x1, .int x2, .int x3] [] (hset h 99 (aI 32 (upd g2 j3 x1))) R from
  Ev.go (pc' := 63) (ls' := [.ref 98, .int x1, .int x2, .int x3]) (st' := [.ref 98]) [.aload_n 0] (by decide +kernel) rfl <|
  Ev.getf f_Ra_15 (by decide +kernel) (hat_ne a1 (by decide)) rfl <|
  Ev.go (pc' := 68) (ls' := [.ref 98, .int x1, .int x2, .int x3]) (st' := [.int x2, .int x3, .ref 100]) [.iload_n 3, .iload_n 2] (by decide +kernel) rfl <|
  Ev.iast (j := j3) (by decide +kernel) (hat_ne a4 (by decide)) i3 <| show Ev G d _ _ M_Ra_insert 69 [.ref 98, .int x1, .int x2, .int x3] [] (hset (hset h 99 (aI 32 (upd g2 j3 x1))) 100 (aI 32 (upd g4 j3 x2))) R from
  Ev.go (pc' := 71) (ls' := [.ref 98, .int x1, .int x2, .int x3]) (st' := [.ref 98, .ref 98]) [.aload_n 0, .dup] (by decide +kernel) rfl <|
  Ev.getf f_Ra_21 (by decide +kernel) (hat_ne (hat_ne a1 (by decide)) (by decide)) rfl <|
  Ev.go (pc' := 76) (ls' := [.ref 98, .int x1, .int x2, .int x3]) (st' := [.int (f_size_1 + (1 : Int32)), .ref 98]) [.iconst 1, .iadd] (by decide +kernel) rfl <|
  Ev.putf f_Ra_21 (by decide +kernel) (hat_ne (hat_ne a1 (by decide)) (by decide)) (Nat.le_of_ble_eq_true rfl) rfl (fun q => nomatch q) <| show Ev G d _ _ M_Ra_insert 79 [.ref 98, .int x1, .int x2, .int x3] [] (hset (hset (hset h 99 (aI 32 (upd g2 j3 x1))) 100 (aI 32 (upd g4 j3 x2))) 98 (oC 3 [.ref 99, .ref 100, .ref 101, .int (f_size_1 + (1 : Int32))])) R from
  Ev.ret (r := none) (Or.inr (Or.inr (Or.inl ⟨rfl, by decide +kernel, rfl⟩))) k1
theorem b_Ra_rank_0 {G : ev_G} {d k n : Nat} {h : ev_H} {R : Option Value → ev_H → Prop} {x1 : Nat} {x2 : Int32} {x3 : Int64} {f_size_1 : Int32}
  (a1 : hat h 98 (oC 3 [.ref 99, .ref 100, .ref 101, .int f_size_1]))
  (k1 : Ev G (d + 2) k n M_Ra_rank 8 [.ref 98, .ref x1, .int x2, .long x3, ev_unk, .int (0 : Int32)] [] (hset h 98 (oC 3 [.ref 99, .ref 100, .ref 101, .int (0 : Int32)])) R)
  : Ev G (d + 2) k n M_Ra_rank 0 [.ref 98, .ref x1, .int x2, .long x3, ev_unk, ev_unk] [] h R :=
  Ev.go (pc' := 2) (ls' := [.ref 98, .ref x1, .int x2, .long x3, ev_unk, ev_unk]) (st' := [.int (0 : Int32), .ref 98]) [.aload_n 0, .iconst 0] (by decide +kernel) rfl <|
  Ev.putf f_Ra_21 (by decide +kernel) a1 (Nat.le_of_ble_eq_true rfl) rfl (fun q => nomatch q) <| show Ev G (d + 2) _ _ M_Ra_rank 5 [.ref 98, .ref x1, .int x2, .long x3, ev_unk, ev_unk] [] (hset h 98 (oC 3 [.ref 99, .ref 100, .ref 101, .int (0 : Int32)])) R from
  Ev.go (pc' := 8) (ls' := [.ref 98, .ref x1, .int x2, .long x3, ev_unk, .int (0 : Int32)]) (st' := []) [.iconst 0, .istore 5] (by decide +kernel) rfl <|
  k1
theorem b_Ra_rank_8 {G : ev_G} {d k n : Nat} {h : ev_H} {R : Option Value → ev_H → Prop} {x1 : Nat} {x2 : Int32} {x3 : Int64} {x5 : Int32} {g1 : Nat → Int64} {j2 : Nat}
  (a1 : hat h x1 (aL 32 g1))
  (i2 : x5 < (32 : Int32) → ¬ (b2i (inI x2 x5)) = (0 : Int32) → ev_ix x5 j2 32)
  (r3 : x5 < (32 : Int32) → ¬ (b2i (inI x2 x5)) = (0 : Int32) → ∃ fs, hat h 98 (oC 3 fs))
  (k1 : x5 < (32 : Int32) → (b2i (inI x2 x5)) = (0 : Int32) → Ev G (d + 2) k n M_Ra_rank 38 [.ref 98, .ref x1, .int x2, .long x3, ev_unk, .int x5] [] h R)
  (k2 : x5 < (32 : Int32) → ¬ (b2i (inI x2 x5)) = (0 : Int32) → Ev G (d + 1) 0 0 M_Ra_insert 0 [.ref 98, .int x5, .int (nI (pop ((g1 j2) ^^^ x3))), ev_unk] [] h (fun r h1 => Ev G (d + 2) k n M_Ra_rank 38 [.ref 98, .ref x1, .int x2, .long x3, ev_unk, .int x5] (r.toList ++ []) h1 R))
  (k3 : ¬ x5 < (32 : Int32) → R none h)
  : Ev G (d + 2) k n M_Ra_rank 8 [.ref 98, .ref x1, .int x2, .long x3, ev_unk, .int x5] [] h R :=
  Ev.go (pc' := 12) (ls' := [.ref 98, .ref x1, .int x2, .long x3, ev_unk, .int x5]) (st' := [.int (32 : Int32), .int x5]) [.iload 5, .bipush (32)] (by decide +kernel) rfl <|
  Ev.br (i := .if_icmp .ge (32)) (P := x5 < (32 : Int32)) (t := 15) (f := 44) (r := []) (by decide +kernel) rfl (fun c1 =>
    Ev.go (pc' := 18) (ls' := [.ref 98, .ref x1, .int x2, .long x3, ev_unk, .int x5]) (st' := [.int x5, .int x2]) [.iload_n 2, .iload 5] (by decide +kernel) rfl <|
    Ev.cSN0 (M' := M_X_isIn) (as := [.int x2, .int x5]) (rest := []) l_Ra_25 M_X_isIn_ok M_X_isIn_st (by decide +kernel) rfl rfl (Nat.le_of_ble_eq_true rfl) (Nat.le_of_ble_eq_true rfl) (s_X_isIn <| show Ev G (d + 2) _ _ M_Ra_rank 21 [.ref 98, .ref x1, .int x2, .long x3, ev_unk, .int x5] [.int (b2i (inI x2 x5))] h R from
      Ev.br (i := .ifCond .eq (17)) (P := (b2i (inI x2 x5)) = (0 : Int32)) (t := 38) (f := 24) (r := []) (by decide +kernel) rfl (fun c2 =>
        (k1 c1 c2)
      ) (fun c2 =>
        Ev.go (pc' := 30) (ls' := [.ref 98, .ref x1, .int x2, .long x3, ev_unk, .int x5]) (st' := [.int x5, .ref x1, .int x5, .ref 98]) [.aload_n 0, .iload 5, .aload_n 1, .iload 5] (by decide +kernel) rfl <|
        Ev.lald (j := j2) (by decide +kernel) a1 (i2 c1 c2) <|
        Ev.go (pc' := 32) (ls' := [.ref 98, .ref x1, .int x2, .long x3, ev_unk, .int x5]) (st' := [.long x3, .long (g1 j2), .int x5, .ref 98]) [.lload_n 3] (by decide +kernel) rfl <|
        Ev.cSN0 (M' := M_X_unlike) (as := [.long (g1 j2), .long x3]) (rest := [.int x5, .ref 98]) l_Ra_29 M_X_unlike_ok M_X_unlike_st (by decide +kernel) rfl rfl (Nat.le_of_ble_eq_true rfl) (Nat.le_of_ble_eq_true rfl) (s_X_unlike <| show Ev G (d + 2) _ _ M_Ra_rank 35 [.ref 98, .ref x1, .int x2, .long x3, ev_unk, .int x5] [.int (nI (pop ((g1 j2) ^^^ x3))), .int x5, .ref 98] h R from
          Ev.cV0 (M' := M_Ra_insert) (as := [.int x5, .int (nI (pop ((g1 j2) ^^^ x3)))]) (rest := []) l_Ra_33 M_Ra_insert_ok M_Ra_insert_in M_Ra_insert_se (by decide +kernel) (r3 c1 c2) rfl rfl rfl (Nat.le_of_ble_eq_true rfl) (Nat.le_of_ble_eq_true rfl) (k2 c1 c2)
        )
      )
    )
  ) (fun c1 =>
    Ev.ret (r := none) (Or.inr (Or.inr (Or.inl ⟨rfl, by decide +kernel, rfl⟩))) (k3 c1)
  )
theorem b_Ra_rank_38 {G : ev_G} {d k n : Nat} {h : ev_H} {R : Option Value → ev_H → Prop} {x1 : Nat} {x2 : Int32} {x3 : Int64} {x5 : Int32}
  (k1 : Ev G (d + 2) k n M_Ra_rank 8 [.ref 98, .ref x1, .int x2, .long x3, ev_unk, .int (x5 + (1 : Int32))] [] h R)
  : Ev G (d + 2) k n M_Ra_rank 38 [.ref 98, .ref x1, .int x2, .long x3, ev_unk, .int x5] [] h R :=
  Ev.go (pc' := 8) (ls' := [.ref 98, .ref x1, .int x2, .long x3, ev_unk, .int (x5 + (1 : Int32))]) (st' := []) [.iinc 5 (1), .goto (-33)] (by decide +kernel) rfl <|
  k1
theorem b_Ra_takenApart_0 {G : ev_G} {d k n : Nat} {h : ev_H} {R : Option Value → ev_H → Prop} {x1 : Nat} {x2 : Int32} {f_size_1 : Int32}
  (a1 : hat h 98 (oC 3 [.ref 99, .ref 100, .ref 101, .int f_size_1]))
  (k1 : Ev G (d + 1) 0 0 M_JA_fill 0 [.ref 101, .int (49 : Int32), ev_unk, ev_unk] [] h (fun r h1 => Ev G (d + 2) k n M_Ra_takenApart 9 [.ref 98, .ref x1, .int x2, ev_unk, ev_unk, ev_unk, ev_unk] (r.toList ++ []) h1 R))
  : Ev G (d + 2) k n M_Ra_takenApart 0 [.ref 98, .ref x1, .int x2, ev_unk, ev_unk, ev_unk, ev_unk] [] h R :=
  Ev.go (pc' := 1) (ls' := [.ref 98, .ref x1, .int x2, ev_unk, ev_unk, ev_unk, ev_unk]) (st' := [.ref 98]) [.aload_n 0] (by decide +kernel) rfl <|
  Ev.getf f_Ra_18 (by decide +kernel) a1 rfl <|
  Ev.go (pc' := 6) (ls' := [.ref 98, .ref x1, .int x2, ev_unk, ev_unk, ev_unk, ev_unk]) (st' := [.int (49 : Int32), .ref 101]) [.bipush (49)] (by decide +kernel) rfl <|
  Ev.cS0 (M' := M_JA_fill) (as := [.ref 101, .int (49 : Int32)]) (rest := []) l_Ra_37 M_JA_fill_ok M_JA_fill_st (by decide +kernel) rfl rfl (Nat.le_of_ble_eq_true rfl) (Nat.le_of_ble_eq_true rfl) k1
theorem b_Ra_takenApart_9 {G : ev_G} {d k n : Nat} {h : ev_H} {R : Option Value → ev_H → Prop} {x1 : Nat} {x2 : Int32}
  (k1 : Ev G (d + 2) k n M_Ra_takenApart 14 [.ref 98, .ref x1, .int x2, .int (0 : Int32), .int (0 : Int32), ev_unk, ev_unk] [] h R)
  : Ev G (d + 2) k n M_Ra_takenApart 9 [.ref 98, .ref x1, .int x2, ev_unk, ev_unk, ev_unk, ev_unk] [] h R :=
  Ev.go (pc' := 14) (ls' := [.ref 98, .ref x1, .int x2, .int (0 : Int32), .int (0 : Int32), ev_unk, ev_unk]) (st' := []) [.iconst 0, .istore_n 3, .iconst 0, .istore 4] (by decide +kernel) rfl <|
  k1
theorem b_Ra_takenApart_14 {G : ev_G} {d k n : Nat} {h : ev_H} {R : Option Value → ev_H → Prop} {x1 : Nat} {x2 : Int32} {x3 : Int32} {x4 : Int32} {f_size_1 : Int32} {g2 : Nat → Int32} {j3 : Nat}
  (a1 : hat h 98 (oC 3 [.ref 99, .ref 100, .ref 101, .int f_size_1]))
  (a2 : hat h 99 (aI 32 g2))
  (i3 : ¬ x4 < x2 → ev_ix x3 j3 32)
  (k1 : x4 < x2 → Ev G (d + 2) k n M_Ra_takenApart 26 [.ref 98, .ref x1, .int x2, .int x3, .int x4, .int (0 : Int32), .int (0 : Int32)] [] h R)
  (k2 : ¬ x4 < x2 → R (some (.int (g2 j3))) h)
  : Ev G (d + 2) k n M_Ra_takenApart 14 [.ref 98, .ref x1, .int x2, .int x3, .int x4, ev_unk, ev_unk] [] h R :=
  Ev.go (pc' := 17) (ls' := [.ref 98, .ref x1, .int x2, .int x3, .int x4, ev_unk, ev_unk]) (st' := [.int x2, .int x4]) [.iload 4, .iload_n 2] (by decide +kernel) rfl <|
  Ev.br (i := .if_icmp .ge (96)) (P := x4 < x2) (t := 20) (f := 113) (r := []) (by decide +kernel) rfl (fun c1 =>
    Ev.go (pc' := 26) (ls' := [.ref 98, .ref x1, .int x2, .int x3, .int x4, .int (0 : Int32), .int (0 : Int32)]) (st' := []) [.iconst 0, .istore 5, .iconst 0, .istore 6] (by decide +kernel) rfl <|
    (k1 c1)
  ) (fun c1 =>
    Ev.go (pc' := 114) (ls' := [.ref 98, .ref x1, .int x2, .int x3, .int x4, ev_unk, ev_unk]) (st' := [.ref 98]) [.aload_n 0] (by decide +kernel) rfl <|
    Ev.getf f_Ra_9 (by decide +kernel) a1 rfl <|
    Ev.go (pc' := 118) (ls' := [.ref 98, .ref x1, .int x2, .int x3, .int x4, ev_unk, ev_unk]) (st' := [.int x3, .ref 99]) [.iload_n 3] (by decide +kernel) rfl <|
    Ev.iald (j := j3) (by decide +kernel) a2 (i3 c1) <|
    Ev.ret (r := (some (.int (g2 j3)))) (Or.inl ⟨_, rfl, by decide +kernel, _, rfl, rfl⟩) (k2 c1)
  )
theorem b_Ra_takenApart_26 {G : ev_G} {d k n : Nat} {h : ev_H} {R : Option Value → ev_H → Prop} {x1 : Nat} {x2 : Int32} {x3 : Int32} {x4 : Int32} {x5 : Int32} {x6 : Int32} {f_size_1 : Int32} {g2 : Nat → Int32} {j3 : Nat} {g4 : Nat → Int32} {g5 : Nat → Int64} {j6 : Nat} {j7 : Nat} {j8 : Nat} {j9 : Nat}
  (a1 : hat h 98 (oC 3 [.ref 99, .ref 100, .ref 101, .int f_size_1]))
  (a2 : hat h 101 (aI 32 g2))
  (a4 : hat h 99 (aI 32 g4))
  (a5 : hat h x1 (aL 32 g5))
  (i3 : x6 < f_size_1 → ev_ix x6 j3 32)
  (i6 : x6 < f_size_1 → ev_ix (g4 j3) j6 32)
  (i7 : x6 < f_size_1 → ev_ix x3 j7 32)
  (i8 : x6 < f_size_1 → ev_ix (g4 j7) j8 32)
  (e9 : x6 < f_size_1 → x1 ≠ 101)
  (i10 : x6 < f_size_1 → ev_ix x5 j9 32)
  (k1 : x6 < f_size_1 → ((upd g2 j3 (if (nI (pop ((g5 j6) ^^^ (g5 j8)))) < (g2 j3) then (nI (pop ((g5 j6) ^^^ (g5 j8)))) else (g2 j3))) j9) < ((upd g2 j3 (if (nI (pop ((g5 j6) ^^^ (g5 j8)))) < (g2 j3) then (nI (pop ((g5 j6) ^^^ (g5 j8)))) else (g2 j3))) j3) → Ev G (d + 2) k n M_Ra_takenApart 26 [.ref 98, .ref x1, .int x2, .int x3, .int x4, .int x6, .int (x6 + (1 : Int32))] [] (hset h 101 (aI 32 (upd g2 j3 (if (nI (pop ((g5 j6) ^^^ (g5 j8)))) < (g2 j3) then (nI (pop ((g5 j6) ^^^ (g5 j8)))) else (g2 j3))))) R)
  (k2 : x6 < f_size_1 → ¬ ((upd g2 j3 (if (nI (pop ((g5 j6) ^^^ (g5 j8)))) < (g2 j3) then (nI (pop ((g5 j6) ^^^ (g5 j8)))) else (g2 j3))) j9) < ((upd g2 j3 (if (nI (pop ((g5 j6) ^^^ (g5 j8)))) < (g2 j3) then (nI (pop ((g5 j6) ^^^ (g5 j8)))) else (g2 j3))) j3) → Ev G (d + 2) k n M_Ra_takenApart 26 [.ref 98, .ref x1, .int x2, .int x3, .int x4, .int x5, .int (x6 + (1 : Int32))] [] (hset h 101 (aI 32 (upd g2 j3 (if (nI (pop ((g5 j6) ^^^ (g5 j8)))) < (g2 j3) then (nI (pop ((g5 j6) ^^^ (g5 j8)))) else (g2 j3))))) R)
  (k3 : ¬ x6 < f_size_1 → Ev G (d + 2) k n M_Ra_takenApart 14 [.ref 98, .ref x1, .int x2, .int x5, .int (x4 + (1 : Int32)), ev_unk, ev_unk] [] h R)
  : Ev G (d + 2) k n M_Ra_takenApart 26 [.ref 98, .ref x1, .int x2, .int x3, .int x4, .int x5, .int x6] [] h R :=
  Ev.go (pc' := 29) (ls' := [.ref 98, .ref x1, .int x2, .int x3, .int x4, .int x5, .int x6]) (st' := [.ref 98, .int x6]) [.iload 6, .aload_n 0] (by decide +kernel) rfl <|
  Ev.getf f_Ra_21 (by decide +kernel) a1 rfl <|
  Ev.br (i := .if_icmp .ge (72)) (P := x6 < f_size_1) (t := 35) (f := 104) (r := []) (by decide +kernel) rfl (fun c1 =>
    Ev.go (pc' := 36) (ls' := [.ref 98, .ref x1, .int x2, .int x3, .int x4, .int x5, .int x6]) (st' := [.ref 98]) [.aload_n 0] (by decide +kernel) rfl <|
    Ev.getf f_Ra_18 (by decide +kernel) a1 rfl <|
    Ev.go (pc' := 42) (ls' := [.ref 98, .ref x1, .int x2, .int x3, .int x4, .int x5, .int x6]) (st' := [.ref 98, .int x6, .ref 101]) [.iload 6, .aload_n 0] (by decide +kernel) rfl <|
    Ev.getf f_Ra_18 (by decide +kernel) a1 rfl <|
    Ev.go (pc' := 47) (ls' := [.ref 98, .ref x1, .int x2, .int x3, .int x4, .int x5, .int x6]) (st' := [.int x6, .ref 101, .int x6, .ref 101]) [.iload 6] (by decide +kernel) rfl <|
    Ev.iald (j := j3) (by decide +kernel) a2 (i3 c1) <|
    Ev.go (pc' := 50) (ls' := [.ref 98, .ref x1, .int x2, .int x3, .int x4, .int x5, .int x6]) (st' := [.ref 98, .ref x1, .int (g2 j3), .int x6, .ref 101]) [.aload_n 1, .aload_n 0] (by decide +kernel) rfl <|
    Ev.getf f_Ra_9 (by decide +kernel) a1 rfl <|
    Ev.go (pc' := 55) (ls' := [.ref 98, .ref x1, .int x2, .int x3, .int x4, .int x5, .int x6]) (st' := [.int x6, .ref 99, .ref x1, .int (g2 j3), .int x6, .ref 101]) [.iload 6] (by decide +kernel) rfl <|
    Ev.iald (j := j3) (by decide +kernel) a4 (i3 c1) <|
    Ev.lald (j := j6) (by decide +kernel) a5 (i6 c1) <|
    Ev.go (pc' := 59) (ls' := [.ref 98, .ref x1, .int x2, .int x3, .int x4, .int x5, .int x6]) (st' := [.ref 98, .ref x1, .long (g5 j6), .int (g2 j3), .int x6, .ref 101]) [.aload_n 1, .aload_n 0] (by decide +kernel) rfl <|
    Ev.getf f_Ra_9 (by decide +kernel) a1 rfl <|
    Ev.go (pc' := 63) (ls' := [.ref 98, .ref x1, .int x2, .int x3, .int x4, .int x5, .int x6]) (st' := [.int x3, .ref 99, .ref x1, .long (g5 j6), .int (g2 j3), .int x6, .ref 101]) [.iload_n 3] (by decide +kernel) rfl <|
    Ev.iald (j := j7) (by decide +kernel) a4 (i7 c1) <|
    Ev.lald (j := j8) (by decide +kernel) a5 (i8 c1) <|
    Ev.cSN0 (M' := M_X_unlike) (as := [.long (g5 j6), .long (g5 j8)]) (rest := [.int (g2 j3), .int x6, .ref 101]) l_Ra_29 M_X_unlike_ok M_X_unlike_st (by decide +kernel) rfl rfl (Nat.le_of_ble_eq_true rfl) (Nat.le_of_ble_eq_true rfl) (s_X_unlike <| show Ev G (d + 2) _ _ M_Ra_takenApart 68 [.ref 98, .ref x1, .int x2, .int x3, .int x4, .int x5, .int x6] [.int (nI (pop ((g5 j6) ^^^ (g5 j8)))), .int (g2 j3), .int x6, .ref 101] h R from
      Ev.mmin lL_Ra_43 w_minS w_mathI w_minC (Nat.le_of_ble_eq_true rfl) (by decide +kernel) <|
      Ev.iast (j := j3) (by decide +kernel) a2 (i3 c1) <| show Ev G (d + 2) _ _ M_Ra_takenApart 72 [.ref 98, .ref x1, .int x2, .int x3, .int x4, .int x5, .int x6] [] (hset h 101 (aI 32 (upd g2 j3 (if (nI (pop ((g5 j6) ^^^ (g5 j8)))) < (g2 j3) then (nI (pop ((g5 j6) ^^^ (g5 j8)))) else (g2 j3))))) R from
      Ev.go (pc' := 73) (ls' := [.ref 98, .ref x1, .int x2, .int x3, .int x4, .int x5, .int x6]) (st' := [.ref 98]) [.aload_n 0] (by decide +kernel) rfl <|
      Ev.getf f_Ra_18 (by decide +kernel) (hat_ne a1 (by decide)) rfl <|
      Ev.go (pc' := 78) (ls' := [.ref 98, .ref x1, .int x2, .int x3, .int x4, .int x5, .int x6]) (st' := [.int x6, .ref 101]) [.iload 6] (by decide +kernel) rfl <|
      Ev.iald (j := j3) (by decide +kernel) (hat_set a2) (i3 c1) <|
      Ev.go (pc' := 80) (ls' := [.ref 98, .ref x1, .int x2, .int x3, .int x4, .int x5, .int x6]) (st' := [.ref 98, .int ((upd g2 j3 (if (nI (pop ((g5 j6) ^^^ (g5 j8)))) < (g2 j3) then (nI (pop ((g5 j6) ^^^ (g5 j8)))) else (g2 j3))) j3)]) [.aload_n 0] (by decide +kernel) rfl <|
      Ev.getf f_Ra_18 (by decide +kernel) (hat_ne a1 (by decide)) rfl <|
      Ev.go (pc' := 85) (ls' := [.ref 98, .ref x1, .int x2, .int x3, .int x4, .int x5, .int x6]) (st' := [.int x5, .ref 101, .int ((upd g2 j3 (if (nI (pop ((g5 j6) ^^^ (g5 j8)))) < (g2 j3) then (nI (pop ((g5 j6) ^^^ (g5 j8)))) else (g2 j3))) j3)]) [.iload 5] (by decide +kernel) rfl <|
      Ev.iald (j := j9) (by decide +kernel) (hat_set a2) (i10 c1) <|
      Ev.br (i := .if_icmp .le (8)) (P := ((upd g2 j3 (if (nI (pop ((g5 j6) ^^^ (g5 j8)))) < (g2 j3) then (nI (pop ((g5 j6) ^^^ (g5 j8)))) else (g2 j3))) j9) < ((upd g2 j3 (if (nI (pop ((g5 j6) ^^^ (g5 j8)))) < (g2 j3) then (nI (pop ((g5 j6) ^^^ (g5 j8)))) else (g2 j3))) j3)) (t := 89) (f := 94) (r := []) (by decide +kernel) rfl (fun c2 =>
        Ev.go (pc' := 26) (ls' := [.ref 98, .ref x1, .int x2, .int x3, .int x4, .int x6, .int (x6 + (1 : Int32))]) (st' := []) [.iload 6, .goto (5), .istore 5, .iinc 6 (1), .goto (-75)] (by decide +kernel) rfl <|
        (k1 c1 c2)
      ) (fun c2 =>
        Ev.go (pc' := 26) (ls' := [.ref 98, .ref x1, .int x2, .int x3, .int x4, .int x5, .int (x6 + (1 : Int32))]) (st' := []) [.iload 5, .istore 5, .iinc 6 (1), .goto (-75)] (by decide +kernel) rfl <|
        (k2 c1 c2)
      )
    )
  ) (fun c1 =>
    Ev.go (pc' := 14) (ls' := [.ref 98, .ref x1, .int x2, .int x5, .int (x4 + (1 : Int32)), .int x5, .int x6]) (st' := []) [.iload 5, .istore_n 3, .iinc 4 (1), .goto (-96)] (by decide +kernel) rfl <|
    Ev.forget (ls' := [.ref 98, .ref x1, .int x2, .int x5, .int (x4 + (1 : Int32)), ev_unk, ev_unk]) ⟨Or.inr rfl, Or.inr rfl, Or.inr rfl, Or.inr rfl, Or.inr rfl, Or.inl rfl, Or.inl rfl, trivial⟩ <|
    (k3 c1)
  )
section S21
variable {G : ev_G} {d : Nat} {h : ev_H} {R : Option Value → ev_H → Prop} {S : AS}
theorem s_Ra_insert {n c f0 : Nat} {o fr : Nat → Nat} {cI fI : Int32} (B : RaR h n o fr) (hn : n < 32) (hc : cI = nI c) (hf : fI = nI f0 ∧ f0 ≤ 64) (hfr : ∀ j, j < n → fr j ≤ 64) (hR : ∀ h', Kp h h' 98 101 → RaR h' (n + 1) (insF o (ipos fr f0 n) c) (insF fr (ipos fr f0 n) f0) → R none h') : Ev G d 0 0 M_Ra_insert 0 [.ref 98, .int cI, .int fI, ev_unk] [] h R := by
  obtain ⟨rfl, hf⟩ := hf
  subst hc
  obtain ⟨b1, go, gf, gg, b2, b3, b4, b5, b6⟩ := B
  refine b_Ra_insert_0 b2 ?_
  have fin : ∀ at' h' go' gf', at' ≤ n → ipos fr f0 n = at' → Kp h h' 98 101 → hat h' 98 (oC 3 [.ref 99, .ref 100, .ref 101, .int (nI n)]) → hat h' 99 (aI 32 go') → hat h' 100 (aI 32 gf') → hat h' 101 (aI 32 gg) → (∀ j, j < at' → go' j = nI (o j) ∧ gf' j = nI (fr j)) → (∀ j, at' < j → j ≤ n → go' j = nI (o (j - 1)) ∧ gf' j = nI (fr (j - 1))) → Ev G d 0 0 M_Ra_insert 55 [.ref 98, .int (nI c), .int (nI f0), .int (nI at')] [] h' R := by
    intro k h' go' gf' hk ek K g2 g3 g4 g5 lo hi
    refine b_Ra_insert_55 (j3 := k) g2 g3 g4 (ixn (by omega) (by decide)) ?_
    have hR' := hR
    rw [ek] at hR'
    rw [nI_1]
    refine hR' _ (((K.set (k := 99) _ (by omega) (by omega)).set (k := 100) _ (by omega) (by omega)).set (k := 98) _ (by omega) (by omega)) ⟨by omega, _, _, gg, ⟨g2.1, hset_eq _ _ _⟩, hat_ne (hat_ne ⟨g3.1, hset_eq _ _ _⟩ (by omega)) (by omega), hat_ne ⟨g4.1, hset_eq _ _ _⟩ (by omega), hat_ne (hat_ne (hat_ne g5 (by omega)) (by omega)) (by omega), fun j hj => ?_⟩
    unfold insF
    by_cases c1 : j < k
    · simp only [upd, if_neg (show ¬ j = k by omega), if_pos c1]; exact lo j c1
    · by_cases c2 : j = k
      · simp only [upd, if_pos c2, if_neg c1]; exact ⟨trivial, trivial⟩
      · simp only [upd, if_neg c2, if_neg c1]; exact hi j (by omega) (by omega)
  have L : ∀ at' h' go' gf', at' ≤ n → ipos fr f0 n = ipos fr f0 at' → Kp h h' 98 101 → hat h' 98 (oC 3 [.ref 99, .ref 100, .ref 101, .int (nI n)]) → hat h' 99 (aI 32 go') → hat h' 100 (aI 32 gf') → hat h' 101 (aI 32 gg) → (∀ j, j < at' → go' j = nI (o j) ∧ gf' j = nI (fr j)) → (∀ j, at' < j → j ≤ n → go' j = nI (o (j - 1)) ∧ gf' j = nI (fr (j - 1))) → Ev G d 0 0 M_Ra_insert 5 [.ref 98, .int (nI c), .int (nI f0), .int (nI at')] [] h' R := by
    intro k
    induction k with
    | zero =>
      intro h' go' gf' hk ek K g2 g3 g4 g5 lo hi
      exact b_Ra_insert_5 (j3 := 0) (j5 := 0) g2 g4 g3 (fun q => absurd q (by decide)) (fun q => absurd q (by decide)) (fun q => absurd q (by decide)) (fun q => absurd q (by decide)) (fun q => absurd q (by decide)) (fun _ => fin 0 h' go' gf' hk ek K g2 g3 g4 g5 lo hi)
    | succ k ih =>
      intro h' go' gf' hk ek K g2 g3 g4 g5 lo hi
      have pos : (0 : Int32) < nI (k + 1) := nI_lt (a := 0) (by omega) (by omega)
      have ej : nI (k + 1) - 1 = nI k := nI_pred k
      have st : ipos fr f0 (k + 1) = if f0 < fr k then ipos fr f0 k else k + 1 := rfl
      have hfk := hfr k (by omega)
      refine b_Ra_insert_5 (j3 := k) (j5 := k + 1) g2 g4 g3 (fun _ => by rw [ej]; exact ixn (by omega) (by decide)) (fun _ _ => by rw [ej]; exact ixn (by omega) (by decide)) (fun _ _ => ixn (by omega) (by decide)) (fun _ q => ?_) (fun _ q => ?_) (fun q => absurd pos q)
      · rw [(lo k (by omega)).2, nI_ltI (by omega) (by omega)] at q
        rw [nI_dec]
        refine ih _ _ _ (by omega) (by rw [ek, st, if_pos q]) ((K.set (k := 99) _ (by omega) (by omega)).set (k := 100) _ (by omega) (by omega)) (hat_ne (hat_ne g2 (by omega)) (by omega)) (hat_ne ⟨g3.1, hset_eq _ _ _⟩ (by omega)) ⟨g4.1, hset_eq _ _ _⟩ (hat_ne (hat_ne g5 (by omega)) (by omega)) (fun j hj => ?_) (fun j hj hj2 => ?_)
        · simp only [upd, if_neg (show ¬ j = k + 1 by omega)]; exact lo j (by omega)
        · by_cases e : j = k + 1
          · subst e; simp only [upd, if_true, Nat.add_sub_cancel]; exact lo k (by omega)
          · simp only [upd, if_neg e]; exact hi j (by omega) hj2
      · rw [(lo k (by omega)).2, nI_ltI (by omega) (by omega)] at q
        exact fin (k + 1) h' go' gf' hk (by rw [ek, st, if_neg q]) K g2 g3 g4 g5 lo hi
  exact L n h go gf (Nat.le_refl _) rfl (Kp.refl _ _ _) b2 b3 b4 b5 b6 (fun j q q2 => absurd q2 (by omega))
theorem s_Ra_rank {a n0 : Nat} {o0 fr0 : Nat → Nat} {set : Int32} {x : Int64} {cof : Nat → Int64} (B : RaR h n0 o0 fr0) (ha : hat h a (aL 32 cof)) (ha2 : a < 98) (hR : ∀ h', Kp h h' 98 101 → RaR h' (rkS (bt set) (fun j => pop (cof j ^^^ x)) 32).1 (rkS (bt set) (fun j => pop (cof j ^^^ x)) 32).2.1 (rkS (bt set) (fun j => pop (cof j ^^^ x)) 32).2.2 → R none h') : Ev G (d + 2) 0 0 M_Ra_rank 0 [.ref 98, .ref a, .int set, .long x, ev_unk, ev_unk] [] h R := by
  obtain ⟨b1, go, gf, gg, b2, b3, b4, b5, b6⟩ := B
  refine b_Ra_rank_0 b2 ?_
  have K0 := (Kp.refl h 98 101).set (k := 98) (oC 3 [.ref 99, .ref 100, .ref 101, .int 0]) (by omega) (by omega)
  have L := up0 (P := fun m => ∀ h', Kp h h' 98 101 → RaR h' (rkS (bt set) (fun j => pop (cof j ^^^ x)) m).1 (rkS (bt set) (fun j => pop (cof j ^^^ x)) m).2.1 (rkS (bt set) (fun j => pop (cof j ^^^ x)) m).2.2 → Ev G (d + 2) 0 0 M_Ra_rank 8 [.ref 98, .ref a, .int set, .long x, ev_unk, .int (nI m)] [] h' R) 32 ?_ ?_
  · exact L _ K0 ⟨by show 0 ≤ 32; omega, go, gf, gg, ⟨b2.1, hset_eq _ _ _⟩, hat_ne b3 (by omega), hat_ne b4 (by omega), hat_ne b5 (by omega), fun j q => absurd q (Nat.not_lt_zero j)⟩
  · intro m hm ih h' K B'
    have yes : nI m < (32 : Int32) := nI_lt hm (by decide)
    have hn : (rkS (bt set) (fun j => pop (cof j ^^^ x)) m).1 < 32 := by rw [rkS_n]; have := cnt_le (bt set) m; omega
    have e : rkS (bt set) (fun j => pop (cof j ^^^ x)) (m + 1) = if bt set m then ((rkS (bt set) (fun j => pop (cof j ^^^ x)) m).1 + 1, insF (rkS (bt set) (fun j => pop (cof j ^^^ x)) m).2.1 (ipos (rkS (bt set) (fun j => pop (cof j ^^^ x)) m).2.2 (pop (cof m ^^^ x)) (rkS (bt set) (fun j => pop (cof j ^^^ x)) m).1) m, insF (rkS (bt set) (fun j => pop (cof j ^^^ x)) m).2.2 (ipos (rkS (bt set) (fun j => pop (cof j ^^^ x)) m).2.2 (pop (cof m ^^^ x)) (rkS (bt set) (fun j => pop (cof j ^^^ x)) m).1) (pop (cof m ^^^ x))) else rkS (bt set) (fun j => pop (cof j ^^^ x)) m := rfl
    obtain ⟨_, _, _, _, q2, _⟩ := id B'
    refine b_Ra_rank_8 (j2 := m) (K.hat ha (by omega)) (fun _ _ => ixn hm (by decide)) (fun _ _ => ⟨_, q2⟩) (fun _ q => ?_) (fun _ q => ?_) (fun q => absurd yes q)
    · rw [inI_n hm] at q
      refine b_Ra_rank_38 ?_
      rw [nI_1]
      rw [e, b2i_e0 q] at ih
      exact ih h' K B'
    · rw [inI_n hm] at q
      refine s_Ra_insert B' hn rfl ⟨rfl, pop_le _⟩ (fun j hj => (rkS_le (bt set) (fun j => pop_le _) m j hj).1) fun h2 K2 B2 => ?_
      refine b_Ra_rank_38 ?_
      rw [nI_1]
      rw [e, b2i_n0 q] at ih
      exact ih h2 (K.trans K2) B2
  · intro h' K B'
    have no : ¬ nI 32 < (32 : Int32) := by decide
    exact b_Ra_rank_8 (j2 := 0) (K.hat ha (by omega)) (fun q => absurd q no) (fun q => absurd q no) (fun q => absurd q no) (fun q => absurd q no) (fun _ => hR h' K B')
/-- the first of the greatest among 0 to n -/
def amx (g : Nat → Nat) : Nat → Nat
  | 0 => 0
  | j + 1 => if g (amx g j) < g (j + 1) then j + 1 else amx g j
theorem amx_le (g : Nat → Nat) : ∀ j, amx g j ≤ j
  | 0 => Nat.le_refl _
  | j + 1 => by
    have := amx_le g j
    show (if g (amx g j) < g (j + 1) then j + 1 else amx g j) ≤ j + 1
    split <;> omega
/-- the place of the one taken, and the gaps -/
def tkG (D : Nat → Nat → Nat) (n : Nat) : Nat → Nat × (Nat → Nat)
  | 0 => (0, fun _ => 49)
  | i + 1 => (amx (fun j => min ((tkG D n i).2 j) (D j (tkG D n i).1)) (n - 1), fun j => min ((tkG D n i).2 j) (D j (tkG D n i).1))
theorem tkG_lt (D : Nat → Nat → Nat) {n : Nat} (hn : 0 < n) : ∀ i, (tkG D n i).1 < n
  | 0 => hn
  | i + 1 => by
    have := amx_le (fun j => min ((tkG D n i).2 j) (D j (tkG D n i).1)) (n - 1)
    show amx _ (n - 1) < n
    omega
theorem tkG_le (D : Nat → Nat → Nat) (n : Nat) : ∀ i j, (tkG D n i).2 j ≤ 49
  | 0, j => Nat.le_refl _
  | i + 1, j => Nat.le_trans (Nat.min_le_left _ _) (tkG_le D n i j)
theorem s_Ra_takenApart {a n oth : Nat} {o fr : Nat → Nat} {cof : Nat → Int64} {oI : Int32} (B : RaR h n o fr) (hn : 0 < n) (ho : ∀ j, j < n → o j < 32) (ha : hat h a (aL 32 cof)) (ha2 : a < 98) (hi : oI = nI oth ∧ oth < 2147483648) (hR : ∀ h', Kp h h' 101 102 → RaR h' n o fr → R (some (.int (nI (o (tkG (fun i j => pop (cof (o i) ^^^ cof (o j))) n oth).1)))) h') : Ev G (d + 2) 0 0 M_Ra_takenApart 0 [.ref 98, .ref a, .int oI, ev_unk, ev_unk, ev_unk, ev_unk] [] h R := by
  obtain ⟨rfl, hoth⟩ := hi
  obtain ⟨b1, go, gf, gg, b2, b3, b4, b5, b6⟩ := B
  refine b_Ra_takenApart_0 b2 (s_JA_fill b5 (by decide) fun h1 g1 K1 t1 v1 => b_Ra_takenApart_9 ?_)
  have L := up0 (P := fun i => ∀ h' g', Kp h h' 101 102 → hat h' 101 (aI 32 g') → (∀ j, j < n → g' j = nI ((tkG (fun i j => pop (cof (o i) ^^^ cof (o j))) n i).2 j)) → Ev G (d + 2) 0 0 M_Ra_takenApart 14 [.ref 98, .ref a, .int (nI oth), .int (nI (tkG (fun i j => pop (cof (o i) ^^^ cof (o j))) n i).1), .int (nI i), ev_unk, ev_unk] [] h' R) oth ?_ ?_
  · exact L h1 g1 (K1.wide (by omega) (by omega)) t1 fun j hj => v1 j (by omega)
  · intro i hi ih h' g' K t e
    have yes : nI i < nI oth := nI_lt hi (by omega)
    have ht := tkG_lt (fun i j => pop (cof (o i) ^^^ cof (o j))) hn i
    have t2 := K.hat b2 (by omega)
    have t3 := K.hat b3 (by omega)
    have ta := K.hat ha (by omega)
    refine b_Ra_takenApart_14 (j3 := 0) t2 t3 (fun q => absurd yes q) (fun _ => ?_) (fun q => absurd yes q)
    have st1 : (tkG (fun i j => pop (cof (o i) ^^^ cof (o j))) n (i + 1)).1 = amx (tkG (fun i j => pop (cof (o i) ^^^ cof (o j))) n (i + 1)).2 (n - 1) := rfl
    have st2 : ∀ j, (tkG (fun i j => pop (cof (o i) ^^^ cof (o j))) n (i + 1)).2 j = min ((tkG (fun i j => pop (cof (o i) ^^^ cof (o j))) n i).2 j) (pop (cof (o j) ^^^ cof (o (tkG (fun i j => pop (cof (o i) ^^^ cof (o j))) n i).1))) := fun j => rfl
    have bo := tkG_le (fun i j => pop (cof (o i) ^^^ cof (o j))) n i
    have bo2 := tkG_le (fun i j => pop (cof (o i) ^^^ cof (o j))) n (i + 1)
    revert st1 st2 ht bo bo2 e ih
    generalize tkG (fun i j => pop (cof (o i) ^^^ cof (o j))) n (i + 1) = T1
    generalize tkG (fun i j => pop (cof (o i) ^^^ cof (o j))) n i = T0
    intro ih e ht st1 st2 bo bo2
    have L1 := up0 (P := fun m => ∀ h' g', Kp h h' 101 102 → hat h' 101 (aI 32 g') → (∀ j, j < n → g' j = nI (if j < m then T1.2 j else T0.2 j)) → Ev G (d + 2) 0 0 M_Ra_takenApart 26 [.ref 98, .ref a, .int (nI oth), .int (nI T0.1), .int (nI i), .int (nI (amx T1.2 (m - 1))), .int (nI m)] [] h' R) n ?_ ?_
    · exact L1 h' g' K t fun j hj => by rw [if_neg (by omega)]; exact e j hj
    · intro m hm ih2 h2 g2 K2 u v
      have ym : nI m < nI n := nI_lt hm (by omega)
      have hw := amx_le T1.2 (m - 1)
      have hom := ho m hm
      have hot := ho T0.1 ht
      have hpp := pop_le (cof (o m) ^^^ cof (o T0.1))
      have h49 := bo m
      have ev : (if nI (pop (cof (o m) ^^^ cof (o T0.1))) < g2 m then nI (pop (cof (o m) ^^^ cof (o T0.1))) else g2 m) = nI (T1.2 m) := by
        have vm : g2 m = nI (T0.2 m) := by rw [v m hm, if_neg (Nat.lt_irrefl m)]
        rw [vm, st2 m]
        by_cases q : pop (cof (o m) ^^^ cof (o T0.1)) < T0.2 m
        · rw [if_pos (nI_lt q (by omega)), Nat.min_eq_right (by omega)]
        · rw [if_neg (fun z => q ((nI_ltI (by omega) (by omega)).mp z)), Nat.min_eq_left (by omega)]
      have eu : ∀ j, j < n → upd g2 m (nI (T1.2 m)) j = nI (if j < m + 1 then T1.2 j else T0.2 j) := fun j hj => by
        by_cases ej : j = m
        · subst ej; simp only [upd, if_true]; rw [if_pos (by omega)]
        · simp only [upd, if_neg ej]; rw [v j hj]
          by_cases c : j < m
          · rw [if_pos c, if_pos (by omega)]
          · rw [if_neg c, if_neg (by omega)]
      have ew : upd g2 m (nI (T1.2 m)) (amx T1.2 (m - 1)) = nI (T1.2 (amx T1.2 (m - 1))) := by rw [eu _ (by omega), if_pos (by omega)]
      have em : upd g2 m (nI (T1.2 m)) m = nI (T1.2 m) := by simp only [upd, if_true]
      have b1m := bo2 m
      have b1w := bo2 (amx T1.2 (m - 1))
      refine b_Ra_takenApart_26 (j3 := m) (j6 := o m) (j7 := T0.1) (j8 := o T0.1) (j9 := amx T1.2 (m - 1)) (K2.hat b2 (by omega)) u (K2.hat b3 (by omega)) (K2.hat ha (by omega)) (fun _ => ixn (by omega) (by decide)) (fun _ => by rw [(b6 m hm).1]; exact ixn hom (by decide)) (fun _ => ixn (by omega) (by decide)) (fun _ => by rw [(b6 _ ht).1]; exact ixn hot (by decide)) (fun _ => by omega) (fun _ => ixn (by omega) (by decide)) (fun _ q => ?_) (fun _ q => ?_) (fun q => absurd ym q)
      · rw [ev] at q ⊢
        rw [ew, em, nI_ltI (by omega) (by omega)] at q
        rw [nI_1]
        have ea : amx T1.2 (m + 1 - 1) = m := by
          cases m with
          | zero => rfl
          | succ m => show (if T1.2 (amx T1.2 m) < T1.2 (m + 1) then m + 1 else amx T1.2 m) = m + 1; exact if_pos q
        rw [ea] at ih2
        exact ih2 _ _ (K2.set (k := 101) _ (by omega) (by omega)) ⟨u.1, hset_eq _ _ _⟩ eu
      · rw [ev] at q ⊢
        rw [ew, em, nI_ltI (by omega) (by omega)] at q
        rw [nI_1]
        have ea : amx T1.2 (m + 1 - 1) = amx T1.2 (m - 1) := by
          cases m with
          | zero => rfl
          | succ m => show (if T1.2 (amx T1.2 m) < T1.2 (m + 1) then m + 1 else amx T1.2 m) = amx T1.2 m; exact if_neg q
        rw [ea] at ih2
        exact ih2 _ _ (K2.set (k := 101) _ (by omega) (by omega)) ⟨u.1, hset_eq _ _ _⟩ eu
    · intro h2 g2 K2 u v
      have no : ¬ nI n < nI n := nl_self (by omega)
      refine b_Ra_takenApart_26 (j3 := 0) (j6 := 0) (j7 := 0) (j8 := 0) (j9 := 0) (K2.hat b2 (by omega)) u (K2.hat b3 (by omega)) (K2.hat ha (by omega)) (fun q => absurd q no) (fun q => absurd q no) (fun q => absurd q no) (fun q => absurd q no) (fun q => absurd q no) (fun q => absurd q no) (fun q => absurd q no) (fun q => absurd q no) (fun _ => ?_)
      rw [nI_1, ← st1]
      exact ih h2 g2 K2 u fun j hj => by rw [v j hj, if_pos hj]
  · intro h' g' K t e
    have ht := tkG_lt (fun i j => pop (cof (o i) ^^^ cof (o j))) hn oth
    refine b_Ra_takenApart_14 (j3 := (tkG (fun i j => pop (cof (o i) ^^^ cof (o j))) n oth).1) (K.hat b2 (by omega)) (K.hat b3 (by omega)) (fun _ => ixn (by omega) (by decide)) (fun q => absurd q (nl_self (by omega))) (fun _ => ?_)
    rw [(b6 _ ht).1]
    exact hR h' K ⟨b1, go, gf, g', K.hat b2 (by omega), K.hat b3 (by omega), K.hat b4 (by omega), t, b6⟩
end S21
end
section
/-! WHAT THE CALLS SHARE -/
theorem b_X_leastOf_0 {G : ev_G} {d k n : Nat} {h : ev_H} {R : Option Value → ev_H → Prop} {x0 : Int32}
  (k1 : Ev G (d + 1) k n M_X_leastOf 2 [.int x0, .int (0 : Int32)] [] h R)
  : Ev G (d + 1) k n M_X_leastOf 0 [.int x0, ev_unk] [] h R :=
  Ev.go (pc' := 2) (ls' := [.int x0, .int (0 : Int32)]) (st' := []) [.iconst 0, .istore_n 1] (by decide +kernel) rfl <|
  k1
theorem b_X_leastOf_2 {G : ev_G} {d k n : Nat} {h : ev_H} {R : Option Value → ev_H → Prop} {x0 : Int32} {x1 : Int32}
  (k1 : x1 < (32 : Int32) → (b2i (inI x0 x1)) = (0 : Int32) → Ev G (d + 1) k n M_X_leastOf 2 [.int x0, .int (x1 + (1 : Int32))] [] h R)
  (k2 : x1 < (32 : Int32) → ¬ (b2i (inI x0 x1)) = (0 : Int32) → R (some (.int x1)) h)
  (k3 : ¬ x1 < (32 : Int32) → R (some (.int (-1 : Int32))) h)
  : Ev G (d + 1) k n M_X_leastOf 2 [.int x0, .int x1] [] h R :=
  Ev.go (pc' := 5) (ls' := [.int x0, .int x1]) (st' := [.int (32 : Int32), .int x1]) [.iload_n 1, .bipush (32)] (by decide +kernel) rfl <|
  Ev.br (i := .if_icmp .ge (19)) (P := x1 < (32 : Int32)) (t := 8) (f := 24) (r := []) (by decide +kernel) rfl (fun c1 =>
    Ev.go (pc' := 10) (ls' := [.int x0, .int x1]) (st' := [.int x1, .int x0]) [.iload_n 0, .iload_n 1] (by decide +kernel) rfl <|
    Ev.cS0 (M' := M_X_isIn) (as := [.int x0, .int x1]) (rest := []) l_X_238 M_X_isIn_ok M_X_isIn_st (by decide +kernel) rfl rfl (Nat.le_of_ble_eq_true rfl) (Nat.le_of_ble_eq_true rfl) (s_X_isIn <| show Ev G (d + 1) _ _ M_X_leastOf 13 [.int x0, .int x1] [.int (b2i (inI x0 x1))] h R from
      Ev.br (i := .ifCond .eq (5)) (P := (b2i (inI x0 x1)) = (0 : Int32)) (t := 18) (f := 16) (r := []) (by decide +kernel) rfl (fun c2 =>
        Ev.go (pc' := 2) (ls' := [.int x0, .int (x1 + (1 : Int32))]) (st' := []) [.iinc 1 (1), .goto (-19)] (by decide +kernel) rfl <|
        (k1 c1 c2)
      ) (fun c2 =>
        Ev.go (pc' := 17) (ls' := [.int x0, .int x1]) (st' := [.int x1]) [.iload_n 1] (by decide +kernel) rfl <|
        Ev.ret (r := (some (.int x1))) (Or.inl ⟨_, rfl, by decide +kernel, _, rfl, rfl⟩) (k2 c1 c2)
      )
    )
  ) (fun c1 =>
    Ev.go (pc' := 25) (ls' := [.int x0, .int x1]) (st' := [.int (-1 : Int32)]) [.iconst (-1)] (by decide +kernel) rfl <|
    Ev.ret (r := (some (.int (-1 : Int32)))) (Or.inl ⟨_, rfl, by decide +kernel, _, rfl, rfl⟩) (k3 c1)
  )
theorem b_X_reachOf_0 {G : ev_G} {d k n : Nat} {h : ev_H} {R : Option Value → ev_H → Prop} {x0 : Int64}
  (k1 : Ev G (d + 1) k n M_X_reachOf 9 [.long x0, ev_unk, .int (48 : Int32), .int (47 : Int32), .int (0 : Int32)] [] h R)
  : Ev G (d + 1) k n M_X_reachOf 0 [.long x0, ev_unk, ev_unk, ev_unk, ev_unk] [] h R :=
  Ev.go (pc' := 9) (ls' := [.long x0, ev_unk, .int (48 : Int32), .int (47 : Int32), .int (0 : Int32)]) (st' := []) [.bipush (48), .istore_n 2, .bipush (47), .istore_n 3, .iconst 0, .istore 4] (by decide +kernel) rfl <|
  k1
theorem b_X_reachOf_9 {G : ev_G} {d k n : Nat} {h : ev_H} {R : Option Value → ev_H → Prop} {x0 : Int64} {x2 : Int32} {x3 : Int32} {x4 : Int32}
  (k1 : x4 < (48 : Int32) → (b2i (tbL x0 x4)) = (1 : Int32) → Ev G (d + 1) k n M_X_reachOf 9 [.long x0, ev_unk, .int (if x4 < x2 then x4 else x2), .int x4, .int (x4 + (1 : Int32))] [] h R)
  (k2 : x4 < (48 : Int32) → ¬ (b2i (tbL x0 x4)) = (1 : Int32) → Ev G (d + 1) k n M_X_reachOf 9 [.long x0, ev_unk, .int x2, .int x3, .int (x4 + (1 : Int32))] [] h R)
  (k3 : ¬ x4 < (48 : Int32) → R (some (.int ((x3 - x2) + (1 : Int32)))) h)
  : Ev G (d + 1) k n M_X_reachOf 9 [.long x0, ev_unk, .int x2, .int x3, .int x4] [] h R :=
  Ev.go (pc' := 13) (ls' := [.long x0, ev_unk, .int x2, .int x3, .int x4]) (st' := [.int (48 : Int32), .int x4]) [.iload 4, .bipush (48)] (by decide +kernel) rfl <|
  Ev.br (i := .if_icmp .ge (29)) (P := x4 < (48 : Int32)) (t := 16) (f := 42) (r := []) (by decide +kernel) rfl (fun c1 =>
    Ev.go (pc' := 19) (ls' := [.long x0, ev_unk, .int x2, .int x3, .int x4]) (st' := [.int x4, .long x0]) [.lload_n 0, .iload 4] (by decide +kernel) rfl <|
    Ev.cS0 (M' := M_X_bitOf) (as := [.long x0, .int x4]) (rest := []) l_X_170 M_X_bitOf_ok M_X_bitOf_st (by decide +kernel) rfl rfl (Nat.le_of_ble_eq_true rfl) (Nat.le_of_ble_eq_true rfl) (s_X_bitOf <| show Ev G (d + 1) _ _ M_X_reachOf 22 [.long x0, ev_unk, .int x2, .int x3, .int x4] [.int (b2i (tbL x0 x4))] h R from
      Ev.go (pc' := 23) (ls' := [.long x0, ev_unk, .int x2, .int x3, .int x4]) (st' := [.int (1 : Int32), .int (b2i (tbL x0 x4))]) [.iconst 1] (by decide +kernel) rfl <|
      Ev.br (i := .if_icmp .ne (13)) (P := (b2i (tbL x0 x4)) = (1 : Int32)) (t := 26) (f := 36) (r := []) (by decide +kernel) rfl (fun c2 =>
        Ev.go (pc' := 29) (ls' := [.long x0, ev_unk, .int x2, .int x3, .int x4]) (st' := [.int x4, .int x2]) [.iload_n 2, .iload 4] (by decide +kernel) rfl <|
        Ev.mmin lL_X_298 w_minS w_mathI w_minC (Nat.le_of_ble_eq_true rfl) (by decide +kernel) <|
        Ev.go (pc' := 9) (ls' := [.long x0, ev_unk, .int (if x4 < x2 then x4 else x2), .int x4, .int (x4 + (1 : Int32))]) (st' := []) [.istore_n 2, .iload 4, .istore_n 3, .iinc 4 (1), .goto (-30)] (by decide +kernel) rfl <|
        (k1 c1 c2)
      ) (fun c2 =>
        Ev.go (pc' := 9) (ls' := [.long x0, ev_unk, .int x2, .int x3, .int (x4 + (1 : Int32))]) (st' := []) [.iinc 4 (1), .goto (-30)] (by decide +kernel) rfl <|
        (k2 c1 c2)
      )
    )
  ) (fun c1 =>
    Ev.go (pc' := 47) (ls' := [.long x0, ev_unk, .int x2, .int x3, .int x4]) (st' := [.int ((x3 - x2) + (1 : Int32))]) [.iload_n 3, .iload_n 2, .isub, .iconst 1, .iadd] (by decide +kernel) rfl <|
    Ev.ret (r := (some (.int ((x3 - x2) + (1 : Int32))))) (Or.inl ⟨_, rfl, by decide +kernel, _, rfl, rfl⟩) (k3 c1)
  )
theorem b_X_longestRun_0 {G : ev_G} {d k n : Nat} {h : ev_H} {R : Option Value → ev_H → Prop} {x0 : Int64}
  (k1 : Ev G (d + 1) k n M_X_longestRun 7 [.long x0, ev_unk, .int (0 : Int32), .int (0 : Int32), .int (0 : Int32)] [] h R)
  : Ev G (d + 1) k n M_X_longestRun 0 [.long x0, ev_unk, ev_unk, ev_unk, ev_unk] [] h R :=
  Ev.go (pc' := 7) (ls' := [.long x0, ev_unk, .int (0 : Int32), .int (0 : Int32), .int (0 : Int32)]) (st' := []) [.iconst 0, .istore_n 2, .iconst 0, .istore_n 3, .iconst 0, .istore 4] (by decide +kernel) rfl <|
  k1
theorem b_X_longestRun_7 {G : ev_G} {d k n : Nat} {h : ev_H} {R : Option Value → ev_H → Prop} {x0 : Int64} {x2 : Int32} {x3 : Int32} {x4 : Int32}
  (k1 : x4 < (48 : Int32) → (b2i (tbL x0 x4)) = (1 : Int32) → Ev G (d + 1) k n M_X_longestRun 7 [.long x0, ev_unk, .int (if x2 < (x3 + (1 : Int32)) then (x3 + (1 : Int32)) else x2), .int (x3 + (1 : Int32)), .int (x4 + (1 : Int32))] [] h R)
  (k2 : x4 < (48 : Int32) → ¬ (b2i (tbL x0 x4)) = (1 : Int32) → Ev G (d + 1) k n M_X_longestRun 7 [.long x0, ev_unk, .int (if x2 < (0 : Int32) then (0 : Int32) else x2), .int (0 : Int32), .int (x4 + (1 : Int32))] [] h R)
  (k3 : ¬ x4 < (48 : Int32) → R (some (.int x2)) h)
  : Ev G (d + 1) k n M_X_longestRun 7 [.long x0, ev_unk, .int x2, .int x3, .int x4] [] h R :=
  Ev.go (pc' := 11) (ls' := [.long x0, ev_unk, .int x2, .int x3, .int x4]) (st' := [.int (48 : Int32), .int x4]) [.iload 4, .bipush (48)] (by decide +kernel) rfl <|
  Ev.br (i := .if_icmp .ge (33)) (P := x4 < (48 : Int32)) (t := 14) (f := 44) (r := []) (by decide +kernel) rfl (fun c1 =>
    Ev.go (pc' := 17) (ls' := [.long x0, ev_unk, .int x2, .int x3, .int x4]) (st' := [.int x4, .long x0]) [.lload_n 0, .iload 4] (by decide +kernel) rfl <|
    Ev.cS0 (M' := M_X_bitOf) (as := [.long x0, .int x4]) (rest := []) l_X_170 M_X_bitOf_ok M_X_bitOf_st (by decide +kernel) rfl rfl (Nat.le_of_ble_eq_true rfl) (Nat.le_of_ble_eq_true rfl) (s_X_bitOf <| show Ev G (d + 1) _ _ M_X_longestRun 20 [.long x0, ev_unk, .int x2, .int x3, .int x4] [.int (b2i (tbL x0 x4))] h R from
      Ev.go (pc' := 21) (ls' := [.long x0, ev_unk, .int x2, .int x3, .int x4]) (st' := [.int (1 : Int32), .int (b2i (tbL x0 x4))]) [.iconst 1] (by decide +kernel) rfl <|
      Ev.br (i := .if_icmp .ne (9)) (P := (b2i (tbL x0 x4)) = (1 : Int32)) (t := 24) (f := 30) (r := []) (by decide +kernel) rfl (fun c2 =>
        Ev.go (pc' := 34) (ls' := [.long x0, ev_unk, .int x2, .int (x3 + (1 : Int32)), .int x4]) (st' := [.int (x3 + (1 : Int32)), .int x2]) [.iload_n 3, .iconst 1, .iadd, .goto (4), .istore_n 3, .iload_n 2, .iload_n 3] (by decide +kernel) rfl <|
        Ev.mmax lL_X_277 w_maxS w_mathI w_maxC (Nat.le_of_ble_eq_true rfl) (by decide +kernel) <|
        Ev.go (pc' := 7) (ls' := [.long x0, ev_unk, .int (if x2 < (x3 + (1 : Int32)) then (x3 + (1 : Int32)) else x2), .int (x3 + (1 : Int32)), .int (x4 + (1 : Int32))]) (st' := []) [.istore_n 2, .iinc 4 (1), .goto (-34)] (by decide +kernel) rfl <|
        (k1 c1 c2)
      ) (fun c2 =>
        Ev.go (pc' := 34) (ls' := [.long x0, ev_unk, .int x2, .int (0 : Int32), .int x4]) (st' := [.int (0 : Int32), .int x2]) [.iconst 0, .istore_n 3, .iload_n 2, .iload_n 3] (by decide +kernel) rfl <|
        Ev.mmax lL_X_277 w_maxS w_mathI w_maxC (Nat.le_of_ble_eq_true rfl) (by decide +kernel) <|
        Ev.go (pc' := 7) (ls' := [.long x0, ev_unk, .int (if x2 < (0 : Int32) then (0 : Int32) else x2), .int (0 : Int32), .int (x4 + (1 : Int32))]) (st' := []) [.istore_n 2, .iinc 4 (1), .goto (-34)] (by decide +kernel) rfl <|
        (k2 c1 c2)
      )
    )
  ) (fun c1 =>
    Ev.go (pc' := 45) (ls' := [.long x0, ev_unk, .int x2, .int x3, .int x4]) (st' := [.int x2]) [.iload_n 2] (by decide +kernel) rfl <|
    Ev.ret (r := (some (.int x2))) (Or.inl ⟨_, rfl, by decide +kernel, _, rfl, rfl⟩) (k3 c1)
  )
theorem b_X_ofPacked_0 {G : ev_G} {d k n : Nat} {h : ev_H} {R : Option Value → ev_H → Prop} {x0 : Int32} {x1 : Int32}
  (k1 : x1 = (2 : Int32) → R (some (.int (x0 >>> ((10 : Int32) &&& 31)))) h)
  (k2 : ¬ x1 = (2 : Int32) → x1 = (0 : Int32) → R (some (.int ((x0 >>> ((5 : Int32) &&& 31)) &&& (31 : Int32)))) h)
  (k3 : ¬ x1 = (2 : Int32) → ¬ x1 = (0 : Int32) → R (some (.int (x0 &&& (31 : Int32)))) h)
  : Ev G d k n M_X_ofPacked 0 [.int x0, .int x1] [] h R :=
  Ev.go (pc' := 2) (ls' := [.int x0, .int x1]) (st' := [.int (2 : Int32), .int x1]) [.iload_n 1, .iconst 2] (by decide +kernel) rfl <|
  Ev.br (i := .if_icmp .ne (8)) (P := x1 = (2 : Int32)) (t := 5) (f := 10) (r := []) (by decide +kernel) rfl (fun c1 =>
    Ev.go (pc' := 9) (ls' := [.int x0, .int x1]) (st' := [.int (x0 >>> ((10 : Int32) &&& 31))]) [.iload_n 0, .bipush (10), .ishr] (by decide +kernel) rfl <|
    Ev.ret (r := (some (.int (x0 >>> ((10 : Int32) &&& 31))))) (Or.inl ⟨_, rfl, by decide +kernel, _, rfl, rfl⟩) (k1 c1)
  ) (fun c1 =>
    Ev.go (pc' := 11) (ls' := [.int x0, .int x1]) (st' := [.int x1]) [.iload_n 1] (by decide +kernel) rfl <|
    Ev.br (i := .ifCond .ne (12)) (P := x1 = (0 : Int32)) (t := 14) (f := 23) (r := []) (by decide +kernel) rfl (fun c2 =>
      Ev.go (pc' := 27) (ls' := [.int x0, .int x1]) (st' := [.int ((x0 >>> ((5 : Int32) &&& 31)) &&& (31 : Int32))]) [.iload_n 0, .iconst 5, .ishr, .bipush (31), .iand, .goto (7)] (by decide +kernel) rfl <|
      Ev.ret (r := (some (.int ((x0 >>> ((5 : Int32) &&& 31)) &&& (31 : Int32))))) (Or.inl ⟨_, rfl, by decide +kernel, _, rfl, rfl⟩) (k2 c1 c2)
    ) (fun c2 =>
      Ev.go (pc' := 27) (ls' := [.int x0, .int x1]) (st' := [.int (x0 &&& (31 : Int32))]) [.iload_n 0, .bipush (31), .iand] (by decide +kernel) rfl <|
      Ev.ret (r := (some (.int (x0 &&& (31 : Int32))))) (Or.inl ⟨_, rfl, by decide +kernel, _, rfl, rfl⟩) (k3 c1 c2)
    )
  )
theorem b_X_isNumber_0 {G : ev_G} {d k n : Nat} {h : ev_H} {R : Option Value → ev_H → Prop} {x1 : Int64} {f_latest_1 : Int32} {f_faultKind_2 : Int32} {f_faultPlace_3 : Int32} {f_bits_4 : Int32} {f_parts_5 : Int32} {f_size_6 : Int32} {fv7 : Value}
  (a1 : hat h 0 (oC 8 [.ref 1, .ref 5, .ref 18, .ref 81, .ref 98, .int f_latest_1, .int f_faultKind_2, .int f_faultPlace_3]))
  (a2 : hat h 1 (oC 6 [.int f_bits_4, .int f_parts_5, .ref 2, .int f_size_6, .ref 3, .ref 4, fv7]))
  (k1 : x1 < (0 : Int64) → R (some (.int (0 : Int32))) h)
  (k2 : ¬ x1 < (0 : Int64) → (x1 >>> (f_bits_4.toInt64 &&& 63)) = (0 : Int64) → R (some (.int (1 : Int32))) h)
  (k3 : ¬ x1 < (0 : Int64) → ¬ (x1 >>> (f_bits_4.toInt64 &&& 63)) = (0 : Int64) → R (some (.int (0 : Int32))) h)
  : Ev G d k n M_X_isNumber 0 [.ref 0, .long x1, ev_unk] [] h R :=
  Ev.go (pc' := 2) (ls' := [.ref 0, .long x1, ev_unk]) (st' := [.long (0 : Int64), .long x1]) [.lload_n 1, .lconst 0] (by decide +kernel) rfl <|
  Ev.brl (c := .lt) (o := 21) (P := x1 < (0 : Int64)) (t := 24) (f := 6) (t1 := 24) (by decide +kernel) (by decide +kernel) rfl rfl (fun c1 =>
    Ev.go (pc' := 25) (ls' := [.ref 0, .long x1, ev_unk]) (st' := [.int (0 : Int32)]) [.iconst 0] (by decide +kernel) rfl <|
    Ev.ret (r := (some (.int (0 : Int32)))) (Or.inl ⟨_, rfl, by decide +kernel, _, rfl, rfl⟩) (k1 c1)
  ) (fun c1 =>
    Ev.go (pc' := 8) (ls' := [.ref 0, .long x1, ev_unk]) (st' := [.ref 0, .long x1]) [.lload_n 1, .aload_n 0] (by decide +kernel) rfl <|
    Ev.getf f_X_10 (by decide +kernel) a1 rfl <|
    Ev.getf f_X_90 (by decide +kernel) a2 rfl <|
    Ev.go (pc' := 16) (ls' := [.ref 0, .long x1, ev_unk]) (st' := [.long (0 : Int64), .long (x1 >>> (f_bits_4.toInt64 &&& 63))]) [.lshr, .lconst 0] (by decide +kernel) rfl <|
    Ev.brl (c := .ne) (o := 7) (P := (x1 >>> (f_bits_4.toInt64 &&& 63)) = (0 : Int64)) (t := 20) (f := 24) (t1 := 24) (by decide +kernel) (by decide +kernel) rfl rfl (fun c2 =>
      Ev.go (pc' := 25) (ls' := [.ref 0, .long x1, ev_unk]) (st' := [.int (1 : Int32)]) [.iconst 1, .goto (4)] (by decide +kernel) rfl <|
      Ev.ret (r := (some (.int (1 : Int32)))) (Or.inl ⟨_, rfl, by decide +kernel, _, rfl, rfl⟩) (k2 c1 c2)
    ) (fun c2 =>
      Ev.go (pc' := 25) (ls' := [.ref 0, .long x1, ev_unk]) (st' := [.int (0 : Int32)]) [.iconst 0] (by decide +kernel) rfl <|
      Ev.ret (r := (some (.int (0 : Int32)))) (Or.inl ⟨_, rfl, by decide +kernel, _, rfl, rfl⟩) (k3 c1 c2)
    )
  )
theorem b_X_isRadius_0 {G : ev_G} {d k n : Nat} {h : ev_H} {R : Option Value → ev_H → Prop} {x1 : Int32} {f_latest_1 : Int32} {f_faultKind_2 : Int32} {f_faultPlace_3 : Int32} {f_bits_4 : Int32} {f_parts_5 : Int32} {f_size_6 : Int32} {fv7 : Value}
  (a1 : hat h 0 (oC 8 [.ref 1, .ref 5, .ref 18, .ref 81, .ref 98, .int f_latest_1, .int f_faultKind_2, .int f_faultPlace_3]))
  (a2 : hat h 1 (oC 6 [.int f_bits_4, .int f_parts_5, .ref 2, .int f_size_6, .ref 3, .ref 4, fv7]))
  (k1 : x1 < (0 : Int32) → R (some (.int (0 : Int32))) h)
  (k2 : ¬ x1 < (0 : Int32) → f_bits_4 < x1 → R (some (.int (0 : Int32))) h)
  (k3 : ¬ x1 < (0 : Int32) → ¬ f_bits_4 < x1 → R (some (.int (1 : Int32))) h)
  : Ev G d k n M_X_isRadius 0 [.ref 0, .int x1] [] h R :=
  Ev.go (pc' := 1) (ls' := [.ref 0, .int x1]) (st' := [.int x1]) [.iload_n 1] (by decide +kernel) rfl <|
  Ev.br (i := .ifCond .lt (18)) (P := x1 < (0 : Int32)) (t := 19) (f := 4) (r := []) (by decide +kernel) rfl (fun c1 =>
    Ev.go (pc' := 20) (ls' := [.ref 0, .int x1]) (st' := [.int (0 : Int32)]) [.iconst 0] (by decide +kernel) rfl <|
    Ev.ret (r := (some (.int (0 : Int32)))) (Or.inl ⟨_, rfl, by decide +kernel, _, rfl, rfl⟩) (k1 c1)
  ) (fun c1 =>
    Ev.go (pc' := 6) (ls' := [.ref 0, .int x1]) (st' := [.ref 0, .int x1]) [.iload_n 1, .aload_n 0] (by decide +kernel) rfl <|
    Ev.getf f_X_10 (by decide +kernel) a1 rfl <|
    Ev.getf f_X_90 (by decide +kernel) a2 rfl <|
    Ev.br (i := .if_icmp .gt (7)) (P := f_bits_4 < x1) (t := 19) (f := 15) (r := []) (by decide +kernel) rfl (fun c2 =>
      Ev.go (pc' := 20) (ls' := [.ref 0, .int x1]) (st' := [.int (0 : Int32)]) [.iconst 0] (by decide +kernel) rfl <|
      Ev.ret (r := (some (.int (0 : Int32)))) (Or.inl ⟨_, rfl, by decide +kernel, _, rfl, rfl⟩) (k2 c1 c2)
    ) (fun c2 =>
      Ev.go (pc' := 20) (ls' := [.ref 0, .int x1]) (st' := [.int (1 : Int32)]) [.iconst 1, .goto (4)] (by decide +kernel) rfl <|
      Ev.ret (r := (some (.int (1 : Int32)))) (Or.inl ⟨_, rfl, by decide +kernel, _, rfl, rfl⟩) (k3 c1 c2)
    )
  )
theorem b_X_isBit_0 {G : ev_G} {d k n : Nat} {h : ev_H} {R : Option Value → ev_H → Prop} {x1 : Int32} {f_latest_1 : Int32} {f_faultKind_2 : Int32} {f_faultPlace_3 : Int32} {f_bits_4 : Int32} {f_parts_5 : Int32} {f_size_6 : Int32} {fv7 : Value}
  (a1 : hat h 0 (oC 8 [.ref 1, .ref 5, .ref 18, .ref 81, .ref 98, .int f_latest_1, .int f_faultKind_2, .int f_faultPlace_3]))
  (a2 : hat h 1 (oC 6 [.int f_bits_4, .int f_parts_5, .ref 2, .int f_size_6, .ref 3, .ref 4, fv7]))
  (k1 : x1 < (0 : Int32) → R (some (.int (0 : Int32))) h)
  (k2 : ¬ x1 < (0 : Int32) → x1 < f_bits_4 → R (some (.int (1 : Int32))) h)
  (k3 : ¬ x1 < (0 : Int32) → ¬ x1 < f_bits_4 → R (some (.int (0 : Int32))) h)
  : Ev G d k n M_X_isBit 0 [.ref 0, .int x1] [] h R :=
  Ev.go (pc' := 1) (ls' := [.ref 0, .int x1]) (st' := [.int x1]) [.iload_n 1] (by decide +kernel) rfl <|
  Ev.br (i := .ifCond .lt (18)) (P := x1 < (0 : Int32)) (t := 19) (f := 4) (r := []) (by decide +kernel) rfl (fun c1 =>
    Ev.go (pc' := 20) (ls' := [.ref 0, .int x1]) (st' := [.int (0 : Int32)]) [.iconst 0] (by decide +kernel) rfl <|
    Ev.ret (r := (some (.int (0 : Int32)))) (Or.inl ⟨_, rfl, by decide +kernel, _, rfl, rfl⟩) (k1 c1)
  ) (fun c1 =>
    Ev.go (pc' := 6) (ls' := [.ref 0, .int x1]) (st' := [.ref 0, .int x1]) [.iload_n 1, .aload_n 0] (by decide +kernel) rfl <|
    Ev.getf f_X_10 (by decide +kernel) a1 rfl <|
    Ev.getf f_X_90 (by decide +kernel) a2 rfl <|
    Ev.br (i := .if_icmp .ge (7)) (P := x1 < f_bits_4) (t := 15) (f := 19) (r := []) (by decide +kernel) rfl (fun c2 =>
      Ev.go (pc' := 20) (ls' := [.ref 0, .int x1]) (st' := [.int (1 : Int32)]) [.iconst 1, .goto (4)] (by decide +kernel) rfl <|
      Ev.ret (r := (some (.int (1 : Int32)))) (Or.inl ⟨_, rfl, by decide +kernel, _, rfl, rfl⟩) (k2 c1 c2)
    ) (fun c2 =>
      Ev.go (pc' := 20) (ls' := [.ref 0, .int x1]) (st' := [.int (0 : Int32)]) [.iconst 0] (by decide +kernel) rfl <|
      Ev.ret (r := (some (.int (0 : Int32)))) (Or.inl ⟨_, rfl, by decide +kernel, _, rfl, rfl⟩) (k3 c1 c2)
    )
  )
theorem b_X_isCode_0 {G : ev_G} {d k n : Nat} {h : ev_H} {R : Option Value → ev_H → Prop} {x1 : Int32} {f_latest_1 : Int32} {f_faultKind_2 : Int32} {f_faultPlace_3 : Int32} {f_bits_4 : Int32} {f_parts_5 : Int32} {f_size_6 : Int32} {fv7 : Value}
  (a1 : hat h 0 (oC 8 [.ref 1, .ref 5, .ref 18, .ref 81, .ref 98, .int f_latest_1, .int f_faultKind_2, .int f_faultPlace_3]))
  (a2 : hat h 1 (oC 6 [.int f_bits_4, .int f_parts_5, .ref 2, .int f_size_6, .ref 3, .ref 4, fv7]))
  (k1 : x1 < (0 : Int32) → R (some (.int (0 : Int32))) h)
  (k2 : ¬ x1 < (0 : Int32) → x1 < f_size_6 → R (some (.int (1 : Int32))) h)
  (k3 : ¬ x1 < (0 : Int32) → ¬ x1 < f_size_6 → R (some (.int (0 : Int32))) h)
  : Ev G d k n M_X_isCode 0 [.ref 0, .int x1] [] h R :=
  Ev.go (pc' := 1) (ls' := [.ref 0, .int x1]) (st' := [.int x1]) [.iload_n 1] (by decide +kernel) rfl <|
  Ev.br (i := .ifCond .lt (18)) (P := x1 < (0 : Int32)) (t := 19) (f := 4) (r := []) (by decide +kernel) rfl (fun c1 =>
    Ev.go (pc' := 20) (ls' := [.ref 0, .int x1]) (st' := [.int (0 : Int32)]) [.iconst 0] (by decide +kernel) rfl <|
    Ev.ret (r := (some (.int (0 : Int32)))) (Or.inl ⟨_, rfl, by decide +kernel, _, rfl, rfl⟩) (k1 c1)
  ) (fun c1 =>
    Ev.go (pc' := 6) (ls' := [.ref 0, .int x1]) (st' := [.ref 0, .int x1]) [.iload_n 1, .aload_n 0] (by decide +kernel) rfl <|
    Ev.getf f_X_10 (by decide +kernel) a1 rfl <|
    Ev.getf f_X_86 (by decide +kernel) a2 rfl <|
    Ev.br (i := .if_icmp .ge (7)) (P := x1 < f_size_6) (t := 15) (f := 19) (r := []) (by decide +kernel) rfl (fun c2 =>
      Ev.go (pc' := 20) (ls' := [.ref 0, .int x1]) (st' := [.int (1 : Int32)]) [.iconst 1, .goto (4)] (by decide +kernel) rfl <|
      Ev.ret (r := (some (.int (1 : Int32)))) (Or.inl ⟨_, rfl, by decide +kernel, _, rfl, rfl⟩) (k2 c1 c2)
    ) (fun c2 =>
      Ev.go (pc' := 20) (ls' := [.ref 0, .int x1]) (st' := [.int (0 : Int32)]) [.iconst 0] (by decide +kernel) rfl <|
      Ev.ret (r := (some (.int (0 : Int32)))) (Or.inl ⟨_, rfl, by decide +kernel, _, rfl, rfl⟩) (k3 c1 c2)
    )
  )
theorem b_X_isPart_0 {G : ev_G} {d k n : Nat} {h : ev_H} {R : Option Value → ev_H → Prop} {x1 : Int32} {f_latest_1 : Int32} {f_faultKind_2 : Int32} {f_faultPlace_3 : Int32} {f_bits_4 : Int32} {f_parts_5 : Int32} {f_size_6 : Int32} {fv7 : Value}
  (a1 : hat h 0 (oC 8 [.ref 1, .ref 5, .ref 18, .ref 81, .ref 98, .int f_latest_1, .int f_faultKind_2, .int f_faultPlace_3]))
  (a2 : hat h 1 (oC 6 [.int f_bits_4, .int f_parts_5, .ref 2, .int f_size_6, .ref 3, .ref 4, fv7]))
  (k1 : x1 < (0 : Int32) → R (some (.int (0 : Int32))) h)
  (k2 : ¬ x1 < (0 : Int32) → x1 < f_parts_5 → R (some (.int (1 : Int32))) h)
  (k3 : ¬ x1 < (0 : Int32) → ¬ x1 < f_parts_5 → R (some (.int (0 : Int32))) h)
  : Ev G d k n M_X_isPart 0 [.ref 0, .int x1] [] h R :=
  Ev.go (pc' := 1) (ls' := [.ref 0, .int x1]) (st' := [.int x1]) [.iload_n 1] (by decide +kernel) rfl <|
  Ev.br (i := .ifCond .lt (18)) (P := x1 < (0 : Int32)) (t := 19) (f := 4) (r := []) (by decide +kernel) rfl (fun c1 =>
    Ev.go (pc' := 20) (ls' := [.ref 0, .int x1]) (st' := [.int (0 : Int32)]) [.iconst 0] (by decide +kernel) rfl <|
    Ev.ret (r := (some (.int (0 : Int32)))) (Or.inl ⟨_, rfl, by decide +kernel, _, rfl, rfl⟩) (k1 c1)
  ) (fun c1 =>
    Ev.go (pc' := 6) (ls' := [.ref 0, .int x1]) (st' := [.ref 0, .int x1]) [.iload_n 1, .aload_n 0] (by decide +kernel) rfl <|
    Ev.getf f_X_10 (by decide +kernel) a1 rfl <|
    Ev.getf f_X_93 (by decide +kernel) a2 rfl <|
    Ev.br (i := .if_icmp .ge (7)) (P := x1 < f_parts_5) (t := 15) (f := 19) (r := []) (by decide +kernel) rfl (fun c2 =>
      Ev.go (pc' := 20) (ls' := [.ref 0, .int x1]) (st' := [.int (1 : Int32)]) [.iconst 1, .goto (4)] (by decide +kernel) rfl <|
      Ev.ret (r := (some (.int (1 : Int32)))) (Or.inl ⟨_, rfl, by decide +kernel, _, rfl, rfl⟩) (k2 c1 c2)
    ) (fun c2 =>
      Ev.go (pc' := 20) (ls' := [.ref 0, .int x1]) (st' := [.int (0 : Int32)]) [.iconst 0] (by decide +kernel) rfl <|
      Ev.ret (r := (some (.int (0 : Int32)))) (Or.inl ⟨_, rfl, by decide +kernel, _, rfl, rfl⟩) (k3 c1 c2)
    )
  )
theorem b_X_packPair_0 {G : ev_G} {d k n : Nat} {h : ev_H} {R : Option Value → ev_H → Prop} {x1 : Int32} {x2 : Int32} {f_latest_1 : Int32} {f_faultKind_2 : Int32} {f_faultPlace_3 : Int32} {f_bits_4 : Int32} {f_parts_5 : Int32} {f_size_6 : Int32} {fv7 : Value} {g8 : Nat → Int64} {j9 : Nat} {j10 : Nat}
  (a1 : hat h 0 (oC 8 [.ref 1, .ref 5, .ref 18, .ref 81, .ref 98, .int f_latest_1, .int f_faultKind_2, .int f_faultPlace_3]))
  (a2 : hat h 1 (oC 6 [.int f_bits_4, .int f_parts_5, .ref 2, .int f_size_6, .ref 3, .ref 4, fv7]))
  (a3 : hat h 3 (aL 32 g8))
  (i4 : ev_ix x1 j9 32)
  (i5 : ev_ix x2 j10 32)
  (k1 : R (some (.int ((((nI (pop ((g8 j9) ^^^ (g8 j10)))) <<< ((10 : Int32) &&& 31)) ||| (x1 <<< ((5 : Int32) &&& 31))) ||| x2))) h)
  : Ev G (d + 2) k n M_X_packPair 0 [.ref 0, .int x1, .int x2] [] h R :=
  Ev.go (pc' := 1) (ls' := [.ref 0, .int x1, .int x2]) (st' := [.ref 0]) [.aload_n 0] (by decide +kernel) rfl <|
  Ev.getf f_X_10 (by decide +kernel) a1 rfl <|
  Ev.getf f_X_118 (by decide +kernel) a2 rfl <|
  Ev.go (pc' := 8) (ls' := [.ref 0, .int x1, .int x2]) (st' := [.int x1, .ref 3]) [.iload_n 1] (by decide +kernel) rfl <|
  Ev.lald (j := j9) (by decide +kernel) a3 i4 <|
  Ev.go (pc' := 10) (ls' := [.ref 0, .int x1, .int x2]) (st' := [.ref 0, .long (g8 j9)]) [.aload_n 0] (by decide +kernel) rfl <|
  Ev.getf f_X_10 (by decide +kernel) a1 rfl <|
  Ev.getf f_X_118 (by decide +kernel) a2 rfl <|
  Ev.go (pc' := 17) (ls' := [.ref 0, .int x1, .int x2]) (st' := [.int x2, .ref 3, .long (g8 j9)]) [.iload_n 2] (by decide +kernel) rfl <|
  Ev.lald (j := j10) (by decide +kernel) a3 i5 <|
  Ev.cS0 (M' := M_X_unlike) (as := [.long (g8 j9), .long (g8 j10)]) (rest := []) l_X_144 M_X_unlike_ok M_X_unlike_st (by decide +kernel) rfl rfl (Nat.le_of_ble_eq_true rfl) (Nat.le_of_ble_eq_true rfl) (s_X_unlike <| show Ev G (d + 2) _ _ M_X_packPair 21 [.ref 0, .int x1, .int x2] [.int (nI (pop ((g8 j9) ^^^ (g8 j10))))] h R from
    Ev.go (pc' := 30) (ls' := [.ref 0, .int x1, .int x2]) (st' := [.int ((((nI (pop ((g8 j9) ^^^ (g8 j10)))) <<< ((10 : Int32) &&& 31)) ||| (x1 <<< ((5 : Int32) &&& 31))) ||| x2)]) [.bipush (10), .ishl, .iload_n 1, .iconst 5, .ishl, .ior, .iload_n 2, .ior] (by decide +kernel) rfl <|
    Ev.ret (r := (some (.int ((((nI (pop ((g8 j9) ^^^ (g8 j10)))) <<< ((10 : Int32) &&& 31)) ||| (x1 <<< ((5 : Int32) &&& 31))) ||| x2)))) (Or.inl ⟨_, rfl, by decide +kernel, _, rfl, rfl⟩) k1
  )
def inR (x : Int32) (n : Nat) : Bool := decide (0 ≤ x.toInt ∧ x.toInt < (n : Int))
theorem inR_yes {x : Int32} {n : Nat} (hn : n < 2147483648) (h : inR x n = true) : ∃ j, j < n ∧ x = nI j := by
  have h := of_decide_eq_true h
  refine ⟨x.toInt.toNat, by omega, ?_⟩
  apply Int32.toInt_inj.mp
  rw [nI_toInt (by omega)]; omega
theorem inR_nI {j n : Nat} (hj : j < 2147483648) : inR (nI j) n = decide (j < n) := by
  unfold inR; rw [nI_toInt hj]; exact decide_eq_decide.mpr (by omega)
theorem inR_of {x : Int32} {n : Nat} (hn : n < 2147483648) (h0 : ¬ x < 0) (h1 : x < nI n) : inR x n = true := by
  rw [Int32.lt_iff_toInt_lt] at h0 h1
  rw [nI_toInt hn] at h1
  exact decide_eq_true ⟨Int.not_lt.mp h0, h1⟩
theorem inR_no1 {x : Int32} {n : Nat} (h0 : x < 0) : inR x n = false := by
  rw [Int32.lt_iff_toInt_lt] at h0
  have h0 : x.toInt < 0 := h0
  exact decide_eq_false (by omega)
theorem inR_no2 {x : Int32} {n : Nat} (hn : n < 2147483648) (h1 : ¬ x < nI n) : inR x n = false := by
  rw [Int32.lt_iff_toInt_lt, nI_toInt hn] at h1
  exact decide_eq_false (by omega)
def numB (x : Int64) (b : Nat) : Bool := decide (¬ x < 0) && decide (x >>> ((nI b).toInt64 &&& 63) = 0)
def XO (h : ev_H) (lt fk fp : Int32) : Prop := hat h 0 (oC 8 [.ref 1, .ref 5, .ref 18, .ref 81, .ref 98, .int lt, .int fk, .int fp])
/-- the last, and 1; 0 if there is none -/
def hiB (p : Nat → Bool) : Nat → Nat
  | 0 => 0
  | n + 1 => if p n then n + 1 else hiB p n
theorem hiB_le (p : Nat → Bool) : ∀ n, hiB p n ≤ n
  | 0 => Nat.le_refl _
  | n + 1 => by
    have := hiB_le p n
    show (if p n then n + 1 else hiB p n) ≤ n + 1
    split <;> omega
theorem hiB_0 {p : Nat → Bool} : ∀ {n : Nat}, hiB p n = 0 ↔ fst p n = n
  | 0 => ⟨fun _ => rfl, fun _ => rfl⟩
  | n + 1 => by
    have ih := hiB_0 (p := p) (n := n)
    have hl := fst_le p n
    show (if p n then n + 1 else hiB p n) = 0 ↔ (if fst p n < n then fst p n else if p n then n else n + 1) = n + 1
    cases q : p n
    · by_cases c : fst p n < n
      · simp [c]; omega
      · simp [c]; omega
    · by_cases c : fst p n < n
      · simp [c]; omega
      · simp [c]
theorem hiB_of {p : Nat → Bool} {k : Nat} (hp : p k = true) : ∀ {n : Nat}, k < n → k < hiB p n
  | 0, h => absurd h (Nat.not_lt_zero k)
  | n + 1, h => by
    show k < if p n then n + 1 else hiB p n
    by_cases e : k = n
    · subst e; rw [hp]; simp
    · have := hiB_of (p := p) hp (n := n) (by omega)
      split <;> omega
def rchN (x : Int64) : Nat := hiB (lt x) 48 - fst (lt x) 48
def rnN (p : Nat → Bool) : Nat → Nat
  | 0 => 0
  | n + 1 => if p n then rnN p n + 1 else 0
theorem rnN_le (p : Nat → Bool) : ∀ n, rnN p n ≤ n
  | 0 => Nat.le_refl _
  | n + 1 => by
    have := rnN_le p n
    show (if p n then rnN p n + 1 else 0) ≤ n + 1
    split <;> omega
def mxN (p : Nat → Bool) : Nat → Nat
  | 0 => 0
  | n + 1 => max (mxN p n) (rnN p (n + 1))
theorem mxN_le (p : Nat → Bool) : ∀ n, mxN p n ≤ n
  | 0 => Nat.le_refl _
  | n + 1 => by
    have := mxN_le p n
    have := rnN_le p (n + 1)
    show max (mxN p n) (rnN p (n + 1)) ≤ n + 1
    omega
theorem i_shN (n : Nat) {k : Nat} (hk : k < 32) : nI n <<< (nI k &&& 31) = nI (n * 2 ^ k) := by
  apply Int32.toBitVec_inj.1
  show BitVec.ofNat 32 n <<< ((nI k &&& 31).toBitVec.smod 32) = BitVec.ofNat 32 (n * 2 ^ k)
  rw [BitVec.shiftLeft_eq', s_l k hk]
  apply BitVec.eq_of_toNat_eq
  rw [BitVec.toNat_shiftLeft, BitVec.toNat_ofNat, BitVec.toNat_ofNat, Nat.shiftLeft_eq, Nat.mod_mul_mod]
theorem i_orN (a b : Nat) : nI a ||| nI b = nI (a ||| b) := by
  apply Int32.toBitVec_inj.1
  show BitVec.ofNat 32 a ||| BitVec.ofNat 32 b = BitVec.ofNat 32 (a ||| b)
  apply BitVec.eq_of_getLsbD_eq
  intro i hi
  simp [hi]
theorem i_sarN {a k : Nat} (ha : a < 2147483648) (hk : k < 32) : nI a >>> (nI k &&& 31) = nI (a / 2 ^ k) := by
  apply b_ext; intro i hi
  have := Nat.div_le_self a (2 ^ k)
  rw [b_sshr k hk _ hi, bt_nI _ _ (by omega), bt_nI _ _ (by omega), bt_nI _ _ (by omega), Nat.testBit_div_two_pow]
  by_cases q : k + i < 32
  · rw [if_pos q, Nat.add_comm]
  · rw [if_neg q, Nat.testBit_lt_two_pow (show a < 2 ^ 31 by omega), Nat.testBit_lt_two_pow]
    exact Nat.lt_of_lt_of_le (show a < 2 ^ 31 by omega) (Nat.pow_le_pow_right (by decide) (by omega))
/-- two packed -/
def pkN (f i j : Nat) : Nat := f * 1024 + i * 32 + j
theorem pkN_eq {f i j : Nat} (hi : i < 32) (hj : j < 32) : ((nI f <<< ((10 : Int32) &&& 31)) ||| (nI i <<< ((5 : Int32) &&& 31))) ||| nI j = nI (pkN f i j) := by
  rw [show (10 : Int32) = nI 10 from rfl, show (5 : Int32) = nI 5 from rfl, i_shN _ (by decide), i_shN _ (by decide), i_orN, i_orN]
  congr 1
  have e1 : f * 2 ^ 10 ||| i * 2 ^ 5 = 2 ^ 5 * (f * 32 + i) := by
    rw [Nat.mul_comm f, ← Nat.two_pow_add_eq_or_of_lt (show i * 2 ^ 5 < 2 ^ 10 by omega) f]; omega
  rw [e1, ← Nat.two_pow_add_eq_or_of_lt (show j < 2 ^ 5 by omega)]
  unfold pkN; omega
section S22
variable {G : ev_G} {d : Nat} {h : ev_H} {R : Option Value → ev_H → Prop} {S : AS} {lt0 fk fp : Int32}
theorem s_X_leastOf {set : Int32} (hR : R (some (.int (frI (bt set) 32))) h) : Ev G (d + 1) 0 0 M_X_leastOf 0 [.int set, ev_unk] [] h R := by
  refine b_X_leastOf_0 ?_
  have := up0 (P := fun i => (∀ j, j < i → bt set j = false) → Ev G (d + 1) 0 0 M_X_leastOf 2 [.int set, .int (nI i)] [] h R) 32 ?_ ?_
  · exact this (fun j hj => by omega)
  · intro i hi ih hn
    have hl : nI i < (32 : Int32) := nI_lt hi (by decide)
    refine b_X_leastOf_2 (fun _ c => ?_) (fun _ c => ?_) (fun c => absurd hl c)
    · rw [inI_n hi] at c
      rw [nI_1]
      refine ih fun j hj => ?_
      by_cases e : j = i
      · subst e; exact b2i_e0 c
      · exact hn j (by omega)
    · rw [inI_n hi] at c
      rw [frI, fst_eq hi (b2i_n0 c) hn, if_pos hi] at hR; exact hR
  · intro hn
    refine b_X_leastOf_2 (fun c => absurd c (by decide)) (fun c => absurd c (by decide)) (fun _ => ?_)
    rw [frI, fst_none hn, if_neg (Nat.lt_irrefl _)] at hR; exact hR
theorem s_X_isUpper {x : Int32} (hR : R (some (.int (b2i (inR x 25 && !inR x 1)))) h) : Ev G d 0 0 M_X_isUpper 0 [.int x] [] h R := by
  refine b_X_isUpper_0 (fun q => ?_) (fun q q2 => ?_) (fun q q2 => ?_)
  all_goals rw [Int32.lt_iff_toInt_lt] at q
  all_goals have e1 : (1 : Int32).toInt = 1 := rfl
  all_goals have e24 : (24 : Int32).toInt = 24 := rfl
  all_goals rw [e1] at q
  · have : (inR x 25 && !inR x 1) = false := by
      unfold inR
      by_cases c : 0 ≤ x.toInt
      · rw [decide_eq_true (p := 0 ≤ x.toInt ∧ x.toInt < ((1 : Nat) : Int)) ⟨c, by omega⟩]; simp
      · rw [decide_eq_false (p := 0 ≤ x.toInt ∧ x.toInt < ((25 : Nat) : Int)) (by omega)]; simp
    rw [this] at hR; exact hR
  · rw [Int32.lt_iff_toInt_lt, e24] at q2
    have : (inR x 25 && !inR x 1) = false := by
      unfold inR
      rw [decide_eq_false (p := 0 ≤ x.toInt ∧ x.toInt < ((25 : Nat) : Int)) (by omega)]; simp
    rw [this] at hR; exact hR
  · rw [Int32.lt_iff_toInt_lt, e24] at q2
    have : (inR x 25 && !inR x 1) = true := by
      unfold inR
      rw [decide_eq_true (p := 0 ≤ x.toInt ∧ x.toInt < ((25 : Nat) : Int)) (by omega), decide_eq_false (p := 0 ≤ x.toInt ∧ x.toInt < ((1 : Nat) : Int)) (by omega)]; rfl
    rw [this] at hR; exact hR
theorem s_X_isNumber {x : Int64} (hX : XO h lt0 fk fp) (hS : StR h 1 S) (hR : R (some (.int (b2i (numB x (sB S))))) h) : Ev G d 0 0 M_X_isNumber 0 [.ref 0, .long x, ev_unk] [] h R := by
  obtain ⟨brf, tgf, cof, fv, t1, -⟩ := hS
  refine b_X_isNumber_0 hX t1 (fun q => ?_) (fun q q2 => ?_) (fun q q2 => ?_)
  · unfold numB at hR; rw [decide_eq_false (p := ¬ x < 0) (fun z => z q)] at hR; exact hR
  · unfold numB at hR; rw [decide_eq_true (p := ¬ x < 0) q, decide_eq_true q2] at hR; exact hR
  · unfold numB at hR; rw [decide_eq_true (p := ¬ x < 0) q, decide_eq_false q2] at hR; exact hR
theorem s_X_isRadius {x : Int32} (hX : XO h lt0 fk fp) (hS : StR h 1 S) (ok : sOk S) (hR : R (some (.int (b2i (inR x (sB S + 1))))) h) : Ev G d 0 0 M_X_isRadius 0 [.ref 0, .int x] [] h R := by
  have h48 := ok.2.1
  obtain ⟨brf, tgf, cof, fv, t1, -⟩ := hS
  refine b_X_isRadius_0 hX t1 (fun q => ?_) (fun q q2 => ?_) (fun q q2 => ?_)
  · rw [inR_no1 q] at hR; exact hR
  · rw [Int32.lt_iff_toInt_lt, nI_toInt (by omega)] at q2
    have : inR x (sB S + 1) = false := decide_eq_false (by omega)
    rw [this] at hR; exact hR
  · rw [Int32.lt_iff_toInt_lt] at q
    rw [Int32.lt_iff_toInt_lt, nI_toInt (by omega)] at q2
    have q : ¬ x.toInt < 0 := q
    have : inR x (sB S + 1) = true := decide_eq_true (by omega)
    rw [this] at hR; exact hR
theorem s_X_isBit {x : Int32} (hX : XO h lt0 fk fp) (hS : StR h 1 S) (ok : sOk S) (hR : R (some (.int (b2i (inR x (sB S))))) h) : Ev G d 0 0 M_X_isBit 0 [.ref 0, .int x] [] h R := by
  have h48 := ok.2.1
  obtain ⟨brf, tgf, cof, fv, t1, -⟩ := hS
  refine b_X_isBit_0 hX t1 (fun q => ?_) (fun q q2 => ?_) (fun q q2 => ?_)
  · rw [inR_no1 q] at hR; exact hR
  · rw [inR_of (by omega) q q2] at hR; exact hR
  · rw [inR_no2 (by omega) q2] at hR; exact hR
theorem s_X_isCode {x : Int32} (hX : XO h lt0 fk fp) (hS : StR h 1 S) (ok : sOk S) (hR : R (some (.int (b2i (inR x (sN S))))) h) : Ev G d 0 0 M_X_isCode 0 [.ref 0, .int x] [] h R := by
  have h48 := ok.2.2.2.2.1
  obtain ⟨brf, tgf, cof, fv, t1, -⟩ := hS
  refine b_X_isCode_0 hX t1 (fun q => ?_) (fun q q2 => ?_) (fun q q2 => ?_)
  · rw [inR_no1 q] at hR; exact hR
  · rw [inR_of (by omega) q q2] at hR; exact hR
  · rw [inR_no2 (by omega) q2] at hR; exact hR
theorem s_X_isPart {x : Int32} (hX : XO h lt0 fk fp) (hS : StR h 1 S) (ok : sOk S) (hR : R (some (.int (b2i (inR x (sP S))))) h) : Ev G d 0 0 M_X_isPart 0 [.ref 0, .int x] [] h R := by
  have h48 := ok.2.2.2.1
  obtain ⟨brf, tgf, cof, fv, t1, -⟩ := hS
  refine b_X_isPart_0 hX t1 (fun q => ?_) (fun q q2 => ?_) (fun q q2 => ?_)
  · rw [inR_no1 q] at hR; exact hR
  · rw [inR_of (by omega) q q2] at hR; exact hR
  · rw [inR_no2 (by omega) q2] at hR; exact hR
theorem s_X_packPair {i j : Nat} {iI jI : Int32} (hX : XO h lt0 fk fp) (hS : StR h 1 S) (ok : sOk S) (hi : iI = nI i ∧ i < sN S) (hj : jI = nI j ∧ j < sN S) (hR : R (some (.int (nI (pkN (pop (sCo S i ^^^ sCo S j)) i j)))) h) : Ev G (d + 2) 0 0 M_X_packPair 0 [.ref 0, .int iI, .int jI] [] h R := by
  have h48 := ok.2.2.2.2.1
  obtain ⟨rfl, hi⟩ := hi
  obtain ⟨rfl, hj⟩ := hj
  obtain ⟨brf, tgf, cof, fv, t1, t2, t3, t4, e1, e2, -⟩ := hS
  refine b_X_packPair_0 hX t1 t3 (ixn (by omega) (by decide)) (ixn (by omega) (by decide)) ?_
  rw [pkN_eq (by omega) (by omega), (e2 i hi).1, (e2 j hj).1]; exact hR
def opN (q : Nat) (w : Int32) : Nat := if w = 2 then q / 1024 else if w = 0 then q / 32 % 32 else q % 32
theorem s_X_ofPacked {q : Nat} {w qI : Int32} (hq : qI = nI q ∧ q < 2147483648) (hR : R (some (.int (nI (opN q w)))) h) : Ev G d 0 0 M_X_ofPacked 0 [.int qI, .int w] [] h R := by
  obtain ⟨rfl, hq⟩ := hq
  refine b_X_ofPacked_0 (fun c => ?_) (fun c c2 => ?_) (fun c c2 => ?_)
  · unfold opN at hR; rw [if_pos c] at hR
    rw [show (10 : Int32) = nI 10 from rfl, i_sarN hq (by decide)]; exact hR
  · unfold opN at hR; rw [if_neg c, if_pos c2] at hR
    rw [show (5 : Int32) = nI 5 from rfl, i_sarN hq (by decide), show (31 : Int32) = nI 31 from rfl, i_andN, show 31 = 2 ^ 5 - 1 from rfl, Nat.and_two_pow_sub_one_eq_mod]; exact hR
  · unfold opN at hR; rw [if_neg c, if_neg c2] at hR
    rw [show (31 : Int32) = nI 31 from rfl, i_andN, show 31 = 2 ^ 5 - 1 from rfl, Nat.and_two_pow_sub_one_eq_mod]; exact hR
theorem s_X_reachOf {x : Int64} (hR : R (some (.int (nI (rchN x)))) h) : Ev G (d + 1) 0 0 M_X_reachOf 0 [.long x, ev_unk, ev_unk, ev_unk, ev_unk] [] h R := by
  refine b_X_reachOf_0 ?_
  have L := up0 (P := fun i => Ev G (d + 1) 0 0 M_X_reachOf 9 [.long x, ev_unk, .int (nI (if fst (lt x) i < i then fst (lt x) i else 48)), .int (nI (if hiB (lt x) i = 0 then 47 else hiB (lt x) i - 1)), .int (nI i)] [] h R) 48 ?_ ?_
  · exact L
  · intro i hi ih
    have yes : nI i < (48 : Int32) := nI_lt hi (by decide)
    have f1 : fst (lt x) (i + 1) = if fst (lt x) i < i then fst (lt x) i else if lt x i then i else i + 1 := rfl
    have f2 : hiB (lt x) (i + 1) = if lt x i then i + 1 else hiB (lt x) i := rfl
    refine b_X_reachOf_9 (fun _ q => ?_) (fun _ q => ?_) (fun q => absurd yes q)
    · rw [tbL_n (by omega), b2i_1] at q
      rw [nI_1]
      rw [f2, q] at ih
      have e1 : (if nI i < nI (if fst (lt x) i < i then fst (lt x) i else 48) then nI i else nI (if fst (lt x) i < i then fst (lt x) i else 48)) = nI (if fst (lt x) (i + 1) < i + 1 then fst (lt x) (i + 1) else 48) := by
        rw [f1, q]
        by_cases c : fst (lt x) i < i
        · simp only [if_pos c]; rw [if_neg (nI_nlt (by omega) (by omega)), if_pos (by omega)]
        · simp only [if_neg c, if_true]; rw [if_pos (nI_lt hi (by decide)), if_pos (by omega)]
      rw [e1]
      simpa using ih
    · rw [tbL_n (by omega), b2i_1] at q
      have q : lt x i = false := by cases z : lt x i <;> simp_all
      rw [nI_1]
      rw [f2, f1, q] at ih
      have e1 : (if (if fst (lt x) i < i then fst (lt x) i else i + 1) < i + 1 then (if fst (lt x) i < i then fst (lt x) i else i + 1) else 48) = (if fst (lt x) i < i then fst (lt x) i else 48) := by
        by_cases c : fst (lt x) i < i
        · simp only [if_pos c]; rw [if_pos (by omega)]
        · simp only [if_neg c]; rw [if_neg (by omega)]
      simp only [Bool.false_eq_true, if_false] at ih
      rw [e1] at ih
      exact ih
  · refine b_X_reachOf_9 (fun q => absurd q (by decide)) (fun q => absurd q (by decide)) (fun _ => ?_)
    have h1 := hiB_0 (p := lt x) (n := 48)
    have h2 := hiB_le (lt x) 48
    have h3 := fst_le (lt x) 48
    unfold rchN at hR
    by_cases c : hiB (lt x) 48 = 0
    · rw [if_pos c, if_neg (by have := h1.mp c; omega)]
      rw [c, Nat.zero_sub] at hR
      exact hR
    · have c2 : fst (lt x) 48 < 48 := by
        rcases Nat.lt_or_ge (fst (lt x) 48) 48 with z | z
        · exact z
        · exact absurd (h1.mpr (by omega)) c
      rw [if_neg c, if_pos c2]
      have hh : fst (lt x) 48 < hiB (lt x) 48 := by
        rcases Nat.lt_or_ge (fst (lt x) 48) (hiB (lt x) 48) with z | z
        · exact z
        · exact absurd (hiB_of (fst_yes (lt x) 48 c2) c2) (by omega)
      rw [nI_sub (by omega), nI_1, show hiB (lt x) 48 - 1 - fst (lt x) 48 + 1 = hiB (lt x) 48 - fst (lt x) 48 by omega]
      exact hR
theorem s_X_longestRun {x : Int64} (hR : R (some (.int (nI (mxN (lt x) 48)))) h) : Ev G (d + 1) 0 0 M_X_longestRun 0 [.long x, ev_unk, ev_unk, ev_unk, ev_unk] [] h R := by
  refine b_X_longestRun_0 ?_
  have L := up0 (P := fun i => Ev G (d + 1) 0 0 M_X_longestRun 7 [.long x, ev_unk, .int (nI (mxN (lt x) i)), .int (nI (rnN (lt x) i)), .int (nI i)] [] h R) 48 ?_ ?_
  · exact L
  · intro i hi ih
    have yes : nI i < (48 : Int32) := nI_lt hi (by decide)
    have f1 : mxN (lt x) (i + 1) = max (mxN (lt x) i) (rnN (lt x) (i + 1)) := rfl
    have f2 : rnN (lt x) (i + 1) = if lt x i then rnN (lt x) i + 1 else 0 := rfl
    have b1 := mxN_le (lt x) i
    have b2 := rnN_le (lt x) i
    have mx : ∀ r, r ≤ 49 → (if nI (mxN (lt x) i) < nI r then nI r else nI (mxN (lt x) i)) = nI (max (mxN (lt x) i) r) := fun r hr => by
      by_cases c : mxN (lt x) i < r
      · rw [if_pos (nI_lt c (by omega)), Nat.max_eq_right (by omega)]
      · rw [if_neg (fun z => c ((nI_ltI (by omega) (by omega)).mp z)), Nat.max_eq_left (by omega)]
    refine b_X_longestRun_7 (fun _ q => ?_) (fun _ q => ?_) (fun q => absurd yes q)
    · rw [tbL_n (by omega), b2i_1] at q
      rw [f2, if_pos q] at f1
      rw [f1, f2, if_pos q] at ih
      rw [nI_1, nI_1, mx _ (by omega)]; exact ih
    · rw [tbL_n (by omega), b2i_1] at q
      rw [f2, if_neg q] at f1
      rw [f1, f2, if_neg q] at ih
      rw [nI_1, show (0 : Int32) = nI 0 from rfl, mx _ (by omega)]; exact ih
  · exact b_X_longestRun_7 (fun q => absurd q (by decide)) (fun q => absurd q (by decide)) (fun _ => hR)
def mesN (x : Int64) (m : Int32) : Nat := if m = 0 then pop x else if m = 1 then pop (x &&& ((x <<< ((1 : Int32).toInt64 &&& 63)) ^^^ (-1 : Int64))) else if m = 2 then rchN x else mxN (lt x) 48
end S22
theorem b_X_measureOf_0 {G : ev_G} {d k n : Nat} {h : ev_H} {R : Option Value → ev_H → Prop} {x0 : Int64} {x2 : Int32}
  (k1 : x2 = (0 : Int32) → R (some (.int (nI (pop x0)))) h)
  (k2 : x2 = (1 : Int32) → R (some (.int (nI (pop (x0 &&& ((x0 <<< ((1 : Int32).toInt64 &&& 63)) ^^^ (-1 : Int64))))))) h)
  (k3 : x2 = (2 : Int32) → R (some (.int (nI (rchN x0)))) h)
  (k4 : ¬ x2 = (0 : Int32) → ¬ x2 = (1 : Int32) → ¬ x2 = (2 : Int32) → R (some (.int (nI (mxN (lt x0) 48)))) h)
  : Ev G (d + 2) k n M_X_measureOf 0 [.long x0, ev_unk, .int x2] [] h R :=
  Ev.go (pc' := 1) (ls' := [.long x0, ev_unk, .int x2]) (st' := [.int x2]) [.iload_n 2] (by decide +kernel) rfl <|
  if c1_0 : x2 = (0 : Int32) then Ev.tsw (t := 28) (off := 27) (o := 50) (lo := 0) (hi := 2) (offs := #[27, 32, 45]) (len := 27) (by decide +kernel) (by rw [c1_0]; decide) (by rw [c1_0]; decide) (by rw [c1_0]; decide) rfl <|
    Ev.go (pc' := 29) (ls' := [.long x0, ev_unk, .int x2]) (st' := [.long x0]) [.lload_n 0] (by decide +kernel) rfl <|
    Ev.cS0 (M' := M_JL_bitCount) (as := [.long x0]) (rest := []) l_X_286 M_JL_bitCount_ok M_JL_bitCount_st (by decide +kernel) rfl rfl (Nat.le_of_ble_eq_true rfl) (Nat.le_of_ble_eq_true rfl) (s_JL_bitCount <| show Ev G (d + 2) _ _ M_X_measureOf 32 [.long x0, ev_unk, .int x2] [.int (nI (pop x0))] h R from
      Ev.ret (r := (some (.int (nI (pop x0))))) (Or.inl ⟨_, rfl, by decide +kernel, _, rfl, rfl⟩) (k1 c1_0)
    )
  else
  if c1_1 : x2 = (1 : Int32) then Ev.tsw (t := 33) (off := 32) (o := 50) (lo := 0) (hi := 2) (offs := #[27, 32, 45]) (len := 27) (by decide +kernel) (by rw [c1_1]; decide) (by rw [c1_1]; decide) (by rw [c1_1]; decide) rfl <|
    Ev.go (pc' := 37) (ls' := [.long x0, ev_unk, .int x2]) (st' := [.long (x0 <<< ((1 : Int32).toInt64 &&& 63)), .long x0]) [.lload_n 0, .lload_n 0, .iconst 1, .lshl] (by decide +kernel) rfl <|
    Ev.ldc2 k_X_290 (by decide +kernel) <|
    Ev.go (pc' := 42) (ls' := [.long x0, ev_unk, .int x2]) (st' := [.long (x0 &&& ((x0 <<< ((1 : Int32).toInt64 &&& 63)) ^^^ (-1 : Int64)))]) [.lxor, .land] (by decide +kernel) rfl <|
    Ev.cS0 (M' := M_JL_bitCount) (as := [.long (x0 &&& ((x0 <<< ((1 : Int32).toInt64 &&& 63)) ^^^ (-1 : Int64)))]) (rest := []) l_X_286 M_JL_bitCount_ok M_JL_bitCount_st (by decide +kernel) rfl rfl (Nat.le_of_ble_eq_true rfl) (Nat.le_of_ble_eq_true rfl) (s_JL_bitCount <| show Ev G (d + 2) _ _ M_X_measureOf 45 [.long x0, ev_unk, .int x2] [.int (nI (pop (x0 &&& ((x0 <<< ((1 : Int32).toInt64 &&& 63)) ^^^ (-1 : Int64)))))] h R from
      Ev.ret (r := (some (.int (nI (pop (x0 &&& ((x0 <<< ((1 : Int32).toInt64 &&& 63)) ^^^ (-1 : Int64)))))))) (Or.inl ⟨_, rfl, by decide +kernel, _, rfl, rfl⟩) (k2 c1_1)
    )
  else
  if c1_2 : x2 = (2 : Int32) then Ev.tsw (t := 46) (off := 45) (o := 50) (lo := 0) (hi := 2) (offs := #[27, 32, 45]) (len := 27) (by decide +kernel) (by rw [c1_2]; decide) (by rw [c1_2]; decide) (by rw [c1_2]; decide) rfl <|
    Ev.go (pc' := 47) (ls' := [.long x0, ev_unk, .int x2]) (st' := [.long x0]) [.lload_n 0] (by decide +kernel) rfl <|
    Ev.cS0 (M' := M_X_reachOf) (as := [.long x0]) (rest := []) l_X_292 M_X_reachOf_ok M_X_reachOf_st (by decide +kernel) rfl rfl (Nat.le_of_ble_eq_true rfl) (Nat.le_of_ble_eq_true rfl) (s_X_reachOf <| show Ev G (d + 2) _ _ M_X_measureOf 50 [.long x0, ev_unk, .int x2] [.int (nI (rchN x0))] h R from
      Ev.ret (r := (some (.int (nI (rchN x0))))) (Or.inl ⟨_, rfl, by decide +kernel, _, rfl, rfl⟩) (k3 c1_2)
    )
  else
  Ev.tswd (t := 51) (o := 50) (lo := 0) (hi := 2) (offs := #[27, 32, 45]) (len := 27) (by decide +kernel) (by have qc1_0 := ne_i (v := 0) (0 : Int32) (by decide) c1_0; have qc1_1 := ne_i (v := 1) (1 : Int32) (by decide) c1_1; have qc1_2 := ne_i (v := 2) (2 : Int32) (by decide) c1_2; omega) rfl <|
    Ev.go (pc' := 52) (ls' := [.long x0, ev_unk, .int x2]) (st' := [.long x0]) [.lload_n 0] (by decide +kernel) rfl <|
    Ev.cS0 (M' := M_X_longestRun) (as := [.long x0]) (rest := []) l_X_295 M_X_longestRun_ok M_X_longestRun_st (by decide +kernel) rfl rfl (Nat.le_of_ble_eq_true rfl) (Nat.le_of_ble_eq_true rfl) (s_X_longestRun <| show Ev G (d + 2) _ _ M_X_measureOf 55 [.long x0, ev_unk, .int x2] [.int (nI (mxN (lt x0) 48))] h R from
      Ev.ret (r := (some (.int (nI (mxN (lt x0) 48))))) (Or.inl ⟨_, rfl, by decide +kernel, _, rfl, rfl⟩) (k4 c1_0 c1_1 c1_2)
    )
  
section S22
variable {G : ev_G} {d : Nat} {h : ev_H} {R : Option Value → ev_H → Prop} {S : AS} {lt0 fk fp : Int32}
theorem s_X_measureOf {x : Int64} {m : Int32} (hR : R (some (.int (nI (mesN x m)))) h) : Ev G (d + 2) 0 0 M_X_measureOf 0 [.long x, ev_unk, .int m] [] h R := by
  unfold mesN at hR
  refine b_X_measureOf_0 (fun q => ?_) (fun q => ?_) (fun q => ?_) (fun q q2 q3 => ?_)
  · subst q; exact hR
  · subst q; exact hR
  · subst q; exact hR
  · rw [if_neg q, if_neg q2, if_neg q3] at hR; exact hR
end S22
end
section
/-! PAIRS, CLUSTERS -/
theorem b_X_pairAt_0 {G : ev_G} {d k n : Nat} {h : ev_H} {R : Option Value → ev_H → Prop} {x1 : Int32} {x2 : Int32} {x3 : Int32}
  (k1 : Ev G (d + 3) k n M_X_pairAt 6 [.ref 0, .int x1, .int x2, .int x3, .int (0 : Int32), .int (0 : Int32), ev_unk, ev_unk] [] h R)
  : Ev G (d + 3) k n M_X_pairAt 0 [.ref 0, .int x1, .int x2, .int x3, ev_unk, ev_unk, ev_unk, ev_unk] [] h R :=
  Ev.go (pc' := 6) (ls' := [.ref 0, .int x1, .int x2, .int x3, .int (0 : Int32), .int (0 : Int32), ev_unk, ev_unk]) (st' := []) [.iconst 0, .istore 4, .iconst 0, .istore 5] (by decide +kernel) rfl <|
  k1
theorem b_X_pairAt_6 {G : ev_G} {d k n : Nat} {h : ev_H} {R : Option Value → ev_H → Prop} {x1 : Int32} {x2 : Int32} {x3 : Int32} {x4 : Int32} {x5 : Int32} {f_latest_1 : Int32} {f_faultKind_2 : Int32} {f_faultPlace_3 : Int32} {f_bits_4 : Int32} {f_parts_5 : Int32} {f_size_6 : Int32} {fv7 : Value} {g8 : Nat → Int64} {j9 : Nat} {S10 : AS} {r_11 : Nat}
  (a1 : hat h 0 (oC 8 [.ref 1, .ref 5, .ref 18, .ref 81, .ref 98, .int f_latest_1, .int f_faultKind_2, .int f_faultPlace_3]))
  (a2 : hat h 1 (oC 6 [.int f_bits_4, .int f_parts_5, .ref 2, .int f_size_6, .ref 3, .ref 4, fv7]))
  (a3 : hat h 3 (aL 32 g8))
  (i4 : x5 < (32 : Int32) → ¬ (b2i (inI x1 x5)) = (0 : Int32) → ev_ix x5 j9 32)
  (pr5 : x5 < (32 : Int32) → ¬ (b2i (inI x1 x5)) = (0 : Int32) → StR h 1 S10)
  (pr6 : x5 < (32 : Int32) → ¬ (b2i (inI x1 x5)) = (0 : Int32) → sOk S10)
  (pr7 : x5 < (32 : Int32) → ¬ (b2i (inI x1 x5)) = (0 : Int32) → x2 = nI r_11 ∧ r_11 < 2147483648)
  (k1 : x5 < (32 : Int32) → (b2i (inI x1 x5)) = (0 : Int32) → Ev G (d + 3) k n M_X_pairAt 59 [.ref 0, .int x1, .int x2, .int x3, .int x4, .int x5, .int (0 : Int32), .int (x5 + (1 : Int32))] [] h R)
  (k2 : x5 < (32 : Int32) → ¬ (b2i (inI x1 x5)) = (0 : Int32) → Ev G (d + 3) k n M_X_pairAt 59 [.ref 0, .int x1, .int x2, .int x3, .int x4, .int x5, .int (setI (nrP S10 (bt (x1 &&& ((-2 : Int32) <<< (x5 &&& 31)))) (g8 j9) r_11)), .int (x5 + (1 : Int32))] [] h R)
  (k3 : ¬ x5 < (32 : Int32) → R (some (.int (-1 : Int32))) h)
  : Ev G (d + 3) k n M_X_pairAt 6 [.ref 0, .int x1, .int x2, .int x3, .int x4, .int x5, ev_unk, ev_unk] [] h R :=
  Ev.go (pc' := 10) (ls' := [.ref 0, .int x1, .int x2, .int x3, .int x4, .int x5, ev_unk, ev_unk]) (st' := [.int (32 : Int32), .int x5]) [.iload 5, .bipush (32)] (by decide +kernel) rfl <|
  Ev.br (i := .if_icmp .ge (96)) (P := x5 < (32 : Int32)) (t := 13) (f := 106) (r := []) (by decide +kernel) rfl (fun c1 =>
    Ev.go (pc' := 16) (ls' := [.ref 0, .int x1, .int x2, .int x3, .int x4, .int x5, ev_unk, ev_unk]) (st' := [.int x5, .int x1]) [.iload_n 1, .iload 5] (by decide +kernel) rfl <|
    Ev.cS0 (M' := M_X_isIn) (as := [.int x1, .int x5]) (rest := []) l_X_238 M_X_isIn_ok M_X_isIn_st (by decide +kernel) rfl rfl (Nat.le_of_ble_eq_true rfl) (Nat.le_of_ble_eq_true rfl) (s_X_isIn <| show Ev G (d + 3) _ _ M_X_pairAt 19 [.ref 0, .int x1, .int x2, .int x3, .int x4, .int x5, ev_unk, ev_unk] [.int (b2i (inI x1 x5))] h R from
      Ev.br (i := .ifCond .eq (31)) (P := (b2i (inI x1 x5)) = (0 : Int32)) (t := 50) (f := 22) (r := []) (by decide +kernel) rfl (fun c2 =>
        Ev.go (pc' := 59) (ls' := [.ref 0, .int x1, .int x2, .int x3, .int x4, .int x5, .int (0 : Int32), .int (x5 + (1 : Int32))]) (st' := []) [.iconst 0, .istore 6, .iload 5, .iconst 1, .iadd, .istore 7] (by decide +kernel) rfl <|
        (k1 c1 c2)
      ) (fun c2 =>
        Ev.go (pc' := 23) (ls' := [.ref 0, .int x1, .int x2, .int x3, .int x4, .int x5, ev_unk, ev_unk]) (st' := [.ref 0]) [.aload_n 0] (by decide +kernel) rfl <|
        Ev.getf f_X_10 (by decide +kernel) a1 rfl <|
        Ev.go (pc' := 29) (ls' := [.ref 0, .int x1, .int x2, .int x3, .int x4, .int x5, ev_unk, ev_unk]) (st' := [.int x5, .int x1, .ref 1]) [.iload_n 1, .iload 5] (by decide +kernel) rfl <|
        Ev.cS0 (M' := M_X_above) (as := [.int x5]) (rest := [.int x1, .ref 1]) l_X_241 M_X_above_ok M_X_above_st (by decide +kernel) rfl rfl (Nat.le_of_ble_eq_true rfl) (Nat.le_of_ble_eq_true rfl) (s_X_above <| show Ev G (d + 3) _ _ M_X_pairAt 32 [.ref 0, .int x1, .int x2, .int x3, .int x4, .int x5, ev_unk, ev_unk] [.int ((-2 : Int32) <<< (x5 &&& 31)), .int x1, .ref 1] h R from
          Ev.go (pc' := 34) (ls' := [.ref 0, .int x1, .int x2, .int x3, .int x4, .int x5, ev_unk, ev_unk]) (st' := [.ref 0, .int (x1 &&& ((-2 : Int32) <<< (x5 &&& 31))), .ref 1]) [.iand, .aload_n 0] (by decide +kernel) rfl <|
          Ev.getf f_X_10 (by decide +kernel) a1 rfl <|
          Ev.getf f_X_118 (by decide +kernel) a2 rfl <|
          Ev.go (pc' := 42) (ls' := [.ref 0, .int x1, .int x2, .int x3, .int x4, .int x5, ev_unk, ev_unk]) (st' := [.int x5, .ref 3, .int (x1 &&& ((-2 : Int32) <<< (x5 &&& 31))), .ref 1]) [.iload 5] (by decide +kernel) rfl <|
          Ev.lald (j := j9) (by decide +kernel) a3 (i4 c1 c2) <|
          Ev.go (pc' := 44) (ls' := [.ref 0, .int x1, .int x2, .int x3, .int x4, .int x5, ev_unk, ev_unk]) (st' := [.int x2, .long (g8 j9), .int (x1 &&& ((-2 : Int32) <<< (x5 &&& 31))), .ref 1]) [.iload_n 2] (by decide +kernel) rfl <|
          Ev.cV0 (M' := M_St_within) (as := [.int (x1 &&& ((-2 : Int32) <<< (x5 &&& 31))), .long (g8 j9), .int x2]) (rest := []) l_X_217 M_St_within_ok M_St_within_in M_St_within_se (by decide +kernel) ⟨_, a2⟩ rfl rfl rfl (Nat.le_of_ble_eq_true rfl) (Nat.le_of_ble_eq_true rfl) (s_St_within' (pr5 c1 c2) (pr6 c1 c2) (pr7 c1 c2) <| show Ev G (d + 3) _ _ M_X_pairAt 47 [.ref 0, .int x1, .int x2, .int x3, .int x4, .int x5, ev_unk, ev_unk] [.int (setI (nrP S10 (bt (x1 &&& ((-2 : Int32) <<< (x5 &&& 31)))) (g8 j9) r_11))] h R from
            Ev.go (pc' := 59) (ls' := [.ref 0, .int x1, .int x2, .int x3, .int x4, .int x5, .int (setI (nrP S10 (bt (x1 &&& ((-2 : Int32) <<< (x5 &&& 31)))) (g8 j9) r_11)), .int (x5 + (1 : Int32))]) (st' := []) [.goto (4), .istore 6, .iload 5, .iconst 1, .iadd, .istore 7] (by decide +kernel) rfl <|
            (k2 c1 c2)
          )
        )
      )
    )
  ) (fun c1 =>
    Ev.go (pc' := 107) (ls' := [.ref 0, .int x1, .int x2, .int x3, .int x4, .int x5, ev_unk, ev_unk]) (st' := [.int (-1 : Int32)]) [.iconst (-1)] (by decide +kernel) rfl <|
    Ev.ret (r := (some (.int (-1 : Int32)))) (Or.inl ⟨_, rfl, by decide +kernel, _, rfl, rfl⟩) (k3 c1)
  )
theorem b_X_pairAt_59 {G : ev_G} {d k n : Nat} {h : ev_H} {R : Option Value → ev_H → Prop} {x1 : Int32} {x2 : Int32} {x3 : Int32} {x4 : Int32} {x5 : Int32} {x6 : Int32} {x7 : Int32} {S1 : AS} {la2 : Int32} {fk3 : Int32} {fp4 : Int32} {i_5 : Nat} {j_6 : Nat}
  (pr1 : x7 < (32 : Int32) → ¬ (b2i (inI x6 x7)) = (0 : Int32) → x4 = x3 → XO h la2 fk3 fp4)
  (pr2 : x7 < (32 : Int32) → ¬ (b2i (inI x6 x7)) = (0 : Int32) → x4 = x3 → StR h 1 S1)
  (pr3 : x7 < (32 : Int32) → ¬ (b2i (inI x6 x7)) = (0 : Int32) → x4 = x3 → sOk S1)
  (pr4 : x7 < (32 : Int32) → ¬ (b2i (inI x6 x7)) = (0 : Int32) → x4 = x3 → x5 = nI i_5 ∧ i_5 < sN S1)
  (pr5 : x7 < (32 : Int32) → ¬ (b2i (inI x6 x7)) = (0 : Int32) → x4 = x3 → x7 = nI j_6 ∧ j_6 < sN S1)
  (r6 : x7 < (32 : Int32) → ¬ (b2i (inI x6 x7)) = (0 : Int32) → x4 = x3 → ∃ fs, hat h 0 (oC 8 fs))
  (k1 : x7 < (32 : Int32) → (b2i (inI x6 x7)) = (0 : Int32) → Ev G (d + 3) k n M_X_pairAt 59 [.ref 0, .int x1, .int x2, .int x3, .int x4, .int x5, .int x6, .int (x7 + (1 : Int32))] [] h R)
  (k2 : x7 < (32 : Int32) → ¬ (b2i (inI x6 x7)) = (0 : Int32) → x4 = x3 → R (some (.int (nI (pkN (pop (sCo S1 i_5 ^^^ sCo S1 j_6)) i_5 j_6)))) h)
  (k3 : x7 < (32 : Int32) → ¬ (b2i (inI x6 x7)) = (0 : Int32) → ¬ x4 = x3 → Ev G (d + 3) k n M_X_pairAt 59 [.ref 0, .int x1, .int x2, .int x3, .int (x4 + (1 : Int32)), .int x5, .int x6, .int (x7 + (1 : Int32))] [] h R)
  (k4 : ¬ x7 < (32 : Int32) → Ev G (d + 3) k n M_X_pairAt 6 [.ref 0, .int x1, .int x2, .int x3, .int x4, .int (x5 + (1 : Int32)), ev_unk, ev_unk] [] h R)
  : Ev G (d + 3) k n M_X_pairAt 59 [.ref 0, .int x1, .int x2, .int x3, .int x4, .int x5, .int x6, .int x7] [] h R :=
  Ev.go (pc' := 63) (ls' := [.ref 0, .int x1, .int x2, .int x3, .int x4, .int x5, .int x6, .int x7]) (st' := [.int (32 : Int32), .int x7]) [.iload 7, .bipush (32)] (by decide +kernel) rfl <|
  Ev.br (i := .if_icmp .ge (37)) (P := x7 < (32 : Int32)) (t := 66) (f := 100) (r := []) (by decide +kernel) rfl (fun c1 =>
    Ev.go (pc' := 70) (ls' := [.ref 0, .int x1, .int x2, .int x3, .int x4, .int x5, .int x6, .int x7]) (st' := [.int x7, .int x6]) [.iload 6, .iload 7] (by decide +kernel) rfl <|
    Ev.cS0 (M' := M_X_isIn) (as := [.int x6, .int x7]) (rest := []) l_X_238 M_X_isIn_ok M_X_isIn_st (by decide +kernel) rfl rfl (Nat.le_of_ble_eq_true rfl) (Nat.le_of_ble_eq_true rfl) (s_X_isIn <| show Ev G (d + 3) _ _ M_X_pairAt 73 [.ref 0, .int x1, .int x2, .int x3, .int x4, .int x5, .int x6, .int x7] [.int (b2i (inI x6 x7))] h R from
      Ev.br (i := .ifCond .eq (21)) (P := (b2i (inI x6 x7)) = (0 : Int32)) (t := 94) (f := 76) (r := []) (by decide +kernel) rfl (fun c2 =>
        Ev.go (pc' := 59) (ls' := [.ref 0, .int x1, .int x2, .int x3, .int x4, .int x5, .int x6, .int (x7 + (1 : Int32))]) (st' := []) [.iinc 7 (1), .goto (-38)] (by decide +kernel) rfl <|
        (k1 c1 c2)
      ) (fun c2 =>
        Ev.go (pc' := 79) (ls' := [.ref 0, .int x1, .int x2, .int x3, .int x4, .int x5, .int x6, .int x7]) (st' := [.int x3, .int x4]) [.iload 4, .iload_n 3] (by decide +kernel) rfl <|
        Ev.br (i := .if_icmp .ne (12)) (P := x4 = x3) (t := 82) (f := 91) (r := []) (by decide +kernel) rfl (fun c3 =>
          Ev.go (pc' := 87) (ls' := [.ref 0, .int x1, .int x2, .int x3, .int x4, .int x5, .int x6, .int x7]) (st' := [.int x7, .int x5, .ref 0]) [.aload_n 0, .iload 5, .iload 7] (by decide +kernel) rfl <|
          Ev.cV0 (M' := M_X_packPair) (as := [.int x5, .int x7]) (rest := []) l_X_301 M_X_packPair_ok M_X_packPair_in M_X_packPair_se (by decide +kernel) (r6 c1 c2 c3) rfl rfl rfl (Nat.le_of_ble_eq_true rfl) (Nat.le_of_ble_eq_true rfl) (s_X_packPair (pr1 c1 c2 c3) (pr2 c1 c2 c3) (pr3 c1 c2 c3) (pr4 c1 c2 c3) (pr5 c1 c2 c3) <| show Ev G (d + 3) _ _ M_X_pairAt 90 [.ref 0, .int x1, .int x2, .int x3, .int x4, .int x5, .int x6, .int x7] [.int (nI (pkN (pop (sCo S1 i_5 ^^^ sCo S1 j_6)) i_5 j_6))] h R from
            Ev.ret (r := (some (.int (nI (pkN (pop (sCo S1 i_5 ^^^ sCo S1 j_6)) i_5 j_6))))) (Or.inl ⟨_, rfl, by decide +kernel, _, rfl, rfl⟩) (k2 c1 c2 c3)
          )
        ) (fun c3 =>
          Ev.go (pc' := 59) (ls' := [.ref 0, .int x1, .int x2, .int x3, .int (x4 + (1 : Int32)), .int x5, .int x6, .int (x7 + (1 : Int32))]) (st' := []) [.iinc 4 (1), .iinc 7 (1), .goto (-38)] (by decide +kernel) rfl <|
          (k3 c1 c2 c3)
        )
      )
    )
  ) (fun c1 =>
    Ev.go (pc' := 6) (ls' := [.ref 0, .int x1, .int x2, .int x3, .int x4, .int (x5 + (1 : Int32)), .int x6, .int x7]) (st' := []) [.iinc 5 (1), .goto (-97)] (by decide +kernel) rfl <|
    Ev.forget (ls' := [.ref 0, .int x1, .int x2, .int x3, .int x4, .int (x5 + (1 : Int32)), ev_unk, ev_unk]) ⟨Or.inr rfl, Or.inr rfl, Or.inr rfl, Or.inr rfl, Or.inr rfl, Or.inr rfl, Or.inl rfl, Or.inl rfl, trivial⟩ <|
    (k4 c1)
  )
theorem b_X_closestPair_0 {G : ev_G} {d k n : Nat} {h : ev_H} {R : Option Value → ev_H → Prop} {x1 : Int32}
  (k1 : Ev G (d + 3) k n M_X_closestPair 4 [.ref 0, .int x1, .int (-1 : Int32), .int (0 : Int32), ev_unk, ev_unk] [] h R)
  : Ev G (d + 3) k n M_X_closestPair 0 [.ref 0, .int x1, ev_unk, ev_unk, ev_unk, ev_unk] [] h R :=
  Ev.go (pc' := 4) (ls' := [.ref 0, .int x1, .int (-1 : Int32), .int (0 : Int32), ev_unk, ev_unk]) (st' := []) [.iconst (-1), .istore_n 2, .iconst 0, .istore_n 3] (by decide +kernel) rfl <|
  k1
theorem b_X_closestPair_4 {G : ev_G} {d k n : Nat} {h : ev_H} {R : Option Value → ev_H → Prop} {x1 : Int32} {x2 : Int32} {x3 : Int32}
  (k1 : x3 < (32 : Int32) → Ev G (d + 3) k n M_X_closestPair 15 [.ref 0, .int x1, .int x2, .int x3, .int (x3 + (1 : Int32)), ev_unk] [] h R)
  (k2 : ¬ x3 < (32 : Int32) → R (some (.int x2)) h)
  : Ev G (d + 3) k n M_X_closestPair 4 [.ref 0, .int x1, .int x2, .int x3, ev_unk, ev_unk] [] h R :=
  Ev.go (pc' := 7) (ls' := [.ref 0, .int x1, .int x2, .int x3, ev_unk, ev_unk]) (st' := [.int (32 : Int32), .int x3]) [.iload_n 3, .bipush (32)] (by decide +kernel) rfl <|
  Ev.br (i := .if_icmp .ge (70)) (P := x3 < (32 : Int32)) (t := 10) (f := 77) (r := []) (by decide +kernel) rfl (fun c1 =>
    Ev.go (pc' := 15) (ls' := [.ref 0, .int x1, .int x2, .int x3, .int (x3 + (1 : Int32)), ev_unk]) (st' := []) [.iload_n 3, .iconst 1, .iadd, .istore 4] (by decide +kernel) rfl <|
    (k1 c1)
  ) (fun c1 =>
    Ev.go (pc' := 78) (ls' := [.ref 0, .int x1, .int x2, .int x3, ev_unk, ev_unk]) (st' := [.int x2]) [.iload_n 2] (by decide +kernel) rfl <|
    Ev.ret (r := (some (.int x2))) (Or.inl ⟨_, rfl, by decide +kernel, _, rfl, rfl⟩) (k2 c1)
  )
theorem b_X_closestPair_15 {G : ev_G} {d k n : Nat} {h : ev_H} {R : Option Value → ev_H → Prop} {x1 : Int32} {x2 : Int32} {x3 : Int32} {x4 : Int32} {S1 : AS} {la2 : Int32} {fk3 : Int32} {fp4 : Int32} {i_5 : Nat} {j_6 : Nat}
  (pr1 : x4 < (32 : Int32) → ¬ (b2i (inI x1 x3)) = (0 : Int32) → ¬ (b2i (inI x1 x4)) = (0 : Int32) → XO h la2 fk3 fp4)
  (pr2 : x4 < (32 : Int32) → ¬ (b2i (inI x1 x3)) = (0 : Int32) → ¬ (b2i (inI x1 x4)) = (0 : Int32) → StR h 1 S1)
  (pr3 : x4 < (32 : Int32) → ¬ (b2i (inI x1 x3)) = (0 : Int32) → ¬ (b2i (inI x1 x4)) = (0 : Int32) → sOk S1)
  (pr4 : x4 < (32 : Int32) → ¬ (b2i (inI x1 x3)) = (0 : Int32) → ¬ (b2i (inI x1 x4)) = (0 : Int32) → x3 = nI i_5 ∧ i_5 < sN S1)
  (pr5 : x4 < (32 : Int32) → ¬ (b2i (inI x1 x3)) = (0 : Int32) → ¬ (b2i (inI x1 x4)) = (0 : Int32) → x4 = nI j_6 ∧ j_6 < sN S1)
  (r6 : x4 < (32 : Int32) → ¬ (b2i (inI x1 x3)) = (0 : Int32) → ¬ (b2i (inI x1 x4)) = (0 : Int32) → ∃ fs, hat h 0 (oC 8 fs))
  (k1 : x4 < (32 : Int32) → (b2i (inI x1 x3)) = (0 : Int32) → Ev G (d + 3) k n M_X_closestPair 15 [.ref 0, .int x1, .int x2, .int x3, .int (x4 + (1 : Int32)), ev_unk] [] h R)
  (k2 : x4 < (32 : Int32) → ¬ (b2i (inI x1 x3)) = (0 : Int32) → (b2i (inI x1 x4)) = (0 : Int32) → Ev G (d + 3) k n M_X_closestPair 15 [.ref 0, .int x1, .int x2, .int x3, .int (x4 + (1 : Int32)), ev_unk] [] h R)
  (k3 : x4 < (32 : Int32) → ¬ (b2i (inI x1 x3)) = (0 : Int32) → ¬ (b2i (inI x1 x4)) = (0 : Int32) → x2 = (-1 : Int32) → Ev G (d + 3) k n M_X_closestPair 15 [.ref 0, .int x1, .int (nI (pkN (pop (sCo S1 i_5 ^^^ sCo S1 j_6)) i_5 j_6)), .int x3, .int (x4 + (1 : Int32)), ev_unk] [] h R)
  (k4 : x4 < (32 : Int32) → ¬ (b2i (inI x1 x3)) = (0 : Int32) → ¬ (b2i (inI x1 x4)) = (0 : Int32) → ¬ x2 = (-1 : Int32) → Ev G (d + 3) k n M_X_closestPair 15 [.ref 0, .int x1, .int (if (nI (pkN (pop (sCo S1 i_5 ^^^ sCo S1 j_6)) i_5 j_6)) < x2 then (nI (pkN (pop (sCo S1 i_5 ^^^ sCo S1 j_6)) i_5 j_6)) else x2), .int x3, .int (x4 + (1 : Int32)), ev_unk] [] h R)
  (k5 : ¬ x4 < (32 : Int32) → Ev G (d + 3) k n M_X_closestPair 4 [.ref 0, .int x1, .int x2, .int (x3 + (1 : Int32)), ev_unk, ev_unk] [] h R)
  : Ev G (d + 3) k n M_X_closestPair 15 [.ref 0, .int x1, .int x2, .int x3, .int x4, ev_unk] [] h R :=
  Ev.go (pc' := 19) (ls' := [.ref 0, .int x1, .int x2, .int x3, .int x4, ev_unk]) (st' := [.int (32 : Int32), .int x4]) [.iload 4, .bipush (32)] (by decide +kernel) rfl <|
  Ev.br (i := .if_icmp .ge (52)) (P := x4 < (32 : Int32)) (t := 22) (f := 71) (r := []) (by decide +kernel) rfl (fun c1 =>
    Ev.go (pc' := 24) (ls' := [.ref 0, .int x1, .int x2, .int x3, .int x4, ev_unk]) (st' := [.int x3, .int x1]) [.iload_n 1, .iload_n 3] (by decide +kernel) rfl <|
    Ev.cS0 (M' := M_X_isIn) (as := [.int x1, .int x3]) (rest := []) l_X_238 M_X_isIn_ok M_X_isIn_st (by decide +kernel) rfl rfl (Nat.le_of_ble_eq_true rfl) (Nat.le_of_ble_eq_true rfl) (s_X_isIn <| show Ev G (d + 3) _ _ M_X_closestPair 27 [.ref 0, .int x1, .int x2, .int x3, .int x4, ev_unk] [.int (b2i (inI x1 x3))] h R from
      Ev.br (i := .ifCond .eq (38)) (P := (b2i (inI x1 x3)) = (0 : Int32)) (t := 65) (f := 30) (r := []) (by decide +kernel) rfl (fun c2 =>
        Ev.go (pc' := 15) (ls' := [.ref 0, .int x1, .int x2, .int x3, .int (x4 + (1 : Int32)), ev_unk]) (st' := []) [.iinc 4 (1), .goto (-53)] (by decide +kernel) rfl <|
        (k1 c1 c2)
      ) (fun c2 =>
        Ev.go (pc' := 33) (ls' := [.ref 0, .int x1, .int x2, .int x3, .int x4, ev_unk]) (st' := [.int x4, .int x1]) [.iload_n 1, .iload 4] (by decide +kernel) rfl <|
        Ev.cS0 (M' := M_X_isIn) (as := [.int x1, .int x4]) (rest := []) l_X_238 M_X_isIn_ok M_X_isIn_st (by decide +kernel) rfl rfl (Nat.le_of_ble_eq_true rfl) (Nat.le_of_ble_eq_true rfl) (s_X_isIn <| show Ev G (d + 3) _ _ M_X_closestPair 36 [.ref 0, .int x1, .int x2, .int x3, .int x4, ev_unk] [.int (b2i (inI x1 x4))] h R from
          Ev.br (i := .ifCond .eq (29)) (P := (b2i (inI x1 x4)) = (0 : Int32)) (t := 65) (f := 39) (r := []) (by decide +kernel) rfl (fun c3 =>
            Ev.go (pc' := 15) (ls' := [.ref 0, .int x1, .int x2, .int x3, .int (x4 + (1 : Int32)), ev_unk]) (st' := []) [.iinc 4 (1), .goto (-53)] (by decide +kernel) rfl <|
            (k2 c1 c2 c3)
          ) (fun c3 =>
            Ev.go (pc' := 43) (ls' := [.ref 0, .int x1, .int x2, .int x3, .int x4, ev_unk]) (st' := [.int x4, .int x3, .ref 0]) [.aload_n 0, .iload_n 3, .iload 4] (by decide +kernel) rfl <|
            Ev.cV0 (M' := M_X_packPair) (as := [.int x3, .int x4]) (rest := []) l_X_301 M_X_packPair_ok M_X_packPair_in M_X_packPair_se (by decide +kernel) (r6 c1 c2 c3) rfl rfl rfl (Nat.le_of_ble_eq_true rfl) (Nat.le_of_ble_eq_true rfl) (s_X_packPair (pr1 c1 c2 c3) (pr2 c1 c2 c3) (pr3 c1 c2 c3) (pr4 c1 c2 c3) (pr5 c1 c2 c3) <| show Ev G (d + 3) _ _ M_X_closestPair 46 [.ref 0, .int x1, .int x2, .int x3, .int x4, ev_unk] [.int (nI (pkN (pop (sCo S1 i_5 ^^^ sCo S1 j_6)) i_5 j_6))] h R from
              Ev.go (pc' := 50) (ls' := [.ref 0, .int x1, .int x2, .int x3, .int x4, .int (nI (pkN (pop (sCo S1 i_5 ^^^ sCo S1 j_6)) i_5 j_6))]) (st' := [.int (-1 : Int32), .int x2]) [.istore 5, .iload_n 2, .iconst (-1)] (by decide +kernel) rfl <|
              Ev.br (i := .if_icmp .ne (8)) (P := x2 = (-1 : Int32)) (t := 53) (f := 58) (r := []) (by decide +kernel) rfl (fun c4 =>
                Ev.go (pc' := 15) (ls' := [.ref 0, .int x1, .int (nI (pkN (pop (sCo S1 i_5 ^^^ sCo S1 j_6)) i_5 j_6)), .int x3, .int (x4 + (1 : Int32)), .int (nI (pkN (pop (sCo S1 i_5 ^^^ sCo S1 j_6)) i_5 j_6))]) (st' := []) [.iload 5, .goto (9), .istore_n 2, .iinc 4 (1), .goto (-53)] (by decide +kernel) rfl <|
                Ev.forget (ls' := [.ref 0, .int x1, .int (nI (pkN (pop (sCo S1 i_5 ^^^ sCo S1 j_6)) i_5 j_6)), .int x3, .int (x4 + (1 : Int32)), ev_unk]) ⟨Or.inr rfl, Or.inr rfl, Or.inr rfl, Or.inr rfl, Or.inr rfl, Or.inl rfl, trivial⟩ <|
                (k3 c1 c2 c3 c4)
              ) (fun c4 =>
                Ev.go (pc' := 61) (ls' := [.ref 0, .int x1, .int x2, .int x3, .int x4, .int (nI (pkN (pop (sCo S1 i_5 ^^^ sCo S1 j_6)) i_5 j_6))]) (st' := [.int (nI (pkN (pop (sCo S1 i_5 ^^^ sCo S1 j_6)) i_5 j_6)), .int x2]) [.iload_n 2, .iload 5] (by decide +kernel) rfl <|
                Ev.mmin lL_X_298 w_minS w_mathI w_minC (Nat.le_of_ble_eq_true rfl) (by decide +kernel) <|
                Ev.go (pc' := 15) (ls' := [.ref 0, .int x1, .int (if (nI (pkN (pop (sCo S1 i_5 ^^^ sCo S1 j_6)) i_5 j_6)) < x2 then (nI (pkN (pop (sCo S1 i_5 ^^^ sCo S1 j_6)) i_5 j_6)) else x2), .int x3, .int (x4 + (1 : Int32)), .int (nI (pkN (pop (sCo S1 i_5 ^^^ sCo S1 j_6)) i_5 j_6))]) (st' := []) [.istore_n 2, .iinc 4 (1), .goto (-53)] (by decide +kernel) rfl <|
                Ev.forget (ls' := [.ref 0, .int x1, .int (if (nI (pkN (pop (sCo S1 i_5 ^^^ sCo S1 j_6)) i_5 j_6)) < x2 then (nI (pkN (pop (sCo S1 i_5 ^^^ sCo S1 j_6)) i_5 j_6)) else x2), .int x3, .int (x4 + (1 : Int32)), ev_unk]) ⟨Or.inr rfl, Or.inr rfl, Or.inr rfl, Or.inr rfl, Or.inr rfl, Or.inl rfl, trivial⟩ <|
                (k4 c1 c2 c3 c4)
              )
            )
          )
        )
      )
    )
  ) (fun c1 =>
    Ev.go (pc' := 4) (ls' := [.ref 0, .int x1, .int x2, .int (x3 + (1 : Int32)), .int x4, ev_unk]) (st' := []) [.iinc 3 (1), .goto (-70)] (by decide +kernel) rfl <|
    Ev.forget (ls' := [.ref 0, .int x1, .int x2, .int (x3 + (1 : Int32)), ev_unk, ev_unk]) ⟨Or.inr rfl, Or.inr rfl, Or.inr rfl, Or.inr rfl, Or.inl rfl, Or.inr rfl, trivial⟩ <|
    (k5 c1)
  )
theorem b_X_clusterWith_0 {G : ev_G} {d k n : Nat} {h : ev_H} {R : Option Value → ev_H → Prop} {x1 : Int32} {x2 : Int32} {x3 : Int32}
  (k1 : Ev G (d + 3) k n M_X_clusterWith 12 [.ref 0, .int x1, .int x2, .int x3, .int ((1 : Int32) <<< (x2 &&& 31)), .int ((1 : Int32) <<< (x2 &&& 31)), .int (0 : Int32), ev_unk, ev_unk] [] h R)
  : Ev G (d + 3) k n M_X_clusterWith 0 [.ref 0, .int x1, .int x2, .int x3, ev_unk, ev_unk, ev_unk, ev_unk, ev_unk] [] h R :=
  Ev.go (pc' := 12) (ls' := [.ref 0, .int x1, .int x2, .int x3, .int ((1 : Int32) <<< (x2 &&& 31)), .int ((1 : Int32) <<< (x2 &&& 31)), .int (0 : Int32), ev_unk, ev_unk]) (st' := []) [.iconst 1, .iload_n 2, .ishl, .istore 4, .iload 4, .istore 5, .iconst 0, .istore 6] (by decide +kernel) rfl <|
  k1
theorem b_X_clusterWith_12 {G : ev_G} {d k n : Nat} {h : ev_H} {R : Option Value → ev_H → Prop} {x1 : Int32} {x2 : Int32} {x3 : Int32} {x4 : Int32} {x5 : Int32} {x6 : Int32} {f_latest_1 : Int32} {f_faultKind_2 : Int32} {f_faultPlace_3 : Int32} {f_bits_4 : Int32} {f_parts_5 : Int32} {f_size_6 : Int32} {fv7 : Value} {g8 : Nat → Int64} {j9 : Nat} {S10 : AS} {r_11 : Nat}
  (a1 : hat h 0 (oC 8 [.ref 1, .ref 5, .ref 18, .ref 81, .ref 98, .int f_latest_1, .int f_faultKind_2, .int f_faultPlace_3]))
  (a2 : hat h 1 (oC 6 [.int f_bits_4, .int f_parts_5, .ref 2, .int f_size_6, .ref 3, .ref 4, fv7]))
  (a3 : hat h 3 (aL 32 g8))
  (i4 : x6 < (32 : Int32) → ¬ x5 = (0 : Int32) → ev_ix (frI (bt x5) 32) j9 32)
  (pr5 : x6 < (32 : Int32) → ¬ x5 = (0 : Int32) → StR h 1 S10)
  (pr6 : x6 < (32 : Int32) → ¬ x5 = (0 : Int32) → sOk S10)
  (pr7 : x6 < (32 : Int32) → ¬ x5 = (0 : Int32) → x3 = nI r_11 ∧ r_11 < 2147483648)
  (k1 : x6 < (32 : Int32) → x5 = (0 : Int32) → R (some (.int x4)) h)
  (k2 : x6 < (32 : Int32) → ¬ x5 = (0 : Int32) → Ev G (d + 3) k n M_X_clusterWith 12 [.ref 0, .int x1, .int x2, .int x3, .int (x4 ||| (setI (nrP S10 (bt (x1 &&& (x4 ^^^ (-1 : Int32)))) (g8 j9) r_11))), .int ((x5 &&& (((1 : Int32) <<< ((frI (bt x5) 32) &&& 31)) ^^^ (-1 : Int32))) ||| (setI (nrP S10 (bt (x1 &&& (x4 ^^^ (-1 : Int32)))) (g8 j9) r_11))), .int (x6 + (1 : Int32)), ev_unk, ev_unk] [] h R)
  (k3 : ¬ x6 < (32 : Int32) → R (some (.int x4)) h)
  : Ev G (d + 3) k n M_X_clusterWith 12 [.ref 0, .int x1, .int x2, .int x3, .int x4, .int x5, .int x6, ev_unk, ev_unk] [] h R :=
  Ev.go (pc' := 16) (ls' := [.ref 0, .int x1, .int x2, .int x3, .int x4, .int x5, .int x6, ev_unk, ev_unk]) (st' := [.int (32 : Int32), .int x6]) [.iload 6, .bipush (32)] (by decide +kernel) rfl <|
  Ev.br (i := .if_icmp .ge (68)) (P := x6 < (32 : Int32)) (t := 19) (f := 84) (r := []) (by decide +kernel) rfl (fun c1 =>
    Ev.go (pc' := 21) (ls' := [.ref 0, .int x1, .int x2, .int x3, .int x4, .int x5, .int x6, ev_unk, ev_unk]) (st' := [.int x5]) [.iload 5] (by decide +kernel) rfl <|
    Ev.br (i := .ifCond .eq (63)) (P := x5 = (0 : Int32)) (t := 84) (f := 24) (r := []) (by decide +kernel) rfl (fun c2 =>
      Ev.go (pc' := 86) (ls' := [.ref 0, .int x1, .int x2, .int x3, .int x4, .int x5, .int x6, ev_unk, ev_unk]) (st' := [.int x4]) [.iload 4] (by decide +kernel) rfl <|
      Ev.ret (r := (some (.int x4))) (Or.inl ⟨_, rfl, by decide +kernel, _, rfl, rfl⟩) (k1 c1 c2)
    ) (fun c2 =>
      Ev.go (pc' := 26) (ls' := [.ref 0, .int x1, .int x2, .int x3, .int x4, .int x5, .int x6, ev_unk, ev_unk]) (st' := [.int x5]) [.iload 5] (by decide +kernel) rfl <|
      Ev.cS0 (M' := M_X_leastOf) (as := [.int x5]) (rest := []) l_X_257 M_X_leastOf_ok M_X_leastOf_st (by decide +kernel) rfl rfl (Nat.le_of_ble_eq_true rfl) (Nat.le_of_ble_eq_true rfl) (s_X_leastOf <| show Ev G (d + 3) _ _ M_X_clusterWith 29 [.ref 0, .int x1, .int x2, .int x3, .int x4, .int x5, .int x6, ev_unk, ev_unk] [.int (frI (bt x5) 32)] h R from
        Ev.go (pc' := 32) (ls' := [.ref 0, .int x1, .int x2, .int x3, .int x4, .int x5, .int x6, .int (frI (bt x5) 32), ev_unk]) (st' := [.ref 0]) [.istore 7, .aload_n 0] (by decide +kernel) rfl <|
        Ev.getf f_X_10 (by decide +kernel) a1 rfl <|
        Ev.go (pc' := 42) (ls' := [.ref 0, .int x1, .int x2, .int x3, .int x4, .int x5, .int x6, .int (frI (bt x5) 32), ev_unk]) (st' := [.ref 0, .int (x1 &&& (x4 ^^^ (-1 : Int32))), .ref 1]) [.iload_n 1, .iload 4, .iconst (-1), .ixor, .iand, .aload_n 0] (by decide +kernel) rfl <|
        Ev.getf f_X_10 (by decide +kernel) a1 rfl <|
        Ev.getf f_X_118 (by decide +kernel) a2 rfl <|
        Ev.go (pc' := 50) (ls' := [.ref 0, .int x1, .int x2, .int x3, .int x4, .int x5, .int x6, .int (frI (bt x5) 32), ev_unk]) (st' := [.int (frI (bt x5) 32), .ref 3, .int (x1 &&& (x4 ^^^ (-1 : Int32))), .ref 1]) [.iload 7] (by decide +kernel) rfl <|
        Ev.lald (j := j9) (by decide +kernel) a3 (i4 c1 c2) <|
        Ev.go (pc' := 52) (ls' := [.ref 0, .int x1, .int x2, .int x3, .int x4, .int x5, .int x6, .int (frI (bt x5) 32), ev_unk]) (st' := [.int x3, .long (g8 j9), .int (x1 &&& (x4 ^^^ (-1 : Int32))), .ref 1]) [.iload_n 3] (by decide +kernel) rfl <|
        Ev.cV0 (M' := M_St_within) (as := [.int (x1 &&& (x4 ^^^ (-1 : Int32))), .long (g8 j9), .int x3]) (rest := []) l_X_217 M_St_within_ok M_St_within_in M_St_within_se (by decide +kernel) ⟨_, a2⟩ rfl rfl rfl (Nat.le_of_ble_eq_true rfl) (Nat.le_of_ble_eq_true rfl) (s_St_within' (pr5 c1 c2) (pr6 c1 c2) (pr7 c1 c2) <| show Ev G (d + 3) _ _ M_X_clusterWith 55 [.ref 0, .int x1, .int x2, .int x3, .int x4, .int x5, .int x6, .int (frI (bt x5) 32), ev_unk] [.int (setI (nrP S10 (bt (x1 &&& (x4 ^^^ (-1 : Int32)))) (g8 j9) r_11))] h R from
          Ev.go (pc' := 12) (ls' := [.ref 0, .int x1, .int x2, .int x3, .int (x4 ||| (setI (nrP S10 (bt (x1 &&& (x4 ^^^ (-1 : Int32)))) (g8 j9) r_11))), .int ((x5 &&& (((1 : Int32) <<< ((frI (bt x5) 32) &&& 31)) ^^^ (-1 : Int32))) ||| (setI (nrP S10 (bt (x1 &&& (x4 ^^^ (-1 : Int32)))) (g8 j9) r_11))), .int (x6 + (1 : Int32)), .int (frI (bt x5) 32), .int (setI (nrP S10 (bt (x1 &&& (x4 ^^^ (-1 : Int32)))) (g8 j9) r_11))]) (st' := []) [.istore 8, .iload 4, .iload 8, .ior, .istore 4, .iload 5, .iconst 1, .iload 7, .ishl, .iconst (-1), .ixor, .iand, .iload 8, .ior, .istore 5, .iinc 6 (1), .goto (-69)] (by decide +kernel) rfl <|
          Ev.forget (ls' := [.ref 0, .int x1, .int x2, .int x3, .int (x4 ||| (setI (nrP S10 (bt (x1 &&& (x4 ^^^ (-1 : Int32)))) (g8 j9) r_11))), .int ((x5 &&& (((1 : Int32) <<< ((frI (bt x5) 32) &&& 31)) ^^^ (-1 : Int32))) ||| (setI (nrP S10 (bt (x1 &&& (x4 ^^^ (-1 : Int32)))) (g8 j9) r_11))), .int (x6 + (1 : Int32)), ev_unk, ev_unk]) ⟨Or.inr rfl, Or.inr rfl, Or.inr rfl, Or.inr rfl, Or.inr rfl, Or.inr rfl, Or.inr rfl, Or.inl rfl, Or.inl rfl, trivial⟩ <|
          (k2 c1 c2)
        )
      )
    )
  ) (fun c1 =>
    Ev.go (pc' := 86) (ls' := [.ref 0, .int x1, .int x2, .int x3, .int x4, .int x5, .int x6, ev_unk, ev_unk]) (st' := [.int x4]) [.iload 4] (by decide +kernel) rfl <|
    Ev.ret (r := (some (.int x4))) (Or.inl ⟨_, rfl, by decide +kernel, _, rfl, rfl⟩) (k3 c1)
  )
theorem b_X_middleOf_0 {G : ev_G} {d k n : Nat} {h : ev_H} {R : Option Value → ev_H → Prop} {x1 : Int32}
  (k1 : Ev G (d + 3) k n M_X_middleOf 7 [.ref 0, .int x1, .int (-1 : Int32), .int (0 : Int32), .int (0 : Int32), ev_unk] [] h R)
  : Ev G (d + 3) k n M_X_middleOf 0 [.ref 0, .int x1, ev_unk, ev_unk, ev_unk, ev_unk] [] h R :=
  Ev.go (pc' := 7) (ls' := [.ref 0, .int x1, .int (-1 : Int32), .int (0 : Int32), .int (0 : Int32), ev_unk]) (st' := []) [.iconst (-1), .istore_n 2, .iconst 0, .istore_n 3, .iconst 0, .istore 4] (by decide +kernel) rfl <|
  k1
theorem b_X_middleOf_7 {G : ev_G} {d k n : Nat} {h : ev_H} {R : Option Value → ev_H → Prop} {x1 : Int32} {x2 : Int32} {x3 : Int32} {x4 : Int32} {f_latest_1 : Int32} {f_faultKind_2 : Int32} {f_faultPlace_3 : Int32} {f_bits_4 : Int32} {f_parts_5 : Int32} {f_size_6 : Int32} {fv7 : Value} {g8 : Nat → Int64} {j9 : Nat} {S10 : AS}
  (a1 : hat h 0 (oC 8 [.ref 1, .ref 5, .ref 18, .ref 81, .ref 98, .int f_latest_1, .int f_faultKind_2, .int f_faultPlace_3]))
  (a2 : hat h 1 (oC 6 [.int f_bits_4, .int f_parts_5, .ref 2, .int f_size_6, .ref 3, .ref 4, fv7]))
  (a3 : hat h 3 (aL 32 g8))
  (i4 : x4 < (32 : Int32) → ¬ (b2i (inI x1 x4)) = (0 : Int32) → ev_ix x4 j9 32)
  (pr5 : x4 < (32 : Int32) → ¬ (b2i (inI x1 x4)) = (0 : Int32) → StR h 1 S10)
  (pr6 : x4 < (32 : Int32) → ¬ (b2i (inI x1 x4)) = (0 : Int32) → sOk S10)
  (k1 : x4 < (32 : Int32) → (b2i (inI x1 x4)) = (0 : Int32) → Ev G (d + 3) k n M_X_middleOf 7 [.ref 0, .int x1, .int x2, .int x3, .int (x4 + (1 : Int32)), ev_unk] [] h R)
  (k2 : x4 < (32 : Int32) → ¬ (b2i (inI x1 x4)) = (0 : Int32) → x2 = (-1 : Int32) → Ev G (d + 3) k n M_X_middleOf 7 [.ref 0, .int x1, .int x4, .int (nI (sumT (fun j => if bt x1 j then pop (sCo S10 j ^^^ (g8 j9)) else 0) (sN S10))), .int (x4 + (1 : Int32)), ev_unk] [] h R)
  (k3 : x4 < (32 : Int32) → ¬ (b2i (inI x1 x4)) = (0 : Int32) → ¬ x2 = (-1 : Int32) → (nI (sumT (fun j => if bt x1 j then pop (sCo S10 j ^^^ (g8 j9)) else 0) (sN S10))) < x3 → Ev G (d + 3) k n M_X_middleOf 7 [.ref 0, .int x1, .int x4, .int (nI (sumT (fun j => if bt x1 j then pop (sCo S10 j ^^^ (g8 j9)) else 0) (sN S10))), .int (x4 + (1 : Int32)), ev_unk] [] h R)
  (k4 : x4 < (32 : Int32) → ¬ (b2i (inI x1 x4)) = (0 : Int32) → ¬ x2 = (-1 : Int32) → ¬ (nI (sumT (fun j => if bt x1 j then pop (sCo S10 j ^^^ (g8 j9)) else 0) (sN S10))) < x3 → Ev G (d + 3) k n M_X_middleOf 7 [.ref 0, .int x1, .int x2, .int x3, .int (x4 + (1 : Int32)), ev_unk] [] h R)
  (k5 : ¬ x4 < (32 : Int32) → R (some (.int x2)) h)
  : Ev G (d + 3) k n M_X_middleOf 7 [.ref 0, .int x1, .int x2, .int x3, .int x4, ev_unk] [] h R :=
  Ev.go (pc' := 11) (ls' := [.ref 0, .int x1, .int x2, .int x3, .int x4, ev_unk]) (st' := [.int (32 : Int32), .int x4]) [.iload 4, .bipush (32)] (by decide +kernel) rfl <|
  Ev.br (i := .if_icmp .ge (55)) (P := x4 < (32 : Int32)) (t := 14) (f := 66) (r := []) (by decide +kernel) rfl (fun c1 =>
    Ev.go (pc' := 17) (ls' := [.ref 0, .int x1, .int x2, .int x3, .int x4, ev_unk]) (st' := [.int x4, .int x1]) [.iload_n 1, .iload 4] (by decide +kernel) rfl <|
    Ev.cS0 (M' := M_X_isIn) (as := [.int x1, .int x4]) (rest := []) l_X_238 M_X_isIn_ok M_X_isIn_st (by decide +kernel) rfl rfl (Nat.le_of_ble_eq_true rfl) (Nat.le_of_ble_eq_true rfl) (s_X_isIn <| show Ev G (d + 3) _ _ M_X_middleOf 20 [.ref 0, .int x1, .int x2, .int x3, .int x4, ev_unk] [.int (b2i (inI x1 x4))] h R from
      Ev.br (i := .ifCond .eq (40)) (P := (b2i (inI x1 x4)) = (0 : Int32)) (t := 60) (f := 23) (r := []) (by decide +kernel) rfl (fun c2 =>
        Ev.go (pc' := 7) (ls' := [.ref 0, .int x1, .int x2, .int x3, .int (x4 + (1 : Int32)), ev_unk]) (st' := []) [.iinc 4 (1), .goto (-56)] (by decide +kernel) rfl <|
        (k1 c1 c2)
      ) (fun c2 =>
        Ev.go (pc' := 24) (ls' := [.ref 0, .int x1, .int x2, .int x3, .int x4, ev_unk]) (st' := [.ref 0]) [.aload_n 0] (by decide +kernel) rfl <|
        Ev.getf f_X_10 (by decide +kernel) a1 rfl <|
        Ev.go (pc' := 29) (ls' := [.ref 0, .int x1, .int x2, .int x3, .int x4, ev_unk]) (st' := [.ref 0, .int x1, .ref 1]) [.iload_n 1, .aload_n 0] (by decide +kernel) rfl <|
        Ev.getf f_X_10 (by decide +kernel) a1 rfl <|
        Ev.getf f_X_118 (by decide +kernel) a2 rfl <|
        Ev.go (pc' := 37) (ls' := [.ref 0, .int x1, .int x2, .int x3, .int x4, ev_unk]) (st' := [.int x4, .ref 3, .int x1, .ref 1]) [.iload 4] (by decide +kernel) rfl <|
        Ev.lald (j := j9) (by decide +kernel) a3 (i4 c1 c2) <|
        Ev.cV0 (M' := M_St_farFromAll) (as := [.int x1, .long (g8 j9)]) (rest := []) l_X_304 M_St_farFromAll_ok M_St_farFromAll_in M_St_farFromAll_se (by decide +kernel) ⟨_, a2⟩ rfl rfl rfl (Nat.le_of_ble_eq_true rfl) (Nat.le_of_ble_eq_true rfl) (s_St_farFromAll (pr5 c1 c2) (pr6 c1 c2) <| show Ev G (d + 3) _ _ M_X_middleOf 41 [.ref 0, .int x1, .int x2, .int x3, .int x4, ev_unk] [.int (nI (sumT (fun j => if bt x1 j then pop (sCo S10 j ^^^ (g8 j9)) else 0) (sN S10)))] h R from
          Ev.go (pc' := 45) (ls' := [.ref 0, .int x1, .int x2, .int x3, .int x4, .int (nI (sumT (fun j => if bt x1 j then pop (sCo S10 j ^^^ (g8 j9)) else 0) (sN S10)))]) (st' := [.int (-1 : Int32), .int x2]) [.istore 5, .iload_n 2, .iconst (-1)] (by decide +kernel) rfl <|
          Ev.br (i := .if_icmp .eq (9)) (P := x2 = (-1 : Int32)) (t := 54) (f := 48) (r := []) (by decide +kernel) rfl (fun c3 =>
            Ev.go (pc' := 7) (ls' := [.ref 0, .int x1, .int x4, .int (nI (sumT (fun j => if bt x1 j then pop (sCo S10 j ^^^ (g8 j9)) else 0) (sN S10))), .int (x4 + (1 : Int32)), .int (nI (sumT (fun j => if bt x1 j then pop (sCo S10 j ^^^ (g8 j9)) else 0) (sN S10)))]) (st' := []) [.iload 5, .istore_n 3, .iload 4, .istore_n 2, .iinc 4 (1), .goto (-56)] (by decide +kernel) rfl <|
            Ev.forget (ls' := [.ref 0, .int x1, .int x4, .int (nI (sumT (fun j => if bt x1 j then pop (sCo S10 j ^^^ (g8 j9)) else 0) (sN S10))), .int (x4 + (1 : Int32)), ev_unk]) ⟨Or.inr rfl, Or.inr rfl, Or.inr rfl, Or.inr rfl, Or.inr rfl, Or.inl rfl, trivial⟩ <|
            (k2 c1 c2 c3)
          ) (fun c3 =>
            Ev.go (pc' := 51) (ls' := [.ref 0, .int x1, .int x2, .int x3, .int x4, .int (nI (sumT (fun j => if bt x1 j then pop (sCo S10 j ^^^ (g8 j9)) else 0) (sN S10)))]) (st' := [.int x3, .int (nI (sumT (fun j => if bt x1 j then pop (sCo S10 j ^^^ (g8 j9)) else 0) (sN S10)))]) [.iload 5, .iload_n 3] (by decide +kernel) rfl <|
            Ev.br (i := .if_icmp .ge (9)) (P := (nI (sumT (fun j => if bt x1 j then pop (sCo S10 j ^^^ (g8 j9)) else 0) (sN S10))) < x3) (t := 54) (f := 60) (r := []) (by decide +kernel) rfl (fun c4 =>
              Ev.go (pc' := 7) (ls' := [.ref 0, .int x1, .int x4, .int (nI (sumT (fun j => if bt x1 j then pop (sCo S10 j ^^^ (g8 j9)) else 0) (sN S10))), .int (x4 + (1 : Int32)), .int (nI (sumT (fun j => if bt x1 j then pop (sCo S10 j ^^^ (g8 j9)) else 0) (sN S10)))]) (st' := []) [.iload 5, .istore_n 3, .iload 4, .istore_n 2, .iinc 4 (1), .goto (-56)] (by decide +kernel) rfl <|
              Ev.forget (ls' := [.ref 0, .int x1, .int x4, .int (nI (sumT (fun j => if bt x1 j then pop (sCo S10 j ^^^ (g8 j9)) else 0) (sN S10))), .int (x4 + (1 : Int32)), ev_unk]) ⟨Or.inr rfl, Or.inr rfl, Or.inr rfl, Or.inr rfl, Or.inr rfl, Or.inl rfl, trivial⟩ <|
              (k3 c1 c2 c3 c4)
            ) (fun c4 =>
              Ev.go (pc' := 7) (ls' := [.ref 0, .int x1, .int x2, .int x3, .int (x4 + (1 : Int32)), .int (nI (sumT (fun j => if bt x1 j then pop (sCo S10 j ^^^ (g8 j9)) else 0) (sN S10)))]) (st' := []) [.iinc 4 (1), .goto (-56)] (by decide +kernel) rfl <|
              Ev.forget (ls' := [.ref 0, .int x1, .int x2, .int x3, .int (x4 + (1 : Int32)), ev_unk]) ⟨Or.inr rfl, Or.inr rfl, Or.inr rfl, Or.inr rfl, Or.inr rfl, Or.inl rfl, trivial⟩ <|
              (k4 c1 c2 c3 c4)
            )
          )
        )
      )
    )
  ) (fun c1 =>
    Ev.go (pc' := 67) (ls' := [.ref 0, .int x1, .int x2, .int x3, .int x4, ev_unk]) (st' := [.int x2]) [.iload_n 2] (by decide +kernel) rfl <|
    Ev.ret (r := (some (.int x2))) (Or.inl ⟨_, rfl, by decide +kernel, _, rfl, rfl⟩) (k5 c1)
  )
theorem b_X_costParted_0 {G : ev_G} {d k n : Nat} {h : ev_H} {R : Option Value → ev_H → Prop} {x1 : Int32} {x2 : Int32} {x3 : Int32} {f_latest_1 : Int32} {f_faultKind_2 : Int32} {f_faultPlace_3 : Int32} {f_bits_4 : Int32} {f_parts_5 : Int32} {f_size_6 : Int32} {fv7 : Value}
  (a1 : hat h 0 (oC 8 [.ref 1, .ref 5, .ref 18, .ref 81, .ref 98, .int f_latest_1, .int f_faultKind_2, .int f_faultPlace_3]))
  (a2 : hat h 1 (oC 6 [.int f_bits_4, .int f_parts_5, .ref 2, .int f_size_6, .ref 3, .ref 4, fv7]))
  (r3 : ∃ fs, hat h 81 (oC 0 fs))
  (k1 : Ev G d 0 0 M_Bu_partInTwo 0 [.ref 81, .int x2, .int (f_bits_4 - x2)] [] h (fun r h1 => Ev G (d + 1) k n M_X_costParted 20 [.ref 0, .int x1, .int x2, .int x3, .int (0 : Int32), ev_unk] (r.toList ++ []) h1 R))
  : Ev G (d + 1) k n M_X_costParted 0 [.ref 0, .int x1, .int x2, .int x3, ev_unk, ev_unk] [] h R :=
  Ev.go (pc' := 4) (ls' := [.ref 0, .int x1, .int x2, .int x3, .int (0 : Int32), ev_unk]) (st' := [.ref 0]) [.iconst 0, .istore 4, .aload_n 0] (by decide +kernel) rfl <|
  Ev.getf f_X_33 (by decide +kernel) a1 rfl <|
  Ev.go (pc' := 9) (ls' := [.ref 0, .int x1, .int x2, .int x3, .int (0 : Int32), ev_unk]) (st' := [.ref 0, .int x2, .ref 81]) [.iload_n 2, .aload_n 0] (by decide +kernel) rfl <|
  Ev.getf f_X_10 (by decide +kernel) a1 rfl <|
  Ev.getf f_X_90 (by decide +kernel) a2 rfl <|
  Ev.go (pc' := 17) (ls' := [.ref 0, .int x1, .int x2, .int x3, .int (0 : Int32), ev_unk]) (st' := [.int (f_bits_4 - x2), .int x2, .ref 81]) [.iload_n 2, .isub] (by decide +kernel) rfl <|
  Ev.cV0 (M' := M_Bu_partInTwo) (as := [.int x2, .int (f_bits_4 - x2)]) (rest := []) l_X_308 M_Bu_partInTwo_ok M_Bu_partInTwo_in M_Bu_partInTwo_se (by decide +kernel) r3 rfl rfl rfl (Nat.le_of_ble_eq_true rfl) (Nat.le_of_ble_eq_true rfl) k1
theorem b_X_costParted_20 {G : ev_G} {d k n : Nat} {h : ev_H} {R : Option Value → ev_H → Prop} {x1 : Int32} {x2 : Int32} {x3 : Int32} {x4 : Int32}
  (k1 : Ev G (d + 1) k n M_X_costParted 23 [.ref 0, .int x1, .int x2, .int x3, .int x4, .int (0 : Int32)] [] h R)
  : Ev G (d + 1) k n M_X_costParted 20 [.ref 0, .int x1, .int x2, .int x3, .int x4, ev_unk] [] h R :=
  Ev.go (pc' := 23) (ls' := [.ref 0, .int x1, .int x2, .int x3, .int x4, .int (0 : Int32)]) (st' := []) [.iconst 0, .istore 5] (by decide +kernel) rfl <|
  k1
theorem b_X_costParted_23 {G : ev_G} {d k n : Nat} {h : ev_H} {R : Option Value → ev_H → Prop} {x1 : Int32} {x2 : Int32} {x3 : Int32} {x4 : Int32} {x5 : Int32} {f_latest_1 : Int32} {f_faultKind_2 : Int32} {f_faultPlace_3 : Int32} {f_bits_4 : Int32} {f_parts_5 : Int32} {f_size_6 : Int32} {fv7 : Value} {g8 : Nat → Int64} {j9 : Nat}
  (a1 : hat h 0 (oC 8 [.ref 1, .ref 5, .ref 18, .ref 81, .ref 98, .int f_latest_1, .int f_faultKind_2, .int f_faultPlace_3]))
  (a2 : hat h 1 (oC 6 [.int f_bits_4, .int f_parts_5, .ref 2, .int f_size_6, .ref 3, .ref 4, fv7]))
  (a3 : hat h 3 (aL 32 g8))
  (i4 : x5 < (32 : Int32) → ¬ (b2i (inI x1 x5)) = (0 : Int32) → ev_ix x5 j9 32)
  (r5 : x5 < (32 : Int32) → ¬ (b2i (inI x1 x5)) = (0 : Int32) → ∃ fs, hat h 81 (oC 0 fs))
  (k1 : x5 < (32 : Int32) → (b2i (inI x1 x5)) = (0 : Int32) → Ev G (d + 1) k n M_X_costParted 23 [.ref 0, .int x1, .int x2, .int x3, .int x4, .int (x5 + (1 : Int32))] [] h R)
  (k2 : x5 < (32 : Int32) → ¬ (b2i (inI x1 x5)) = (0 : Int32) → Ev G d 0 0 M_Bu_plan 0 [.ref 81, .ref 3, .int x1, .long (g8 j9), ev_unk, .int x3] [] h (fun r h1 => Ev G (d + 1) k n M_X_costParted 67 [.ref 0, .int x1, .int x2, .int x3, .int x4, .int x5] (r.toList ++ [.int x4]) h1 R))
  (k3 : ¬ x5 < (32 : Int32) → R (some (.int x4)) h)
  : Ev G (d + 1) k n M_X_costParted 23 [.ref 0, .int x1, .int x2, .int x3, .int x4, .int x5] [] h R :=
  Ev.go (pc' := 27) (ls' := [.ref 0, .int x1, .int x2, .int x3, .int x4, .int x5]) (st' := [.int (32 : Int32), .int x5]) [.iload 5, .bipush (32)] (by decide +kernel) rfl <|
  Ev.br (i := .if_icmp .ge (49)) (P := x5 < (32 : Int32)) (t := 30) (f := 76) (r := []) (by decide +kernel) rfl (fun c1 =>
    Ev.go (pc' := 33) (ls' := [.ref 0, .int x1, .int x2, .int x3, .int x4, .int x5]) (st' := [.int x5, .int x1]) [.iload_n 1, .iload 5] (by decide +kernel) rfl <|
    Ev.cS0 (M' := M_X_isIn) (as := [.int x1, .int x5]) (rest := []) l_X_238 M_X_isIn_ok M_X_isIn_st (by decide +kernel) rfl rfl (Nat.le_of_ble_eq_true rfl) (Nat.le_of_ble_eq_true rfl) (s_X_isIn <| show Ev G (d + 1) _ _ M_X_costParted 36 [.ref 0, .int x1, .int x2, .int x3, .int x4, .int x5] [.int (b2i (inI x1 x5))] h R from
      Ev.br (i := .ifCond .eq (34)) (P := (b2i (inI x1 x5)) = (0 : Int32)) (t := 70) (f := 39) (r := []) (by decide +kernel) rfl (fun c2 =>
        Ev.go (pc' := 23) (ls' := [.ref 0, .int x1, .int x2, .int x3, .int x4, .int (x5 + (1 : Int32))]) (st' := []) [.iinc 5 (1), .goto (-50)] (by decide +kernel) rfl <|
        (k1 c1 c2)
      ) (fun c2 =>
        Ev.go (pc' := 42) (ls' := [.ref 0, .int x1, .int x2, .int x3, .int x4, .int x5]) (st' := [.ref 0, .int x4]) [.iload 4, .aload_n 0] (by decide +kernel) rfl <|
        Ev.getf f_X_33 (by decide +kernel) a1 rfl <|
        Ev.go (pc' := 46) (ls' := [.ref 0, .int x1, .int x2, .int x3, .int x4, .int x5]) (st' := [.ref 0, .ref 81, .int x4]) [.aload_n 0] (by decide +kernel) rfl <|
        Ev.getf f_X_10 (by decide +kernel) a1 rfl <|
        Ev.getf f_X_118 (by decide +kernel) a2 rfl <|
        Ev.go (pc' := 54) (ls' := [.ref 0, .int x1, .int x2, .int x3, .int x4, .int x5]) (st' := [.ref 0, .int x1, .ref 3, .ref 81, .int x4]) [.iload_n 1, .aload_n 0] (by decide +kernel) rfl <|
        Ev.getf f_X_10 (by decide +kernel) a1 rfl <|
        Ev.getf f_X_118 (by decide +kernel) a2 rfl <|
        Ev.go (pc' := 62) (ls' := [.ref 0, .int x1, .int x2, .int x3, .int x4, .int x5]) (st' := [.int x5, .ref 3, .int x1, .ref 3, .ref 81, .int x4]) [.iload 5] (by decide +kernel) rfl <|
        Ev.lald (j := j9) (by decide +kernel) a3 (i4 c1 c2) <|
        Ev.go (pc' := 64) (ls' := [.ref 0, .int x1, .int x2, .int x3, .int x4, .int x5]) (st' := [.int x3, .long (g8 j9), .int x1, .ref 3, .ref 81, .int x4]) [.iload_n 3] (by decide +kernel) rfl <|
        Ev.cV0 (M' := M_Bu_plan) (as := [.ref 3, .int x1, .long (g8 j9), .int x3]) (rest := [.int x4]) l_X_198 M_Bu_plan_ok M_Bu_plan_in M_Bu_plan_se (by decide +kernel) (r5 c1 c2) rfl rfl rfl (Nat.le_of_ble_eq_true rfl) (Nat.le_of_ble_eq_true rfl) (k2 c1 c2)
      )
    )
  ) (fun c1 =>
    Ev.go (pc' := 78) (ls' := [.ref 0, .int x1, .int x2, .int x3, .int x4, .int x5]) (st' := [.int x4]) [.iload 4] (by decide +kernel) rfl <|
    Ev.ret (r := (some (.int x4))) (Or.inl ⟨_, rfl, by decide +kernel, _, rfl, rfl⟩) (k3 c1)
  )
theorem b_X_costParted_67 {G : ev_G} {d k n : Nat} {h : ev_H} {R : Option Value → ev_H → Prop} {x1 : Int32} {x2 : Int32} {x3 : Int32} {x4 : Int32} {x5 : Int32} {y0 : Int32} {y1 : Int32}
  (k1 : Ev G (d + 1) k n M_X_costParted 23 [.ref 0, .int x1, .int x2, .int x3, .int (y0 + y1), .int (x5 + (1 : Int32))] [] h R)
  : Ev G (d + 1) k n M_X_costParted 67 [.ref 0, .int x1, .int x2, .int x3, .int x4, .int x5] [.int y1, .int y0] h R :=
  Ev.go (pc' := 23) (ls' := [.ref 0, .int x1, .int x2, .int x3, .int (y0 + y1), .int (x5 + (1 : Int32))]) (st' := []) [.iadd, .istore 4, .iinc 5 (1), .goto (-50)] (by decide +kernel) rfl <|
  k1
def nthT (q : Nat → Bool) (k : Nat) : Nat := fst (fun t => q t && decide (cnt q t = k)) 1024
theorem cnt_mono_n (q : Nat → Bool) {m n : Nat} (h : m ≤ n) : cnt q m ≤ cnt q n := by
  obtain ⟨e, rfl⟩ : ∃ e, n = m + e := ⟨n - m, by omega⟩
  rw [cnt_split]; omega
theorem cnt_skip {q : Nat → Bool} {m n : Nat} (h : m ≤ n) (hq : ∀ t, m ≤ t → t < n → q t = false) : cnt q n = cnt q m := by
  obtain ⟨e, rfl⟩ : ∃ e, n = m + e := ⟨n - m, by omega⟩
  rw [cnt_split, cnt_zero fun k hk => hq (m + k) (by omega) (by omega), Nat.add_zero]
theorem nthT_hit {q : Nat → Bool} {k t : Nat} (ht : t < 1024) (hq : q t = true) (hc : cnt q t = k) : nthT q k = t := by
  refine fst_eq ht ?_ fun j hj => ?_
  · show (q t && decide (cnt q t = k)) = true; rw [hq, decide_eq_true hc]; rfl
  · show (q j && decide (cnt q j = k)) = false
    cases e : q j
    · rfl
    · have h1 : cnt q (j + 1) = cnt q j + 1 := by show cnt q j + (if q j then 1 else 0) = _; rw [e]; rfl
      have h2 := cnt_mono_n q (m := j + 1) (n := t) (by omega)
      rw [decide_eq_false (by omega)]; rfl
theorem nthT_none {q : Nat → Bool} {k : Nat} (hc : cnt q 1024 ≤ k) : nthT q k = 1024 := by
  refine fst_none fun j hj => ?_
  show (q j && decide (cnt q j = k)) = false
  cases e : q j
  · rfl
  · have h1 : cnt q (j + 1) = cnt q j + 1 := by show cnt q j + (if q j then 1 else 0) = _; rw [e]; rfl
    have h2 := cnt_mono_n q (m := j + 1) (n := 1024) (by omega)
    rw [decide_eq_false (by omega)]; rfl
/-- two codes of a set, the first ahead of the second, not farther than r; at 32 i + j -/
def prP (S : AS) (p : Nat → Bool) (r : Nat) (t : Nat) : Bool := decide (t / 32 < t % 32) && (p (t / 32) && p (t % 32)) && decide (pop (sCo S (t / 32) ^^^ sCo S (t % 32)) ≤ r)
theorem prP_at (S : AS) (p : Nat → Bool) (r : Nat) {i j : Nat} (hj : j < 32) : prP S p r (32 * i + j) = (decide (i < j) && (p i && p j) && decide (pop (sCo S i ^^^ sCo S j) ≤ r)) := by
  unfold prP
  rw [show (32 * i + j) / 32 = i by omega, show (32 * i + j) % 32 = j by omega]
theorem bt_above {i j : Nat} (hi : i < 32) (hj : j < 32) : bt ((-2 : Int32) <<< (nI i &&& 31)) j = decide (i < j) := by
  rw [b_shl i hi _ hj]
  have : ∀ k, k < 32 → bt (-2) k = decide (0 < k) := by decide +kernel
  by_cases c : i ≤ j
  · rw [this _ (by omega), decide_eq_true c, Bool.true_and]; exact decide_eq_decide.mpr (by omega)
  · rw [decide_eq_false c, Bool.false_and, decide_eq_false (by omega)]
/-- the first with the least value -/
def omin (q : Nat → Bool) (v : Nat → Nat) : Nat → Option (Nat × Nat)
  | 0 => none
  | i + 1 => if q i then (match omin q v i with
    | none => some (i, v i)
    | some (b, l) => if v i < l then some (i, v i) else some (b, l)) else omin q v i
theorem omin_at {q : Nat → Bool} {v : Nat → Nat} : ∀ {n b l : Nat}, omin q v n = some (b, l) → b < n ∧ q b = true ∧ l = v b
  | 0, b, l, h => by cases h
  | n + 1, b, l, h => by
    have e : omin q v (n + 1) = if q n then (match omin q v n with
      | none => some (n, v n)
      | some (b, l) => if v n < l then some (n, v n) else some (b, l)) else omin q v n := rfl
    rw [e] at h
    cases hq : q n
    · rw [hq] at h
      have := omin_at (n := n) h
      exact ⟨by omega, this.2⟩
    · rw [hq] at h
      cases ho : omin q v n with
      | none => rw [ho] at h; cases h; exact ⟨by omega, hq, rfl⟩
      | some bl =>
        obtain ⟨b', l'⟩ := bl
        rw [ho] at h
        have := omin_at (n := n) ho
        simp only [if_true] at h
        by_cases c : v n < l'
        · rw [if_pos c] at h; cases h; exact ⟨by omega, hq, rfl⟩
        · rw [if_neg c] at h; cases h; exact ⟨by omega, this.2⟩
def twP (p : Nat → Bool) (t : Nat) : Bool := decide (t / 32 < t % 32) && (p (t / 32) && p (t % 32))
def twF (S : AS) (t : Nat) : Nat := pop (sCo S (t / 32) ^^^ sCo S (t % 32))
def clo (S : AS) (p : Nat → Bool) : Option (Nat × Nat) := omin (twP p) (twF S) 1024
def cloN (o : Option (Nat × Nat)) : Int32 := match o with
  | none => -1
  | some (t, f) => nI (f * 1024 + t)
/-- one turn of gathering a cluster -/
def clT (S : AS) (set : Int32) (r : Nat) (m : Int32 × Int32) : Int32 × Int32 := if m.2 = 0 then m else (m.1 ||| setI (nrP S (bt (set &&& (m.1 ^^^ (-1 : Int32)))) (sCo S (fst (bt m.2) 32)) r), (m.2 &&& (((1 : Int32) <<< (nI (fst (bt m.2) 32) &&& 31)) ^^^ (-1 : Int32))) ||| setI (nrP S (bt (set &&& (m.1 ^^^ (-1 : Int32)))) (sCo S (fst (bt m.2) 32)) r))
def clU (S : AS) (set : Int32) (r : Nat) (m : Int32 × Int32) : Nat → Int32 × Int32
  | 0 => m
  | i + 1 => clT S set r (clU S set r m i)
def cluI (S : AS) (set : Int32) (c r : Nat) : Int32 := (clU S set r ((1 : Int32) <<< (nI c &&& 31), (1 : Int32) <<< (nI c &&& 31)) 32).1
theorem clU_zero {S : AS} {set : Int32} {r : Nat} {m : Int32 × Int32} {i : Nat} (h : (clU S set r m i).2 = 0) : ∀ k, i ≤ k → clU S set r m k = clU S set r m i
  | 0, hk => by have : i = 0 := by omega
                subst this; rfl
  | k + 1, hk => by
    by_cases e : i = k + 1
    · rw [e]
    · have ih := clU_zero h k (by omega)
      show clT S set r (clU S set r m k) = _
      rw [ih]; unfold clT; rw [if_pos h]
def midS (S : AS) (p : Nat → Bool) (i : Nat) : Nat := sumT (fun j => if p j then pop (sCo S j ^^^ sCo S i) else 0) (sN S)
def mid (S : AS) (p : Nat → Bool) : Option (Nat × Nat) := omin p (midS S p) 32
def oIx (o : Option (Nat × Nat)) : Int32 := match o with
  | none => -1
  | some (b, _) => nI b
def oVl (o : Option (Nat × Nat)) : Int32 := match o with
  | none => 0
  | some (_, l) => nI l
theorem omin_step (q : Nat → Bool) (v : Nat → Nat) (n : Nat) : omin q v (n + 1) = if q n then (match omin q v n with
      | none => some (n, v n)
      | some (b, l) => if v n < l then some (n, v n) else some (b, l)) else omin q v n := rfl
section S23
variable {G : ev_G} {d : Nat} {h : ev_H} {R : Option Value → ev_H → Prop} {S : AS} {lt0 fk fp : Int32}
theorem s_X_pairAt {set rI kI : Int32} {r k : Nat} (hX : XO h lt0 fk fp) (hS : StR h 1 S) (ok : sOk S) (hs : ∀ j, bt set j = true → j < sN S) (hr : rI = nI r ∧ r < 2147483648) (hk : kI = nI k ∧ k < 2147483648) (hR : R (some (.int (if nthT (prP S (bt set) r) k < 1024 then nI (twF S (nthT (prP S (bt set) r) k) * 1024 + nthT (prP S (bt set) r) k) else -1))) h) : Ev G (d + 3) 0 0 M_X_pairAt 0 [.ref 0, .int set, .int rI, .int kI, ev_unk, ev_unk, ev_unk, ev_unk] [] h R := by
  obtain ⟨rfl, hk⟩ := hk
  have hS0 := hS
  have h48 := ok.2.2.2.2.1
  obtain ⟨brf, tgf, cof, fv, t1, t2, t3, t4, e1, e2, -⟩ := hS
  refine b_X_pairAt_0 ?_
  have L := up0 (P := fun i => cnt (prP S (bt set) r) (32 * i) ≤ k → Ev G (d + 3) 0 0 M_X_pairAt 6 [.ref 0, .int set, .int rI, .int (nI k), .int (nI (cnt (prP S (bt set) r) (32 * i))), .int (nI i), ev_unk, ev_unk] [] h R) 32 ?_ ?_
  · exact L (Nat.zero_le _)
  · intro i hi ih hle
    have yes : nI i < (32 : Int32) := nI_lt hi (by decide)
    have low : ∀ t, 32 * i ≤ t → t < 32 * i + (i + 1) → prP S (bt set) r t = false := fun t q1 q2 => by
      obtain ⟨j, rfl⟩ : ∃ j, t = 32 * i + j := ⟨t - 32 * i, by omega⟩
      rw [prP_at S _ r (by omega), decide_eq_false (by omega : ¬ i < j)]; rfl
    -- the second loop, for what is told of the others
    have M : ∀ oth : Nat → Bool, (∀ j, i < j → j < 32 → oth j = prP S (bt set) r (32 * i + j)) → Ev G (d + 3) 0 0 M_X_pairAt 59 [.ref 0, .int set, .int rI, .int (nI k), .int (nI (cnt (prP S (bt set) r) (32 * i))), .int (nI i), .int (setI oth), .int (nI (i + 1))] [] h R := by
      intro oth ho
      have L2 := up_to (P := fun j => i < j → cnt (prP S (bt set) r) (32 * i + j) ≤ k → Ev G (d + 3) 0 0 M_X_pairAt 59 [.ref 0, .int set, .int rI, .int (nI k), .int (nI (cnt (prP S (bt set) r) (32 * i + j))), .int (nI i), .int (setI oth), .int (nI j)] [] h R) (N := 32) ?_ ?_
      · have := L2 (i + 1) (by omega) (by omega)
        rw [cnt_skip (by omega) low] at this
        exact this hle
      · intro j hj ih2 hij hle2
        have yj : nI j < (32 : Int32) := nI_lt hj (by decide)
        have st : cnt (prP S (bt set) r) (32 * i + (j + 1)) = cnt (prP S (bt set) r) (32 * i + j) + if prP S (bt set) r (32 * i + j) then 1 else 0 := rfl
        have inn : prP S (bt set) r (32 * i + j) = true → i < sN S ∧ j < sN S := fun q => by
          rw [prP_at S _ r hj] at q
          simp only [Bool.and_eq_true] at q
          exact ⟨hs i q.1.2.1, hs j q.1.2.2⟩
        have tr : ¬ b2i (inI (setI oth) (nI j)) = 0 → prP S (bt set) r (32 * i + j) = true := fun q => by
          rw [inI_n hj, bt_setI, decide_eq_true hj, Bool.true_and, ho j hij hj] at q; exact b2i_n0 q
        refine b_X_pairAt_59 (S1 := S) (i_5 := i) (j_6 := j) (fun _ _ _ => hX) (fun _ _ _ => hS0) (fun _ _ _ => ok) (fun _ q _ => ⟨rfl, (inn (tr q)).1⟩) (fun _ q _ => ⟨rfl, (inn (tr q)).2⟩) (fun _ _ _ => ⟨_, hX⟩) (fun _ q => ?_) (fun _ q q2 => ?_) (fun _ q q2 => ?_) (fun q => absurd yj q)
        · rw [inI_n hj, bt_setI, decide_eq_true hj, Bool.true_and, ho j hij hj] at q
          rw [st, b2i_e0 q] at ih2
          rw [nI_1]; exact ih2 (by omega) hle2
        · have hb := cnt_le (prP S (bt set) r) (32 * i + j)
          have q2 := (nI_eq (by omega) hk).mp q2
          rw [nthT_hit (by omega) (tr q) q2, if_pos (by omega)] at hR
          have e : pkN (pop (sCo S i ^^^ sCo S j)) i j = twF S (32 * i + j) * 1024 + (32 * i + j) := by
            unfold pkN twF
            rw [show (32 * i + j) / 32 = i by omega, show (32 * i + j) % 32 = j by omega]; omega
          rw [e]; exact hR
        · have hb := cnt_le (prP S (bt set) r) (32 * i + j)
          have q2 : ¬ cnt (prP S (bt set) r) (32 * i + j) = k := fun z => q2 (by rw [z])
          rw [st, tr q] at ih2
          rw [nI_1, nI_1]; exact ih2 (by omega) (by show _ + 1 ≤ k; omega)
      · intro hij hle2
        refine b_X_pairAt_59 (S1 := S) (i_5 := 0) (j_6 := 0) (la2 := 0) (fk3 := 0) (fp4 := 0) (fun q => absurd q (by decide)) (fun q => absurd q (by decide)) (fun q => absurd q (by decide)) (fun q => absurd q (by decide)) (fun q => absurd q (by decide)) (fun q => absurd q (by decide)) (fun q => absurd q (by decide)) (fun q => absurd q (by decide)) (fun q => absurd q (by decide)) (fun _ => ?_)
        rw [nI_1]; exact ih hle2
    refine b_X_pairAt_6 (j9 := i) hX t1 t3 (fun _ _ => ixn hi (by decide)) (fun _ _ => hS0) (fun _ _ => ok) (fun _ _ => hr) (fun _ q => ?_) (fun _ q => ?_) (fun q => absurd yes q)
    · rw [inI_n hi] at q
      have q := b2i_e0 q
      rw [nI_1, setI_0]
      exact M _ fun j q1 q2 => by rw [prP_at S _ r q2, q]; simp
    · rw [inI_n hi] at q
      have q := b2i_n0 q
      rw [nI_1]
      refine M _ fun j q1 q2 => ?_
      rw [prP_at S _ r q2, q, (e2 i (hs i q)).1]
      unfold nrP
      rw [b_and, bt_above hi q2, Int64.xor_comm (sCo S j)]
      cases w : bt set j
      · simp
      · rw [decide_eq_true (hs j w)]; simp
  · intro hle
    rw [nthT_none (by exact hle), if_neg (by omega)] at hR
    exact b_X_pairAt_6 (j9 := 0) hX t1 t3 (fun q => absurd q (by decide)) (fun q => absurd q (by decide)) (fun q => absurd q (by decide)) (S10 := S) (fun _ _ => hr) (fun q => absurd q (by decide)) (fun q => absurd q (by decide)) (fun _ => hR)
theorem s_X_middleOf {set : Int32} (hX : XO h lt0 fk fp) (hS : StR h 1 S) (ok : sOk S) (hs : ∀ j, bt set j = true → j < sN S) (hR : R (some (.int (oIx (mid S (bt set))))) h) : Ev G (d + 3) 0 0 M_X_middleOf 0 [.ref 0, .int set, ev_unk, ev_unk, ev_unk, ev_unk] [] h R := by
  have hS0 := hS
  have h48 := ok.2.2.2.2.1
  obtain ⟨brf, tgf, cof, fv, t1, t2, t3, t4, e1, e2, -⟩ := hS
  have bd : ∀ i, midS S (bt set) i ≤ 32 * 64 := fun i => by
    have := sumT_le (f := fun j => if bt set j then pop (sCo S j ^^^ sCo S i) else 0) (c := 64) (n := sN S) fun k _ => by
      show (if bt set k then pop (sCo S k ^^^ sCo S i) else 0) ≤ 64
      have := pop_le (sCo S k ^^^ sCo S i)
      split <;> omega
    exact Nat.le_trans this (Nat.mul_le_mul_right 64 h48)
  refine b_X_middleOf_0 ?_
  have L := up0 (P := fun i => Ev G (d + 3) 0 0 M_X_middleOf 7 [.ref 0, .int set, .int (oIx (omin (bt set) (midS S (bt set)) i)), .int (oVl (omin (bt set) (midS S (bt set)) i)), .int (nI i), ev_unk] [] h R) 32 ?_ ?_
  · exact L
  · intro i hi ih
    have yes : nI i < (32 : Int32) := nI_lt hi (by decide)
    have st := omin_step (bt set) (midS S (bt set)) i
    refine b_X_middleOf_7 (j9 := i) (S10 := S) hX t1 t3 (fun _ _ => ixn hi (by decide)) (fun _ _ => hS0) (fun _ _ => ok) (fun _ q => ?_) (fun _ q q2 => ?_) (fun _ q q2 q3 => ?_) (fun _ q q2 q3 => ?_) (fun q => absurd yes q)
    · rw [inI_n hi] at q
      rw [st, b2i_e0 q] at ih
      rw [nI_1]; exact ih
    · rw [inI_n hi] at q
      have q := b2i_n0 q
      rw [(e2 i (hs i q)).1, nI_1]
      rw [st, q] at ih
      cases ho : omin (bt set) (midS S (bt set)) i with
      | none => rw [ho] at ih; exact ih
      | some bl =>
        obtain ⟨b, l⟩ := bl
        rw [ho] at q2
        have hb := omin_at ho
        exact absurd q2 (fun z => by
          have z : nI b = -1 := z
          have z2 := congrArg Int32.toInt z
          rw [nI_toInt (by omega)] at z2
          have : ((-1 : Int32)).toInt = -1 := rfl
          omega)
    · rw [inI_n hi] at q
      have q := b2i_n0 q
      rw [(e2 i (hs i q)).1] at q3 ⊢
      rw [nI_1]
      rw [st, q] at ih
      cases ho : omin (bt set) (midS S (bt set)) i with
      | none => rw [ho] at ih; exact ih
      | some bl =>
        obtain ⟨b, l⟩ := bl
        rw [ho] at ih q3
        have hb := omin_at ho
        have b1 := bd i
        have b2 := bd b
        have q3 : midS S (bt set) i < l := (nI_ltI (a := midS S (bt set) i) (by omega) (by omega)).mp q3
        simp only [if_true, if_pos q3] at ih
        exact ih
    · rw [inI_n hi] at q
      have q := b2i_n0 q
      rw [(e2 i (hs i q)).1] at q3
      rw [nI_1]
      rw [st, q] at ih
      cases ho : omin (bt set) (midS S (bt set)) i with
      | none => rw [ho] at q2; exact absurd rfl q2
      | some bl =>
        obtain ⟨b, l⟩ := bl
        rw [ho] at ih q3
        have hb := omin_at ho
        have b1 := bd i
        have b2 := bd b
        have q3 : ¬ midS S (bt set) i < l := fun z => q3 (nI_lt (a := midS S (bt set) i) z (by omega))
        simp only [if_true, if_neg q3] at ih
        exact ih
  · exact b_X_middleOf_7 (j9 := 0) (S10 := S) hX t1 t3 (fun q => absurd q (by decide)) (fun q => absurd q (by decide)) (fun q => absurd q (by decide)) (fun q => absurd q (by decide)) (fun q => absurd q (by decide)) (fun q => absurd q (by decide)) (fun q => absurd q (by decide)) (fun _ => hR)
theorem bt_lt32 {x : Int32} {j : Nat} (h : bt x j = true) : j < 32 := by
  rcases Nat.lt_or_ge j 32 with z | z
  · exact z
  · rw [b_big z] at h; cases h
theorem fst_some {x : Int32} (hx : ¬ x = 0) : fst (bt x) 32 < 32 := by
  rcases Nat.lt_or_ge (fst (bt x) 32) 32 with z | z
  · exact z
  · refine absurd (b_ext fun i hi => ?_) hx
    rw [fst_no (bt x) 32 i (by omega), b_0]
theorem clU_in {set : Int32} {c r : Nat} (hc : c < sN S) (h32 : sN S ≤ 32) : ∀ i j, bt (clU S set r ((1 : Int32) <<< (nI c &&& 31), (1 : Int32) <<< (nI c &&& 31)) i).2 j = true → j < sN S
  | 0, j, q => by
    have q : bt ((1 : Int32) <<< (nI c &&& 31)) j = true := q
    rw [setI_one (by omega), bt_setI] at q
    simp only [Bool.and_eq_true, decide_eq_true_eq] at q
    omega
  | i + 1, j, q => by
    have ih := clU_in (set := set) (r := r) hc h32 i j
    have q : bt (clT S set r (clU S set r ((1 : Int32) <<< (nI c &&& 31), (1 : Int32) <<< (nI c &&& 31)) i)).2 j = true := q
    unfold clT at q
    split at q
    · exact ih q
    · have q : bt (_ ||| _) j = true := q
      rw [b_or, b_and, bt_setI] at q
      unfold nrP at q
      simp only [Bool.or_eq_true, Bool.and_eq_true, decide_eq_true_eq] at q
      rcases q with q | q
      · exact ih q.1
      · exact q.2.1.1
theorem s_X_clusterWith {set rI cI : Int32} {r c : Nat} (hX : XO h lt0 fk fp) (hS : StR h 1 S) (ok : sOk S) (hc : cI = nI c ∧ c < sN S) (hr : rI = nI r ∧ r < 2147483648) (hR : R (some (.int (cluI S set c r))) h) : Ev G (d + 3) 0 0 M_X_clusterWith 0 [.ref 0, .int set, .int cI, .int rI, ev_unk, ev_unk, ev_unk, ev_unk, ev_unk] [] h R := by
  obtain ⟨rfl, hc⟩ := hc
  have hS0 := hS
  have h48 := ok.2.2.2.2.1
  obtain ⟨brf, tgf, cof, fv, t1, t2, t3, t4, e1, e2, -⟩ := hS
  refine b_X_clusterWith_0 ?_
  have hin := clU_in (set := set) (r := r) hc h48
  have hz := fun i (q : (clU S set r ((1 : Int32) <<< (nI c &&& 31), (1 : Int32) <<< (nI c &&& 31)) i).2 = 0) (hi : i ≤ 32) => clU_zero q 32 hi
  unfold cluI at hR
  have L := up0 (P := fun i => Ev G (d + 3) 0 0 M_X_clusterWith 12 [.ref 0, .int set, .int (nI c), .int rI, .int (clU S set r ((1 : Int32) <<< (nI c &&& 31), (1 : Int32) <<< (nI c &&& 31)) i).1, .int (clU S set r ((1 : Int32) <<< (nI c &&& 31), (1 : Int32) <<< (nI c &&& 31)) i).2, .int (nI i), ev_unk, ev_unk] [] h R) 32 ?_ ?_
  · exact L
  · intro i hi ih
    have yes : nI i < (32 : Int32) := nI_lt hi (by decide)
    have st : clU S set r ((1 : Int32) <<< (nI c &&& 31), (1 : Int32) <<< (nI c &&& 31)) (i + 1) = clT S set r (clU S set r ((1 : Int32) <<< (nI c &&& 31), (1 : Int32) <<< (nI c &&& 31)) i) := rfl
    have hini := hin i
    have hzi := fun q => hz i q (by omega)
    rw [st] at ih
    revert ih hini hzi
    generalize clU S set r ((1 : Int32) <<< (nI c &&& 31), (1 : Int32) <<< (nI c &&& 31)) i = m
    intro ih hini hzi
    refine b_X_clusterWith_12 (j9 := fst (bt m.2) 32) (S10 := S) (r_11 := r) hX t1 t3 (fun _ q => ?_) (fun _ _ => hS0) (fun _ _ => ok) (fun _ _ => hr) (fun _ q => ?_) (fun _ q => ?_) (fun q => absurd yes q)
    · have := fst_some q
      unfold frI; rw [if_pos this]; exact ixn this (by decide)
    · rw [hzi q] at hR; exact hR
    · have hf := fst_some q
      have hb := hini _ (fst_yes (bt m.2) 32 hf)
      rw [nI_1, (e2 _ hb).1]
      unfold clT at ih
      rw [if_neg q] at ih
      have ef : frI (bt m.2) 32 = nI (fst (bt m.2) 32) := by unfold frI; rw [if_pos hf]
      rw [ef]; exact ih
  · exact b_X_clusterWith_12 (j9 := 0) (S10 := S) (r_11 := r) hX t1 t3 (fun q => absurd q (by decide)) (fun q => absurd q (by decide)) (fun q => absurd q (by decide)) (fun q => absurd q (by decide)) (fun q => absurd q (by decide)) (fun q => absurd q (by decide)) (fun _ => hR)
theorem omin_skip {q : Nat → Bool} {v : Nat → Nat} {m : Nat} : ∀ {n : Nat}, m ≤ n → (∀ t, m ≤ t → t < n → q t = false) → omin q v n = omin q v m
  | 0, h, _ => by have : m = 0 := by omega
                  subst this; rfl
  | n + 1, h, hq => by
    by_cases e : m = n + 1
    · rw [e]
    · rw [omin_step, hq n (by omega) (by omega)]
      exact omin_skip (by omega) fun t a b => hq t a (by omega)
theorem s_X_closestPair {set : Int32} (hX : XO h lt0 fk fp) (hS : StR h 1 S) (ok : sOk S) (hs : ∀ j, bt set j = true → j < sN S) (hR : R (some (.int (cloN (clo S (bt set))))) h) : Ev G (d + 3) 0 0 M_X_closestPair 0 [.ref 0, .int set, ev_unk, ev_unk, ev_unk, ev_unk] [] h R := by
  have hS0 := hS
  have bd : ∀ t, twF S t ≤ 64 := fun t => pop_le _
  refine b_X_closestPair_0 ?_
  have L := up0 (P := fun i => Ev G (d + 3) 0 0 M_X_closestPair 4 [.ref 0, .int set, .int (cloN (omin (twP (bt set)) (twF S) (32 * i))), .int (nI i), ev_unk, ev_unk] [] h R) 32 ?_ ?_
  · exact L
  · intro i hi ih
    have yes : nI i < (32 : Int32) := nI_lt hi (by decide)
    refine b_X_closestPair_4 (fun _ => ?_) (fun q => absurd yes q)
    have tw : ∀ j, j < 32 → twP (bt set) (32 * i + j) = (decide (i < j) && (bt set i && bt set j)) := fun j hj => by
      unfold twP
      rw [show (32 * i + j) / 32 = i by omega, show (32 * i + j) % 32 = j by omega]
    have low : ∀ t, 32 * i ≤ t → t < 32 * i + (i + 1) → twP (bt set) t = false := fun t q1 q2 => by
      obtain ⟨j, rfl⟩ : ∃ j, t = 32 * i + j := ⟨t - 32 * i, by omega⟩
      rw [tw _ (by omega), decide_eq_false (by omega : ¬ i < j)]; rfl
    have L2 := up_to (P := fun j => i < j → Ev G (d + 3) 0 0 M_X_closestPair 15 [.ref 0, .int set, .int (cloN (omin (twP (bt set)) (twF S) (32 * i + j))), .int (nI i), .int (nI j), ev_unk] [] h R) (N := 32) ?_ ?_
    · have := L2 (i + 1) (by omega) (by omega)
      rw [omin_skip (by omega) low] at this
      rw [nI_1]; exact this
    · intro j hj ih2 hij
      have yj : nI j < (32 : Int32) := nI_lt hj (by decide)
      have st := omin_step (twP (bt set)) (twF S) (32 * i + j)
      have e : pkN (pop (sCo S i ^^^ sCo S j)) i j = twF S (32 * i + j) * 1024 + (32 * i + j) := by
        unfold pkN twF
        rw [show (32 * i + j) / 32 = i by omega, show (32 * i + j) % 32 = j by omega]; omega
      have t1 : ¬ b2i (inI set (nI i)) = 0 → bt set i = true := fun q => by rw [inI_n hi] at q; exact b2i_n0 q
      have t2 : ¬ b2i (inI set (nI j)) = 0 → bt set j = true := fun q => by rw [inI_n hj] at q; exact b2i_n0 q
      have b1 := bd (32 * i + j)
      refine b_X_closestPair_15 (S1 := S) (i_5 := i) (j_6 := j) (fun _ _ _ => hX) (fun _ _ _ => hS0) (fun _ _ _ => ok) (fun _ q _ => ⟨rfl, hs i (t1 q)⟩) (fun _ _ q => ⟨rfl, hs j (t2 q)⟩) (fun _ _ _ => ⟨_, hX⟩) (fun _ q => ?_) (fun _ q q2 => ?_) (fun _ q q2 q3 => ?_) (fun _ q q2 q3 => ?_) (fun q => absurd yj q)
      · rw [inI_n hi] at q
        rw [tw j hj, b2i_e0 q] at st
        simp only [Bool.false_and, Bool.and_false, Bool.false_eq_true, if_false] at st
        rw [nI_1, ← st]; exact ih2 (by omega)
      · rw [inI_n hj] at q2
        rw [tw j hj, b2i_e0 q2] at st
        simp only [Bool.and_false, Bool.false_eq_true, if_false] at st
        rw [nI_1, ← st]; exact ih2 (by omega)
      · rw [tw j hj, t1 q, t2 q2, decide_eq_true hij] at st
        rw [nI_1, e]
        cases ho : omin (twP (bt set)) (twF S) (32 * i + j) with
        | none =>
          rw [ho] at st
          have ih2 := ih2 (by omega)
          rw [show 32 * i + (j + 1) = 32 * i + j + 1 from rfl, st] at ih2
          exact ih2
        | some bl =>
          obtain ⟨b, l⟩ := bl
          rw [ho] at q3
          have hb := omin_at ho
          have b2 := bd b
          refine absurd q3 (fun z => ?_)
          have z : nI (l * 1024 + b) = -1 := z
          have z2 := congrArg Int32.toInt z
          rw [nI_toInt (by omega)] at z2
          have : ((-1 : Int32)).toInt = -1 := rfl
          omega
      · rw [tw j hj, t1 q, t2 q2, decide_eq_true hij] at st
        rw [nI_1, e]
        have ih2 := ih2 (by omega)
        rw [show 32 * i + (j + 1) = 32 * i + j + 1 from rfl, st] at ih2
        cases ho : omin (twP (bt set)) (twF S) (32 * i + j) with
        | none => rw [ho] at q3; exact absurd rfl q3
        | some bl =>
          obtain ⟨b, l⟩ := bl
          rw [ho] at ih2
          have hb := omin_at ho
          have b2 := bd b
          have em : (if nI (twF S (32 * i + j) * 1024 + (32 * i + j)) < cloN (some (b, l)) then nI (twF S (32 * i + j) * 1024 + (32 * i + j)) else cloN (some (b, l))) = cloN (if twF S (32 * i + j) < l then some (32 * i + j, twF S (32 * i + j)) else some (b, l)) := by
            by_cases c : twF S (32 * i + j) < l
            · rw [if_pos c]
              exact if_pos (nI_lt (show twF S (32 * i + j) * 1024 + (32 * i + j) < l * 1024 + b by omega) (by omega))
            · rw [if_neg c]
              exact if_neg (nI_nlt (show l * 1024 + b ≤ twF S (32 * i + j) * 1024 + (32 * i + j) by omega) (by omega))
          rw [em]
          simpa using ih2
    · intro hij
      refine b_X_closestPair_15 (S1 := S) (i_5 := 0) (j_6 := 0) (la2 := 0) (fk3 := 0) (fp4 := 0) (fun q => absurd q (by decide)) (fun q => absurd q (by decide)) (fun q => absurd q (by decide)) (fun q => absurd q (by decide)) (fun q => absurd q (by decide)) (fun q => absurd q (by decide)) (fun q => absurd q (by decide)) (fun q => absurd q (by decide)) (fun q => absurd q (by decide)) (fun q => absurd q (by decide)) (fun _ => ?_)
      rw [nI_1]; exact ih
  · exact b_X_closestPair_4 (fun q => absurd q (by decide)) (fun _ => hR)
def BuX (h : ev_H) : Prop := ∃ P W c kc r lo, BuP h P W c kc r lo
theorem cstN_congr {p : Nat → Bool} {co co' : Nat → Int64} (hp : ∀ j, p j = true → co j = co' j) (x : Int64) (W : Nat → Nat) : cstN p co x W = cstN p co' x W := by
  funext i s
  refine cnt_congr fun k _ => ?_
  cases q : p k
  · rfl
  · rw [hp k q]
theorem s_X_plan {set rI : Int32} {x : Int64} {r P : Nat} {W : Nat → Nat} {kc r0 lo : Nat} {c0 : Nat → Nat → Nat} (B : BuP h P W c0 kc r0 lo) (hS : StR h 1 S) (hs : ∀ j, bt set j = true → j < sN S) (hW : sumT W P ≤ 48) (hr : rI = nI r ∧ r ≤ 48) (hR : ∀ h', Kp h h' 84 98 → BuP h' P W (cstN (bt set) (sCo S) x W) P r 1 → BuC h' P (bShr (cstN (bt set) (sCo S) x W) W P r) P → R (some (.int (nI (bLp (cstN (bt set) (sCo S) x W) W P 0 (r + 1))))) h') : Ev G (d + 3) 0 0 M_Bu_plan 0 [.ref 81, .ref 3, .int set, .long x, ev_unk, .int rI] [] h R := by
  obtain ⟨brf, tgf, cof, fv, t1, t2, t3, t4, e1, e2, -⟩ := hS
  exact s_Bu_plan B (cstN_congr (fun j q => ((e2 j (hs j q)).1).symm) x W) hW t3 (by omega) hr hR
def ptN (S : AS) (p : Nat → Bool) (l r n : Nat) : Nat := sumT (fun i => if p i then bLp (cstN p (sCo S) (sCo S i) (twoW l (sB S - l))) (twoW l (sB S - l)) 2 0 (r + 1) else 0) n
theorem s_X_costParted {set rI lI : Int32} {r l : Nat} (hX : XO h lt0 fk fp) (hS : StR h 1 S) (ok : sOk S) (hB : BuX h) (hs : ∀ j, bt set j = true → j < sN S) (hl : lI = nI l ∧ l ≤ 24 ∧ l ≤ sB S ∧ sB S - l ≤ 24) (hr : rI = nI r ∧ r ≤ 48) (hR : ∀ h', Kp h h' 81 98 → BuX h' → R (some (.int (nI (ptN S (bt set) l r 32)))) h') : Ev G (d + 4) 0 0 M_X_costParted 0 [.ref 0, .int set, .int lI, .int rI, ev_unk, ev_unk] [] h R := by
  obtain ⟨rfl, l1, l2, l3⟩ := hl
  have hS0 := hS
  have h48 := ok.2.1
  obtain ⟨brf, tgf, cof, fv, t1, t2, t3, t4, e1, e2, -⟩ := hS
  obtain ⟨P0, W0, c0, kc0, r0, lo0, B0⟩ := hB
  refine b_X_costParted_0 hX t1 B0.obj ?_
  rw [nI_sub l2]
  refine s_Bu_partInTwo B0 ⟨rfl, l1⟩ ⟨rfl, l3⟩ fun h1 K1 B1 => b_X_costParted_20 ?_
  have L := up0 (P := fun i => ∀ h', Kp h h' 81 98 → (∃ c kc r lo, BuP h' 2 (twoW l (sB S - l)) c kc r lo) → Ev G (d + 4) 0 0 M_X_costParted 23 [.ref 0, .int set, .int (nI l), .int rI, .int (nI (ptN S (bt set) l r i)), .int (nI i)] [] h' R) 32 ?_ ?_
  · exact L h1 (K1.wide (by omega) (by omega)) ⟨_, _, _, _, B1 (fun _ _ => 0) 0⟩
  · intro i hi ih h' K B
    have yes : nI i < (32 : Int32) := nI_lt hi (by decide)
    obtain ⟨c, kc, rr, lo, B⟩ := B
    have st : ptN S (bt set) l r (i + 1) = ptN S (bt set) l r i + if bt set i then bLp (cstN (bt set) (sCo S) (sCo S i) (twoW l (sB S - l))) (twoW l (sB S - l)) 2 0 (r + 1) else 0 := rfl
    refine b_X_costParted_23 (j9 := i) (K.hat hX (by omega)) (K.hat t1 (by omega)) (K.hat t3 (by omega)) (fun _ _ => ixn hi (by decide)) (fun _ _ => B.obj) (fun _ q => ?_) (fun _ q => ?_) (fun q => absurd yes q)
    · rw [inI_n hi] at q
      rw [st, b2i_e0 q] at ih
      rw [nI_1]; exact ih h' K ⟨c, kc, rr, lo, B⟩
    · rw [inI_n hi] at q
      have q := b2i_n0 q
      rw [(e2 i (hs i q)).1]
      have hW : sumT (twoW l (sB S - l)) 2 ≤ 48 := by show 0 + l + (sB S - l) ≤ 48; omega
      refine s_X_plan B (hS0.kp K (by omega) (by omega)) hs hW hr fun h2 K2 B2 _ => b_X_costParted_67 ?_
      rw [st, if_pos q] at ih
      rw [nI_add, nI_1]
      exact ih h2 (K.trans (K2.wide (by omega) (by omega))) ⟨_, _, _, _, B2⟩
  · intro h' K B
    obtain ⟨c, kc, rr, lo, B⟩ := B
    exact b_X_costParted_23 (j9 := 0) (K.hat hX (by omega)) (K.hat t1 (by omega)) (K.hat t3 (by omega)) (fun q => absurd q (by decide)) (fun q => absurd q (by decide)) (fun q => absurd q (by decide)) (fun q => absurd q (by decide)) (fun _ => hR h' K ⟨_, _, _, _, _, _, B⟩)
end S23
end
section
/-! THE CALLS -/
theorem b_X_status_0 {G : ev_G} {d k n : Nat} {h : ev_H} {R : Option Value → ev_H → Prop} {f_latest_1 : Int32} {f_faultKind_2 : Int32} {f_faultPlace_3 : Int32}
  (a1 : hat h 0 (oC 8 [.ref 1, .ref 5, .ref 18, .ref 81, .ref 98, .int f_latest_1, .int f_faultKind_2, .int f_faultPlace_3]))
  (k1 : R (some (.int f_latest_1)) h)
  : Ev G d k n M_X_status 0 [.ref 0] [] h R :=
  Ev.go (pc' := 1) (ls' := [.ref 0]) (st' := [.ref 0]) [.aload_n 0] (by decide +kernel) rfl <|
  Ev.getf f_X_44 (by decide +kernel) a1 rfl <|
  Ev.ret (r := (some (.int f_latest_1))) (Or.inl ⟨_, rfl, by decide +kernel, _, rfl, rfl⟩) k1
theorem b_X_feed_0 {G : ev_G} {d k n : Nat} {h : ev_H} {R : Option Value → ev_H → Prop} {x1 : Int32} {x2 : Int32} {x3 : Int32} {x4 : Int32} {x5 : Int32} {f_latest_1 : Int32} {f_faultKind_2 : Int32} {f_faultPlace_3 : Int32} {f_length_4 : Int32} {f_kind_5 : Int32} {f_start_6 : Int32} {f_end_7 : Int32} {f_size_8 : Int32}
  (a1 : hat h 0 (oC 8 [.ref 1, .ref 5, .ref 18, .ref 81, .ref 98, .int f_latest_1, .int f_faultKind_2, .int f_faultPlace_3]))
  (a2 : hat h 5 (oC 4 [.ref 6, .ref 12, .ref 14, .ref 13, .int f_length_4, .int f_kind_5, .int f_start_6, .int f_end_7]))
  (a3 : hat h 12 (oC 7 [.ref 13, .int f_size_8]))
  (k1 : (900 : Int32) < (f_size_8 + (20 : Int32)) → R (some (.int (-1 : Int32))) h)
  (k2 : ¬ (900 : Int32) < (f_size_8 + (20 : Int32)) → Ev G d 0 0 M_Ta_put 0 [.ref 12, .int x1, ev_unk] [] h (fun r h1 => Ev G (d + 1) k n M_X_feed 31 [.ref 0, .int x1, .int x2, .int x3, .int x4, .int x5, .ref 12] (r.toList ++ []) h1 R))
  : Ev G (d + 1) k n M_X_feed 0 [.ref 0, .int x1, .int x2, .int x3, .int x4, .int x5, ev_unk] [] h R :=
  Ev.go (pc' := 1) (ls' := [.ref 0, .int x1, .int x2, .int x3, .int x4, .int x5, ev_unk]) (st' := [.ref 0]) [.aload_n 0] (by decide +kernel) rfl <|
  Ev.getf f_X_19 (by decide +kernel) a1 rfl <|
  Ev.getf f_X_54 (by decide +kernel) a2 rfl <|
  Ev.go (pc' := 11) (ls' := [.ref 0, .int x1, .int x2, .int x3, .int x4, .int x5, .ref 12]) (st' := [.ref 12]) [.astore 6, .aload 6] (by decide +kernel) rfl <|
  Ev.getf f_X_58 (by decide +kernel) a3 rfl <|
  Ev.go (pc' := 20) (ls' := [.ref 0, .int x1, .int x2, .int x3, .int x4, .int x5, .ref 12]) (st' := [.int (900 : Int32), .int (f_size_8 + (20 : Int32))]) [.bipush (20), .iadd, .sipush (900)] (by decide +kernel) rfl <|
  Ev.br (i := .if_icmp .le (5)) (P := (900 : Int32) < (f_size_8 + (20 : Int32))) (t := 23) (f := 25) (r := []) (by decide +kernel) rfl (fun c1 =>
    Ev.go (pc' := 24) (ls' := [.ref 0, .int x1, .int x2, .int x3, .int x4, .int x5, .ref 12]) (st' := [.int (-1 : Int32)]) [.iconst (-1)] (by decide +kernel) rfl <|
    Ev.ret (r := (some (.int (-1 : Int32)))) (Or.inl ⟨_, rfl, by decide +kernel, _, rfl, rfl⟩) (k1 c1)
  ) (fun c1 =>
    Ev.go (pc' := 28) (ls' := [.ref 0, .int x1, .int x2, .int x3, .int x4, .int x5, .ref 12]) (st' := [.int x1, .ref 12]) [.aload 6, .iload_n 1] (by decide +kernel) rfl <|
    Ev.cV0 (M' := M_Ta_put) (as := [.int x1]) (rest := []) l_X_63 M_Ta_put_ok M_Ta_put_in M_Ta_put_se (by decide +kernel) ⟨_, a3⟩ rfl rfl rfl (Nat.le_of_ble_eq_true rfl) (Nat.le_of_ble_eq_true rfl) (k2 c1)
  )
theorem b_X_feed_31 {G : ev_G} {d k n : Nat} {h : ev_H} {R : Option Value → ev_H → Prop} {x1 : Int32} {x2 : Int32} {x3 : Int32} {x4 : Int32} {x5 : Int32}
  (r1 : ∃ fs, hat h 12 (oC 7 fs))
  (k1 : Ev G d 0 0 M_Ta_put 0 [.ref 12, .int x2, ev_unk] [] h (fun r h1 => Ev G (d + 1) k n M_X_feed 37 [.ref 0, .int x1, .int x2, .int x3, .int x4, .int x5, .ref 12] (r.toList ++ []) h1 R))
  : Ev G (d + 1) k n M_X_feed 31 [.ref 0, .int x1, .int x2, .int x3, .int x4, .int x5, .ref 12] [] h R :=
  Ev.go (pc' := 34) (ls' := [.ref 0, .int x1, .int x2, .int x3, .int x4, .int x5, .ref 12]) (st' := [.int x2, .ref 12]) [.aload 6, .iload_n 2] (by decide +kernel) rfl <|
  Ev.cV0 (M' := M_Ta_put) (as := [.int x2]) (rest := []) l_X_63 M_Ta_put_ok M_Ta_put_in M_Ta_put_se (by decide +kernel) r1 rfl rfl rfl (Nat.le_of_ble_eq_true rfl) (Nat.le_of_ble_eq_true rfl) k1
theorem b_X_feed_37 {G : ev_G} {d k n : Nat} {h : ev_H} {R : Option Value → ev_H → Prop} {x1 : Int32} {x2 : Int32} {x3 : Int32} {x4 : Int32} {x5 : Int32}
  (r1 : ∃ fs, hat h 12 (oC 7 fs))
  (k1 : Ev G d 0 0 M_Ta_put 0 [.ref 12, .int x3, ev_unk] [] h (fun r h1 => Ev G (d + 1) k n M_X_feed 43 [.ref 0, .int x1, .int x2, .int x3, .int x4, .int x5, .ref 12] (r.toList ++ []) h1 R))
  : Ev G (d + 1) k n M_X_feed 37 [.ref 0, .int x1, .int x2, .int x3, .int x4, .int x5, .ref 12] [] h R :=
  Ev.go (pc' := 40) (ls' := [.ref 0, .int x1, .int x2, .int x3, .int x4, .int x5, .ref 12]) (st' := [.int x3, .ref 12]) [.aload 6, .iload_n 3] (by decide +kernel) rfl <|
  Ev.cV0 (M' := M_Ta_put) (as := [.int x3]) (rest := []) l_X_63 M_Ta_put_ok M_Ta_put_in M_Ta_put_se (by decide +kernel) r1 rfl rfl rfl (Nat.le_of_ble_eq_true rfl) (Nat.le_of_ble_eq_true rfl) k1
theorem b_X_feed_43 {G : ev_G} {d k n : Nat} {h : ev_H} {R : Option Value → ev_H → Prop} {x1 : Int32} {x2 : Int32} {x3 : Int32} {x4 : Int32} {x5 : Int32}
  (r1 : ∃ fs, hat h 12 (oC 7 fs))
  (k1 : Ev G d 0 0 M_Ta_put 0 [.ref 12, .int x4, ev_unk] [] h (fun r h1 => Ev G (d + 1) k n M_X_feed 50 [.ref 0, .int x1, .int x2, .int x3, .int x4, .int x5, .ref 12] (r.toList ++ []) h1 R))
  : Ev G (d + 1) k n M_X_feed 43 [.ref 0, .int x1, .int x2, .int x3, .int x4, .int x5, .ref 12] [] h R :=
  Ev.go (pc' := 47) (ls' := [.ref 0, .int x1, .int x2, .int x3, .int x4, .int x5, .ref 12]) (st' := [.int x4, .ref 12]) [.aload 6, .iload 4] (by decide +kernel) rfl <|
  Ev.cV0 (M' := M_Ta_put) (as := [.int x4]) (rest := []) l_X_63 M_Ta_put_ok M_Ta_put_in M_Ta_put_se (by decide +kernel) r1 rfl rfl rfl (Nat.le_of_ble_eq_true rfl) (Nat.le_of_ble_eq_true rfl) k1
theorem b_X_feed_50 {G : ev_G} {d k n : Nat} {h : ev_H} {R : Option Value → ev_H → Prop} {x1 : Int32} {x2 : Int32} {x3 : Int32} {x4 : Int32} {x5 : Int32}
  (r1 : ∃ fs, hat h 12 (oC 7 fs))
  (k1 : Ev G d 0 0 M_Ta_put 0 [.ref 12, .int x5, ev_unk] [] h (fun r h1 => Ev G (d + 1) k n M_X_feed 57 [.ref 0, .int x1, .int x2, .int x3, .int x4, .int x5, .ref 12] (r.toList ++ []) h1 R))
  : Ev G (d + 1) k n M_X_feed 50 [.ref 0, .int x1, .int x2, .int x3, .int x4, .int x5, .ref 12] [] h R :=
  Ev.go (pc' := 54) (ls' := [.ref 0, .int x1, .int x2, .int x3, .int x4, .int x5, .ref 12]) (st' := [.int x5, .ref 12]) [.aload 6, .iload 5] (by decide +kernel) rfl <|
  Ev.cV0 (M' := M_Ta_put) (as := [.int x5]) (rest := []) l_X_63 M_Ta_put_ok M_Ta_put_in M_Ta_put_se (by decide +kernel) r1 rfl rfl rfl (Nat.le_of_ble_eq_true rfl) (Nat.le_of_ble_eq_true rfl) k1
theorem b_X_feed_57 {G : ev_G} {d k n : Nat} {h : ev_H} {R : Option Value → ev_H → Prop} {x1 : Int32} {x2 : Int32} {x3 : Int32} {x4 : Int32} {x5 : Int32} {f_size_1 : Int32}
  (a1 : hat h 12 (oC 7 [.ref 13, .int f_size_1]))
  (k1 : R (some (.int f_size_1)) h)
  : Ev G (d + 1) k n M_X_feed 57 [.ref 0, .int x1, .int x2, .int x3, .int x4, .int x5, .ref 12] [] h R :=
  Ev.go (pc' := 59) (ls' := [.ref 0, .int x1, .int x2, .int x3, .int x4, .int x5, .ref 12]) (st' := [.ref 12]) [.aload 6] (by decide +kernel) rfl <|
  Ev.getf f_X_58 (by decide +kernel) a1 rfl <|
  Ev.ret (r := (some (.int f_size_1))) (Or.inl ⟨_, rfl, by decide +kernel, _, rfl, rfl⟩) k1
theorem b_X_refuse_0 {G : ev_G} {d k n : Nat} {h : ev_H} {R : Option Value → ev_H → Prop} {x1 : Int32} {f_latest_1 : Int32} {f_faultKind_2 : Int32} {f_faultPlace_3 : Int32}
  (a1 : hat h 0 (oC 8 [.ref 1, .ref 5, .ref 18, .ref 81, .ref 98, .int f_latest_1, .int f_faultKind_2, .int f_faultPlace_3]))
  (k1 : R (some (.int (-1 : Int32))) (hset h 0 (oC 8 [.ref 1, .ref 5, .ref 18, .ref 81, .ref 98, .int x1, .int f_faultKind_2, .int f_faultPlace_3])))
  : Ev G d k n M_X_refuse 0 [.ref 0, .int x1] [] h R :=
  Ev.go (pc' := 2) (ls' := [.ref 0, .int x1]) (st' := [.int x1, .ref 0]) [.aload_n 0, .iload_n 1] (by decide +kernel) rfl <|
  Ev.putf f_X_44 (by decide +kernel) a1 (Nat.le_of_ble_eq_true rfl) rfl (fun q => nomatch q) <| show Ev G d _ _ M_X_refuse 5 [.ref 0, .int x1] [] (hset h 0 (oC 8 [.ref 1, .ref 5, .ref 18, .ref 81, .ref 98, .int x1, .int f_faultKind_2, .int f_faultPlace_3])) R from
  Ev.go (pc' := 6) (ls' := [.ref 0, .int x1]) (st' := [.int (-1 : Int32)]) [.iconst (-1)] (by decide +kernel) rfl <|
  Ev.ret (r := (some (.int (-1 : Int32)))) (Or.inl ⟨_, rfl, by decide +kernel, _, rfl, rfl⟩) k1
theorem b_X_answer_0 {G : ev_G} {d k n : Nat} {h : ev_H} {R : Option Value → ev_H → Prop} {x1 : Int32} {f_latest_1 : Int32} {f_faultKind_2 : Int32} {f_faultPlace_3 : Int32}
  (a1 : hat h 0 (oC 8 [.ref 1, .ref 5, .ref 18, .ref 81, .ref 98, .int f_latest_1, .int f_faultKind_2, .int f_faultPlace_3]))
  (k1 : R (some (.int x1)) (hset h 0 (oC 8 [.ref 1, .ref 5, .ref 18, .ref 81, .ref 98, .int (0 : Int32), .int f_faultKind_2, .int f_faultPlace_3])))
  : Ev G d k n M_X_answer 0 [.ref 0, .int x1] [] h R :=
  Ev.go (pc' := 2) (ls' := [.ref 0, .int x1]) (st' := [.int (0 : Int32), .ref 0]) [.aload_n 0, .iconst 0] (by decide +kernel) rfl <|
  Ev.putf f_X_44 (by decide +kernel) a1 (Nat.le_of_ble_eq_true rfl) rfl (fun q => nomatch q) <| show Ev G d _ _ M_X_answer 5 [.ref 0, .int x1] [] (hset h 0 (oC 8 [.ref 1, .ref 5, .ref 18, .ref 81, .ref 98, .int (0 : Int32), .int f_faultKind_2, .int f_faultPlace_3])) R from
  Ev.go (pc' := 6) (ls' := [.ref 0, .int x1]) (st' := [.int x1]) [.iload_n 1] (by decide +kernel) rfl <|
  Ev.ret (r := (some (.int x1))) (Or.inl ⟨_, rfl, by decide +kernel, _, rfl, rfl⟩) k1
theorem b_X_answerLong_0 {G : ev_G} {d k n : Nat} {h : ev_H} {R : Option Value → ev_H → Prop} {x1 : Int64} {f_latest_1 : Int32} {f_faultKind_2 : Int32} {f_faultPlace_3 : Int32}
  (a1 : hat h 0 (oC 8 [.ref 1, .ref 5, .ref 18, .ref 81, .ref 98, .int f_latest_1, .int f_faultKind_2, .int f_faultPlace_3]))
  (k1 : R (some (.long x1)) (hset h 0 (oC 8 [.ref 1, .ref 5, .ref 18, .ref 81, .ref 98, .int (0 : Int32), .int f_faultKind_2, .int f_faultPlace_3])))
  : Ev G d k n M_X_answerLong 0 [.ref 0, .long x1, ev_unk] [] h R :=
  Ev.go (pc' := 2) (ls' := [.ref 0, .long x1, ev_unk]) (st' := [.int (0 : Int32), .ref 0]) [.aload_n 0, .iconst 0] (by decide +kernel) rfl <|
  Ev.putf f_X_44 (by decide +kernel) a1 (Nat.le_of_ble_eq_true rfl) rfl (fun q => nomatch q) <| show Ev G d _ _ M_X_answerLong 5 [.ref 0, .long x1, ev_unk] [] (hset h 0 (oC 8 [.ref 1, .ref 5, .ref 18, .ref 81, .ref 98, .int (0 : Int32), .int f_faultKind_2, .int f_faultPlace_3])) R from
  Ev.go (pc' := 6) (ls' := [.ref 0, .long x1, ev_unk]) (st' := [.long x1]) [.lload_n 1] (by decide +kernel) rfl <|
  Ev.ret (r := (some (.long x1))) (Or.inr (Or.inl ⟨_, rfl, by decide +kernel, rfl⟩)) k1
/-- the reader's own cells -/
def ReR (h : ev_H) : Prop := ∃ l k s e : Int32, hat h 5 (oC 4 [.ref 6, .ref 12, .ref 14, .ref 13, .int l, .int k, .int s, .int e])
section S24
variable {G : ev_G} {d : Nat} {h : ev_H} {R : Option Value → ev_H → Prop} {S : AS} {lt0 fk fp : Int32}
theorem s_X_status (hX : XO h lt0 fk fp) (hR : R (some (.int lt0)) h) : Ev G d 0 0 M_X_status 0 [.ref 0] [] h R := b_X_status_0 hX hR
theorem s_X_refuse {x : Int32} (hX : XO h lt0 fk fp) (hR : ∀ h', Kp h h' 0 1 → XO h' x fk fp → R (some (.int (-1))) h') : Ev G d 0 0 M_X_refuse 0 [.ref 0, .int x] [] h R :=
  b_X_refuse_0 hX (hR _ ((Kp.refl h 0 1).set _ (by omega) (by omega)) ⟨hX.1, hset_eq _ _ _⟩)
theorem s_X_answer {x : Int32} (hX : XO h lt0 fk fp) (hR : ∀ h', Kp h h' 0 1 → XO h' 0 fk fp → R (some (.int x)) h') : Ev G d 0 0 M_X_answer 0 [.ref 0, .int x] [] h R :=
  b_X_answer_0 hX (hR _ ((Kp.refl h 0 1).set _ (by omega) (by omega)) ⟨hX.1, hset_eq _ _ _⟩)
theorem s_X_answerLong {x : Int64} (hX : XO h lt0 fk fp) (hR : ∀ h', Kp h h' 0 1 → XO h' 0 fk fp → R (some (.long x)) h') : Ev G d 0 0 M_X_answerLong 0 [.ref 0, .long x, ev_unk] [] h R :=
  b_X_answerLong_0 hX (hR _ ((Kp.refl h 0 1).set _ (by omega) (by omega)) ⟨hX.1, hset_eq _ _ _⟩)
def tp20 (g : Nat → Int32) (n : Nat) (a b c d e : Int32) : Nat → Int32 := tp4 (tp4 (tp4 (tp4 (tp4 g n a) (n + 4) b) (n + 8) c) (n + 12) d) (n + 16) e
theorem s_X_feed {n : Nat} {g : Nat → Int32} {x1 x2 x3 x4 x5 : Int32} (hX : XO h lt0 fk fp) (hE : ReR h) (hT : TaR h n g) (hn : n ≤ 900) (hR1 : 880 < n → R (some (.int (-1))) h) (hR2 : n ≤ 880 → ∀ h', Kp h h' 12 14 → TaR h' (n + 20) (tp20 g n x1 x2 x3 x4 x5) → R (some (.int (nI (n + 20)))) h') : Ev G (d + 1) 0 0 M_X_feed 0 [.ref 0, .int x1, .int x2, .int x3, .int x4, .int x5, ev_unk] [] h R := by
  obtain ⟨l, k, s, e, hE⟩ := hE
  have e20 : nI n + (20 : Int32) = nI (n + 20) := nI_add n 20
  refine b_X_feed_0 hX hE hT.1 (fun q => ?_) (fun q => ?_)
  · rw [e20] at q
    exact hR1 (by have := (nI_ltI (a := 900) (by decide) (by omega)).mp q; omega)
  · rw [e20] at q
    have hl : n ≤ 880 := by
      rcases Nat.lt_or_ge 880 n with z | z
      · exact absurd (nI_lt (a := 900) (show 900 < n + 20 by omega) (by omega)) q
      · exact z
    refine s_Ta_put hT (by omega) fun h1 K1 T1 => b_X_feed_31 ⟨_, T1.1⟩ ?_
    refine s_Ta_put T1 (by omega) fun h2 K2 T2 => b_X_feed_37 ⟨_, T2.1⟩ ?_
    refine s_Ta_put T2 (by omega) fun h3 K3 T3 => b_X_feed_43 ⟨_, T3.1⟩ ?_
    refine s_Ta_put T3 (by omega) fun h4 K4 T4 => b_X_feed_50 ⟨_, T4.1⟩ ?_
    refine s_Ta_put T4 (by omega) fun h5 K5 T5 => b_X_feed_57 T5.1 ?_
    exact hR2 hl h5 ((((K1.trans K2).trans K3).trans K4).trans K5) T5
/-- the object with another status -/
def xoS (h : ev_H) (x fk fp : Int32) : ev_H := hset h 0 (oC 8 [.ref 1, .ref 5, .ref 18, .ref 81, .ref 98, .int x, .int fk, .int fp])
theorem xoS_kp (h : ev_H) (x fk fp : Int32) : Kp h (xoS h x fk fp) 0 1 := (Kp.refl h 0 1).set _ (by omega) (by omega)
theorem xoS_xo {x : Int32} (hX : XO h lt0 fk fp) : XO (xoS h x fk fp) x fk fp := ⟨hX.1, hset_eq _ _ _⟩
theorem s_X_refuse' {x : Int32} (hX : XO h lt0 fk fp) (hR : R (some (.int (-1))) (xoS h x fk fp)) : Ev G d 0 0 M_X_refuse 0 [.ref 0, .int x] [] h R := b_X_refuse_0 hX hR
theorem s_X_answer' {x : Int32} (hX : XO h lt0 fk fp) (hR : R (some (.int x)) (xoS h 0 fk fp)) : Ev G d 0 0 M_X_answer 0 [.ref 0, .int x] [] h R := b_X_answer_0 hX hR
theorem s_X_answerLong' {x : Int64} (hX : XO h lt0 fk fp) (hR : R (some (.long x)) (xoS h 0 fk fp)) : Ev G d 0 0 M_X_answerLong 0 [.ref 0, .long x, ev_unk] [] h R := b_X_answerLong_0 hX hR
end S24
theorem b_X_code_0 {G : ev_G} {d k n : Nat} {h : ev_H} {R : Option Value → ev_H → Prop} {x1 : Int32} {S1 : AS} {la2 : Int32} {fk3 : Int32} {fp4 : Int32} {la5 : Int32} {fk6 : Int32} {fp7 : Int32} {f_latest_8 : Int32} {f_faultKind_9 : Int32} {f_faultPlace_10 : Int32} {f_bits_11 : Int32} {f_parts_12 : Int32} {f_size_13 : Int32} {fv14 : Value} {g15 : Nat → Int64} {j16 : Nat} {la17 : Int32} {fk18 : Int32} {fp19 : Int32}
  (a7 : hat h 0 (oC 8 [.ref 1, .ref 5, .ref 18, .ref 81, .ref 98, .int f_latest_8, .int f_faultKind_9, .int f_faultPlace_10]))
  (a8 : hat h 1 (oC 6 [.int f_bits_11, .int f_parts_12, .ref 2, .int f_size_13, .ref 3, .ref 4, fv14]))
  (a9 : hat h 3 (aL 32 g15))
  (pr1 : XO h la2 fk3 fp4)
  (pr2 : StR h 1 S1)
  (pr3 : sOk S1)
  (r4 : ∃ fs, hat h 0 (oC 8 fs))
  (pr5 : (b2i (inR x1 (sN S1))) = (0 : Int32) → XO h la5 fk6 fp7)
  (r6 : (b2i (inR x1 (sN S1))) = (0 : Int32) → ∃ fs, hat h 0 (oC 8 fs))
  (i10 : ¬ (b2i (inR x1 (sN S1))) = (0 : Int32) → ev_ix x1 j16 32)
  (pr11 : ¬ (b2i (inR x1 (sN S1))) = (0 : Int32) → XO h la17 fk18 fp19)
  (k1 : (b2i (inR x1 (sN S1))) = (0 : Int32) → R (some (.long (-1 : Int32).toInt64)) (xoS h (2 : Int32) fk6 fp7))
  (k2 : ¬ (b2i (inR x1 (sN S1))) = (0 : Int32) → R (some (.long (g15 j16))) (xoS h 0 fk18 fp19))
  : Ev G (d + 1) k n M_X_code 0 [.ref 0, .int x1] [] h R :=
  Ev.go (pc' := 2) (ls' := [.ref 0, .int x1]) (st' := [.int x1, .ref 0]) [.aload_n 0, .iload_n 1] (by decide +kernel) rfl <|
  Ev.cV0 (M' := M_X_isCode) (as := [.int x1]) (rest := []) l_X_114 M_X_isCode_ok M_X_isCode_in M_X_isCode_se (by decide +kernel) r4 rfl rfl rfl (Nat.le_of_ble_eq_true rfl) (Nat.le_of_ble_eq_true rfl) (s_X_isCode pr1 pr2 pr3 <| show Ev G (d + 1) _ _ M_X_code 5 [.ref 0, .int x1] [.int (b2i (inR x1 (sN S1)))] h R from
    Ev.br (i := .ifCond .ne (10)) (P := (b2i (inR x1 (sN S1))) = (0 : Int32)) (t := 8) (f := 15) (r := []) (by decide +kernel) rfl (fun c1 =>
      Ev.go (pc' := 10) (ls' := [.ref 0, .int x1]) (st' := [.int (2 : Int32), .ref 0]) [.aload_n 0, .iconst 2] (by decide +kernel) rfl <|
      Ev.cV0 (M' := M_X_refuse) (as := [.int (2 : Int32)]) (rest := []) l_X_67 M_X_refuse_ok M_X_refuse_in M_X_refuse_se (by decide +kernel) (r6 c1) rfl rfl rfl (Nat.le_of_ble_eq_true rfl) (Nat.le_of_ble_eq_true rfl) (s_X_refuse' (pr5 c1) <| show Ev G (d + 1) _ _ M_X_code 13 [.ref 0, .int x1] [.int (-1 : Int32)] (xoS h (2 : Int32) fk6 fp7) R from
        Ev.go (pc' := 14) (ls' := [.ref 0, .int x1]) (st' := [.long (-1 : Int32).toInt64]) [.i2l] (by decide +kernel) rfl <|
        Ev.ret (r := (some (.long (-1 : Int32).toInt64))) (Or.inr (Or.inl ⟨_, rfl, by decide +kernel, rfl⟩)) (k1 c1)
      )
    ) (fun c1 =>
      Ev.go (pc' := 17) (ls' := [.ref 0, .int x1]) (st' := [.ref 0, .ref 0]) [.aload_n 0, .aload_n 0] (by decide +kernel) rfl <|
      Ev.getf f_X_10 (by decide +kernel) a7 rfl <|
      Ev.getf f_X_118 (by decide +kernel) a8 rfl <|
      Ev.go (pc' := 24) (ls' := [.ref 0, .int x1]) (st' := [.int x1, .ref 3, .ref 0]) [.iload_n 1] (by decide +kernel) rfl <|
      Ev.lald (j := j16) (by decide +kernel) a9 (i10 c1) <|
      Ev.cV0 (M' := M_X_answerLong) (as := [.long (g15 j16)]) (rest := []) l_X_122 M_X_answerLong_ok M_X_answerLong_in M_X_answerLong_se (by decide +kernel) ⟨_, a7⟩ rfl rfl rfl (Nat.le_of_ble_eq_true rfl) (Nat.le_of_ble_eq_true rfl) (s_X_answerLong' (pr11 c1) <| show Ev G (d + 1) _ _ M_X_code 28 [.ref 0, .int x1] [.long (g15 j16)] (xoS h 0 fk18 fp19) R from
        Ev.ret (r := (some (.long (g15 j16)))) (Or.inr (Or.inl ⟨_, rfl, by decide +kernel, rfl⟩)) (k2 c1)
      )
    )
  )
section S24
variable {G : ev_G} {d : Nat} {h : ev_H} {R : Option Value → ev_H → Prop} {S : AS} {lt0 fk fp : Int32}
theorem inR_no0 {x : Int32} {n : Nat} (h : b2i (inR x n) = 0) : inR x n = false := b2i_e0 h
theorem s_X_code {x : Int32} (hX : XO h lt0 fk fp) (hS : StR h 1 S) (ok : sOk S) (hR1 : inR x (sN S) = false → R (some (.long (-1))) (xoS h 2 fk fp)) (hR2 : ∀ j, j < sN S → x = nI j → R (some (.long (sCo S j))) (xoS h 0 fk fp)) : Ev G (d + 1) 0 0 M_X_code 0 [.ref 0, .int x] [] h R := by
  have hS0 := hS
  have h48 := ok.2.2.2.2.1
  obtain ⟨brf, tgf, cof, fv, t1, t2, t3, t4, e1, e2, -⟩ := hS
  cases q : inR x (sN S) with
  | false =>
    exact b_X_code_0 (j16 := 0) hX t1 t3 hX hS0 ok ⟨_, hX⟩ (fun _ => hX) (fun _ => ⟨_, hX⟩) (fun z => absurd (by rw [q]; rfl) z) (fun z => absurd (by rw [q]; rfl) z) (fun _ => hR1 q) (la17 := lt0) (fk18 := fk) (fp19 := fp) (fun z => absurd (by rw [q]; rfl) z)
  | true =>
    obtain ⟨j, hj, rfl⟩ := inR_yes (by omega) q
    exact b_X_code_0 (j16 := j) hX t1 t3 hX hS0 ok ⟨_, hX⟩ (fun _ => hX) (fun _ => ⟨_, hX⟩) (fun _ => ixn (by omega) (by decide)) (fun _ => hX) (fun z => absurd (z.symm.trans (by rw [q]; rfl)) (by decide : ¬ (0 : Int32) = 1)) (fun _ => by rw [(e2 j hj).1]; exact hR2 j hj rfl)
end S24
end
