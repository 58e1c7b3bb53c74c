section
-- ===== PART A: goes FIRST, ahead of the names: the tables' words, and 'selects' of the private methods out of them =====
/-- a private method of a class that the tables say can be made, by its rows of tables_1 -/
def lw_okq (q : MethodName × Nat) : Prop := (q.1.cls ≠ "java/lang/invoke/MethodHandle" ∧ q.1.cls ≠ "java/lang/invoke/VarHandle") ∧ Cond.instantiable q.1.cls q.2 ∈ tables_1 ∧ Cond.privateMethod q.1 ∈ tables_1 ∧ Cond.instanceMethod q.1 ∈ tables_1
theorem lw_p0 : lw_okq (⟨"AlikeStore", "refuse", "(I)I"⟩, 8) := ⟨⟨by decide +kernel, by decide +kernel⟩, List.mem_of_getElem? (i := 22) (by decide +kernel), List.mem_of_getElem? (i := 279) (by decide +kernel), List.mem_of_getElem? (i := 280) (by decide +kernel)⟩
theorem lw_p1 : lw_okq (⟨"AlikeStore$Reader", "next", "()V"⟩, 8) := ⟨⟨by decide +kernel, by decide +kernel⟩, List.mem_of_getElem? (i := 81) (by decide +kernel), List.mem_of_getElem? (i := 294) (by decide +kernel), List.mem_of_getElem? (i := 295) (by decide +kernel)⟩
theorem lw_p2 : lw_okq (⟨"AlikeStore$Reader", "isWord", "(Ljava/lang/String;)Z"⟩, 8) := ⟨⟨by decide +kernel, by decide +kernel⟩, List.mem_of_getElem? (i := 81) (by decide +kernel), List.mem_of_getElem? (i := 384) (by decide +kernel), List.mem_of_getElem? (i := 385) (by decide +kernel)⟩
theorem lw_p3 : lw_okq (⟨"AlikeStore$Reader", "readBits", "()I"⟩, 8) := ⟨⟨by decide +kernel, by decide +kernel⟩, List.mem_of_getElem? (i := 81) (by decide +kernel), List.mem_of_getElem? (i := 409) (by decide +kernel), List.mem_of_getElem? (i := 410) (by decide +kernel)⟩
theorem lw_p4 : lw_okq (⟨"AlikeStore$Reader", "number", "(II)I"⟩, 8) := ⟨⟨by decide +kernel, by decide +kernel⟩, List.mem_of_getElem? (i := 81) (by decide +kernel), List.mem_of_getElem? (i := 413) (by decide +kernel), List.mem_of_getElem? (i := 414) (by decide +kernel)⟩
theorem lw_p5 : lw_okq (⟨"AlikeStore$Reader", "sign", "(I)I"⟩, 8) := ⟨⟨by decide +kernel, by decide +kernel⟩, List.mem_of_getElem? (i := 81) (by decide +kernel), List.mem_of_getElem? (i := 417) (by decide +kernel), List.mem_of_getElem? (i := 418) (by decide +kernel)⟩
theorem lw_p6 : lw_okq (⟨"AlikeStore$Reader", "readParts", "()I"⟩, 8) := ⟨⟨by decide +kernel, by decide +kernel⟩, List.mem_of_getElem? (i := 81) (by decide +kernel), List.mem_of_getElem? (i := 423) (by decide +kernel), List.mem_of_getElem? (i := 424) (by decide +kernel)⟩
theorem lw_p7 : lw_okq (⟨"AlikeStore$Reader", "readCode", "()I"⟩, 8) := ⟨⟨by decide +kernel, by decide +kernel⟩, List.mem_of_getElem? (i := 81) (by decide +kernel), List.mem_of_getElem? (i := 428) (by decide +kernel), List.mem_of_getElem? (i := 429) (by decide +kernel)⟩
theorem lw_p8 : lw_okq (⟨"AlikeStore$Reader", "binary", "()J"⟩, 8) := ⟨⟨by decide +kernel, by decide +kernel⟩, List.mem_of_getElem? (i := 81) (by decide +kernel), List.mem_of_getElem? (i := 432) (by decide +kernel), List.mem_of_getElem? (i := 433) (by decide +kernel)⟩
theorem lw_p9 : lw_okq (⟨"AlikeStore$Reader", "readFilter", "()I"⟩, 8) := ⟨⟨by decide +kernel, by decide +kernel⟩, List.mem_of_getElem? (i := 81) (by decide +kernel), List.mem_of_getElem? (i := 448) (by decide +kernel), List.mem_of_getElem? (i := 449) (by decide +kernel)⟩
theorem lw_p10 : lw_okq (⟨"AlikeStore$Reader", "readTest", "(I)I"⟩, 8) := ⟨⟨by decide +kernel, by decide +kernel⟩, List.mem_of_getElem? (i := 81) (by decide +kernel), List.mem_of_getElem? (i := 452) (by decide +kernel), List.mem_of_getElem? (i := 453) (by decide +kernel)⟩
theorem lw_p11 : lw_okq (⟨"AlikeStore$Reader", "readSide", "(I)I"⟩, 8) := ⟨⟨by decide +kernel, by decide +kernel⟩, List.mem_of_getElem? (i := 81) (by decide +kernel), List.mem_of_getElem? (i := 456) (by decide +kernel), List.mem_of_getElem? (i := 457) (by decide +kernel)⟩
theorem lw_p12 : lw_okq (⟨"AlikeStore$Reader", "readFact", "(I)I"⟩, 8) := ⟨⟨by decide +kernel, by decide +kernel⟩, List.mem_of_getElem? (i := 81) (by decide +kernel), List.mem_of_getElem? (i := 460) (by decide +kernel), List.mem_of_getElem? (i := 461) (by decide +kernel)⟩
theorem lw_p13 : lw_okq (⟨"AlikeStore$Reader", "valueKind", "()I"⟩, 8) := ⟨⟨by decide +kernel, by decide +kernel⟩, List.mem_of_getElem? (i := 81) (by decide +kernel), List.mem_of_getElem? (i := 465) (by decide +kernel), List.mem_of_getElem? (i := 466) (by decide +kernel)⟩
theorem lw_p14 : lw_okq (⟨"AlikeStore$Reader", "readComparison", "(I)I"⟩, 8) := ⟨⟨by decide +kernel, by decide +kernel⟩, List.mem_of_getElem? (i := 81) (by decide +kernel), List.mem_of_getElem? (i := 474) (by decide +kernel), List.mem_of_getElem? (i := 475) (by decide +kernel)⟩
theorem lw_p15 : lw_okq (⟨"AlikeStore", "answer", "(I)I"⟩, 8) := ⟨⟨by decide +kernel, by decide +kernel⟩, List.mem_of_getElem? (i := 22) (by decide +kernel), List.mem_of_getElem? (i := 548) (by decide +kernel), List.mem_of_getElem? (i := 549) (by decide +kernel)⟩
def lw_privs_1 : List (MethodName × Nat) := [(⟨"AlikeStore", "refuse", "(I)I"⟩, 8), (⟨"AlikeStore$Reader", "next", "()V"⟩, 8), (⟨"AlikeStore$Reader", "isWord", "(Ljava/lang/String;)Z"⟩, 8), (⟨"AlikeStore$Reader", "readBits", "()I"⟩, 8), (⟨"AlikeStore$Reader", "number", "(II)I"⟩, 8), (⟨"AlikeStore$Reader", "sign", "(I)I"⟩, 8), (⟨"AlikeStore$Reader", "readParts", "()I"⟩, 8), (⟨"AlikeStore$Reader", "readCode", "()I"⟩, 8), (⟨"AlikeStore$Reader", "binary", "()J"⟩, 8), (⟨"AlikeStore$Reader", "readFilter", "()I"⟩, 8), (⟨"AlikeStore$Reader", "readTest", "(I)I"⟩, 8), (⟨"AlikeStore$Reader", "readSide", "(I)I"⟩, 8), (⟨"AlikeStore$Reader", "readFact", "(I)I"⟩, 8), (⟨"AlikeStore$Reader", "valueKind", "()I"⟩, 8), (⟨"AlikeStore$Reader", "readComparison", "(I)I"⟩, 8), (⟨"AlikeStore", "answer", "(I)I"⟩, 8)]
theorem lw_r1 : ∀ q ∈ lw_privs_1, lw_okq q := List.forall_mem_cons.mpr ⟨lw_p0, List.forall_mem_cons.mpr ⟨lw_p1, List.forall_mem_cons.mpr ⟨lw_p2, List.forall_mem_cons.mpr ⟨lw_p3, List.forall_mem_cons.mpr ⟨lw_p4, List.forall_mem_cons.mpr ⟨lw_p5, List.forall_mem_cons.mpr ⟨lw_p6, List.forall_mem_cons.mpr ⟨lw_p7, List.forall_mem_cons.mpr ⟨lw_p8, List.forall_mem_cons.mpr ⟨lw_p9, List.forall_mem_cons.mpr ⟨lw_p10, List.forall_mem_cons.mpr ⟨lw_p11, List.forall_mem_cons.mpr ⟨lw_p12, List.forall_mem_cons.mpr ⟨lw_p13, List.forall_mem_cons.mpr ⟨lw_p14, List.forall_mem_cons.mpr ⟨lw_p15, fun _ h => absurd h List.not_mem_nil⟩⟩⟩⟩⟩⟩⟩⟩⟩⟩⟩⟩⟩⟩⟩⟩
theorem lw_p16 : lw_okq (⟨"AlikeStore$Filter", "holdsFact", "(LAlikeStore$Store;II)Z"⟩, 5) := ⟨⟨by decide +kernel, by decide +kernel⟩, List.mem_of_getElem? (i := 490) (by decide +kernel), List.mem_of_getElem? (i := 572) (by decide +kernel), List.mem_of_getElem? (i := 573) (by decide +kernel)⟩
theorem lw_p17 : lw_okq (⟨"AlikeStore$Filter", "valueOf", "(LAlikeStore$Store;II)I"⟩, 5) := ⟨⟨by decide +kernel, by decide +kernel⟩, List.mem_of_getElem? (i := 490) (by decide +kernel), List.mem_of_getElem? (i := 576) (by decide +kernel), List.mem_of_getElem? (i := 577) (by decide +kernel)⟩
theorem lw_p18 : lw_okq (⟨"AlikeStore", "isCode", "(I)Z"⟩, 8) := ⟨⟨by decide +kernel, by decide +kernel⟩, List.mem_of_getElem? (i := 22) (by decide +kernel), List.mem_of_getElem? (i := 607) (by decide +kernel), List.mem_of_getElem? (i := 608) (by decide +kernel)⟩
theorem lw_p19 : lw_okq (⟨"AlikeStore", "answerLong", "(J)J"⟩, 8) := ⟨⟨by decide +kernel, by decide +kernel⟩, List.mem_of_getElem? (i := 22) (by decide +kernel), List.mem_of_getElem? (i := 611) (by decide +kernel), List.mem_of_getElem? (i := 612) (by decide +kernel)⟩
theorem lw_p20 : lw_okq (⟨"AlikeStore", "isPart", "(I)Z"⟩, 8) := ⟨⟨by decide +kernel, by decide +kernel⟩, List.mem_of_getElem? (i := 22) (by decide +kernel), List.mem_of_getElem? (i := 623) (by decide +kernel), List.mem_of_getElem? (i := 624) (by decide +kernel)⟩
theorem lw_p21 : lw_okq (⟨"AlikeStore", "isNumber", "(J)Z"⟩, 8) := ⟨⟨by decide +kernel, by decide +kernel⟩, List.mem_of_getElem? (i := 22) (by decide +kernel), List.mem_of_getElem? (i := 636) (by decide +kernel), List.mem_of_getElem? (i := 637) (by decide +kernel)⟩
theorem lw_p22 : lw_okq (⟨"AlikeStore", "isBit", "(I)Z"⟩, 8) := ⟨⟨by decide +kernel, by decide +kernel⟩, List.mem_of_getElem? (i := 22) (by decide +kernel), List.mem_of_getElem? (i := 683) (by decide +kernel), List.mem_of_getElem? (i := 684) (by decide +kernel)⟩
theorem lw_p23 : lw_okq (⟨"AlikeStore", "isRadius", "(I)Z"⟩, 8) := ⟨⟨by decide +kernel, by decide +kernel⟩, List.mem_of_getElem? (i := 22) (by decide +kernel), List.mem_of_getElem? (i := 749) (by decide +kernel), List.mem_of_getElem? (i := 750) (by decide +kernel)⟩
theorem lw_p24 : lw_okq (⟨"AlikeStore$Budgets", "cheapestShare", "(II)I"⟩, 5) := ⟨⟨by decide +kernel, by decide +kernel⟩, List.mem_of_getElem? (i := 191) (by decide +kernel), List.mem_of_getElem? (i := 778) (by decide +kernel), List.mem_of_getElem? (i := 779) (by decide +kernel)⟩
theorem lw_p25 : lw_okq (⟨"AlikeStore$Budgets", "costWith", "(III)I"⟩, 5) := ⟨⟨by decide +kernel, by decide +kernel⟩, List.mem_of_getElem? (i := 191) (by decide +kernel), List.mem_of_getElem? (i := 782) (by decide +kernel), List.mem_of_getElem? (i := 783) (by decide +kernel)⟩
theorem lw_p26 : lw_okq (⟨"AlikeStore$Ranking", "insert", "(II)V"⟩, 4) := ⟨⟨by decide +kernel, by decide +kernel⟩, List.mem_of_getElem? (i := 217) (by decide +kernel), List.mem_of_getElem? (i := 820) (by decide +kernel), List.mem_of_getElem? (i := 821) (by decide +kernel)⟩
theorem lw_p27 : lw_okq (⟨"AlikeStore", "pairAt", "(III)I"⟩, 8) := ⟨⟨by decide +kernel, by decide +kernel⟩, List.mem_of_getElem? (i := 22) (by decide +kernel), List.mem_of_getElem? (i := 852) (by decide +kernel), List.mem_of_getElem? (i := 853) (by decide +kernel)⟩
theorem lw_p28 : lw_okq (⟨"AlikeStore", "packPair", "(II)I"⟩, 8) := ⟨⟨by decide +kernel, by decide +kernel⟩, List.mem_of_getElem? (i := 22) (by decide +kernel), List.mem_of_getElem? (i := 856) (by decide +kernel), List.mem_of_getElem? (i := 857) (by decide +kernel)⟩
theorem lw_p29 : lw_okq (⟨"AlikeStore", "closestPair", "(I)I"⟩, 8) := ⟨⟨by decide +kernel, by decide +kernel⟩, List.mem_of_getElem? (i := 22) (by decide +kernel), List.mem_of_getElem? (i := 871) (by decide +kernel), List.mem_of_getElem? (i := 872) (by decide +kernel)⟩
theorem lw_p30 : lw_okq (⟨"AlikeStore", "clusterWith", "(III)I"⟩, 8) := ⟨⟨by decide +kernel, by decide +kernel⟩, List.mem_of_getElem? (i := 22) (by decide +kernel), List.mem_of_getElem? (i := 879) (by decide +kernel), List.mem_of_getElem? (i := 880) (by decide +kernel)⟩
theorem lw_p31 : lw_okq (⟨"AlikeStore", "middleOf", "(I)I"⟩, 8) := ⟨⟨by decide +kernel, by decide +kernel⟩, List.mem_of_getElem? (i := 22) (by decide +kernel), List.mem_of_getElem? (i := 890) (by decide +kernel), List.mem_of_getElem? (i := 891) (by decide +kernel)⟩
def lw_privs_2 : List (MethodName × Nat) := [(⟨"AlikeStore$Filter", "holdsFact", "(LAlikeStore$Store;II)Z"⟩, 5), (⟨"AlikeStore$Filter", "valueOf", "(LAlikeStore$Store;II)I"⟩, 5), (⟨"AlikeStore", "isCode", "(I)Z"⟩, 8), (⟨"AlikeStore", "answerLong", "(J)J"⟩, 8), (⟨"AlikeStore", "isPart", "(I)Z"⟩, 8), (⟨"AlikeStore", "isNumber", "(J)Z"⟩, 8), (⟨"AlikeStore", "isBit", "(I)Z"⟩, 8), (⟨"AlikeStore", "isRadius", "(I)Z"⟩, 8), (⟨"AlikeStore$Budgets", "cheapestShare", "(II)I"⟩, 5), (⟨"AlikeStore$Budgets", "costWith", "(III)I"⟩, 5), (⟨"AlikeStore$Ranking", "insert", "(II)V"⟩, 4), (⟨"AlikeStore", "pairAt", "(III)I"⟩, 8), (⟨"AlikeStore", "packPair", "(II)I"⟩, 8), (⟨"AlikeStore", "closestPair", "(I)I"⟩, 8), (⟨"AlikeStore", "clusterWith", "(III)I"⟩, 8), (⟨"AlikeStore", "middleOf", "(I)I"⟩, 8)]
theorem lw_r2 : ∀ q ∈ lw_privs_2, lw_okq q := List.forall_mem_cons.mpr ⟨lw_p16, List.forall_mem_cons.mpr ⟨lw_p17, List.forall_mem_cons.mpr ⟨lw_p18, List.forall_mem_cons.mpr ⟨lw_p19, List.forall_mem_cons.mpr ⟨lw_p20, List.forall_mem_cons.mpr ⟨lw_p21, List.forall_mem_cons.mpr ⟨lw_p22, List.forall_mem_cons.mpr ⟨lw_p23, List.forall_mem_cons.mpr ⟨lw_p24, List.forall_mem_cons.mpr ⟨lw_p25, List.forall_mem_cons.mpr ⟨lw_p26, List.forall_mem_cons.mpr ⟨lw_p27, List.forall_mem_cons.mpr ⟨lw_p28, List.forall_mem_cons.mpr ⟨lw_p29, List.forall_mem_cons.mpr ⟨lw_p30, List.forall_mem_cons.mpr ⟨lw_p31, fun _ h => absurd h List.not_mem_nil⟩⟩⟩⟩⟩⟩⟩⟩⟩⟩⟩⟩⟩⟩⟩⟩
theorem lw_p32 : lw_okq (⟨"AlikeStore", "costParted", "(III)I"⟩, 8) := ⟨⟨by decide +kernel, by decide +kernel⟩, List.mem_of_getElem? (i := 22) (by decide +kernel), List.mem_of_getElem? (i := 942) (by decide +kernel), List.mem_of_getElem? (i := 943) (by decide +kernel)⟩
theorem lw_p33 : lw_okq (⟨"AlikeStoreModel", "begins", "(I)V"⟩, 24) := ⟨⟨by decide +kernel, by decide +kernel⟩, List.mem_of_getElem? (i := 954) (by decide +kernel), List.mem_of_getElem? (i := 961) (by decide +kernel), List.mem_of_getElem? (i := 962) (by decide +kernel)⟩
theorem lw_p34 : lw_okq (⟨"AlikeStoreModel", "puts", "(IJ)V"⟩, 24) := ⟨⟨by decide +kernel, by decide +kernel⟩, List.mem_of_getElem? (i := 954) (by decide +kernel), List.mem_of_getElem? (i := 965) (by decide +kernel), List.mem_of_getElem? (i := 966) (by decide +kernel)⟩
theorem lw_p35 : lw_okq (⟨"AlikeStoreModel", "halves", "()V"⟩, 24) := ⟨⟨by decide +kernel, by decide +kernel⟩, List.mem_of_getElem? (i := 954) (by decide +kernel), List.mem_of_getElem? (i := 969) (by decide +kernel), List.mem_of_getElem? (i := 970) (by decide +kernel)⟩
theorem lw_p36 : lw_okq (⟨"AlikeStoreModel", "of", "(I)J"⟩, 24) := ⟨⟨by decide +kernel, by decide +kernel⟩, List.mem_of_getElem? (i := 954) (by decide +kernel), List.mem_of_getElem? (i := 974) (by decide +kernel), List.mem_of_getElem? (i := 975) (by decide +kernel)⟩
theorem lw_p37 : lw_okq (⟨"AlikeStoreModel", "four", "(I)V"⟩, 24) := ⟨⟨by decide +kernel, by decide +kernel⟩, List.mem_of_getElem? (i := 954) (by decide +kernel), List.mem_of_getElem? (i := 1059) (by decide +kernel), List.mem_of_getElem? (i := 1060) (by decide +kernel)⟩
theorem lw_p38 : lw_okq (⟨"AlikeStoreModel", "refuse", "(I)I"⟩, 24) := ⟨⟨by decide +kernel, by decide +kernel⟩, List.mem_of_getElem? (i := 954) (by decide +kernel), List.mem_of_getElem? (i := 1070) (by decide +kernel), List.mem_of_getElem? (i := 1071) (by decide +kernel)⟩
theorem lw_p39 : lw_okq (⟨"AlikeStoreModel", "copies", "(II)V"⟩, 24) := ⟨⟨by decide +kernel, by decide +kernel⟩, List.mem_of_getElem? (i := 954) (by decide +kernel), List.mem_of_getElem? (i := 1074) (by decide +kernel), List.mem_of_getElem? (i := 1075) (by decide +kernel)⟩
theorem lw_p40 : lw_okq (⟨"AlikeStoreModel", "ahead", "()V"⟩, 24) := ⟨⟨by decide +kernel, by decide +kernel⟩, List.mem_of_getElem? (i := 954) (by decide +kernel), List.mem_of_getElem? (i := 1078) (by decide +kernel), List.mem_of_getElem? (i := 1079) (by decide +kernel)⟩
theorem lw_p41 : lw_okq (⟨"AlikeStoreModel", "byteAt", "(I)I"⟩, 24) := ⟨⟨by decide +kernel, by decide +kernel⟩, List.mem_of_getElem? (i := 954) (by decide +kernel), List.mem_of_getElem? (i := 1082) (by decide +kernel), List.mem_of_getElem? (i := 1083) (by decide +kernel)⟩
theorem lw_p42 : lw_okq (⟨"AlikeStoreModel", "key", "()I"⟩, 24) := ⟨⟨by decide +kernel, by decide +kernel⟩, List.mem_of_getElem? (i := 954) (by decide +kernel), List.mem_of_getElem? (i := 1092) (by decide +kernel), List.mem_of_getElem? (i := 1093) (by decide +kernel)⟩
theorem lw_p43 : lw_okq (⟨"AlikeStoreModel", "theBits", "()Z"⟩, 24) := ⟨⟨by decide +kernel, by decide +kernel⟩, List.mem_of_getElem? (i := 954) (by decide +kernel), List.mem_of_getElem? (i := 1099) (by decide +kernel), List.mem_of_getElem? (i := 1100) (by decide +kernel)⟩
theorem lw_p44 : lw_okq (⟨"AlikeStoreModel", "isNumberHere", "(II)Z"⟩, 24) := ⟨⟨by decide +kernel, by decide +kernel⟩, List.mem_of_getElem? (i := 954) (by decide +kernel), List.mem_of_getElem? (i := 1103) (by decide +kernel), List.mem_of_getElem? (i := 1104) (by decide +kernel)⟩
theorem lw_p45 : lw_okq (⟨"AlikeStoreModel", "fails", "(I)Z"⟩, 24) := ⟨⟨by decide +kernel, by decide +kernel⟩, List.mem_of_getElem? (i := 954) (by decide +kernel), List.mem_of_getElem? (i := 1107) (by decide +kernel), List.mem_of_getElem? (i := 1108) (by decide +kernel)⟩
theorem lw_p46 : lw_okq (⟨"AlikeStoreModel", "takesSign", "(I)Z"⟩, 24) := ⟨⟨by decide +kernel, by decide +kernel⟩, List.mem_of_getElem? (i := 954) (by decide +kernel), List.mem_of_getElem? (i := 1113) (by decide +kernel), List.mem_of_getElem? (i := 1114) (by decide +kernel)⟩
theorem lw_p47 : lw_okq (⟨"AlikeStoreModel", "isSign", "(I)Z"⟩, 24) := ⟨⟨by decide +kernel, by decide +kernel⟩, List.mem_of_getElem? (i := 954) (by decide +kernel), List.mem_of_getElem? (i := 1117) (by decide +kernel), List.mem_of_getElem? (i := 1118) (by decide +kernel)⟩
def lw_privs_3 : List (MethodName × Nat) := [(⟨"AlikeStore", "costParted", "(III)I"⟩, 8), (⟨"AlikeStoreModel", "begins", "(I)V"⟩, 24), (⟨"AlikeStoreModel", "puts", "(IJ)V"⟩, 24), (⟨"AlikeStoreModel", "halves", "()V"⟩, 24), (⟨"AlikeStoreModel", "of", "(I)J"⟩, 24), (⟨"AlikeStoreModel", "four", "(I)V"⟩, 24), (⟨"AlikeStoreModel", "refuse", "(I)I"⟩, 24), (⟨"AlikeStoreModel", "copies", "(II)V"⟩, 24), (⟨"AlikeStoreModel", "ahead", "()V"⟩, 24), (⟨"AlikeStoreModel", "byteAt", "(I)I"⟩, 24), (⟨"AlikeStoreModel", "key", "()I"⟩, 24), (⟨"AlikeStoreModel", "theBits", "()Z"⟩, 24), (⟨"AlikeStoreModel", "isNumberHere", "(II)Z"⟩, 24), (⟨"AlikeStoreModel", "fails", "(I)Z"⟩, 24), (⟨"AlikeStoreModel", "takesSign", "(I)Z"⟩, 24), (⟨"AlikeStoreModel", "isSign", "(I)Z"⟩, 24)]
theorem lw_r3 : ∀ q ∈ lw_privs_3, lw_okq q := List.forall_mem_cons.mpr ⟨lw_p32, List.forall_mem_cons.mpr ⟨lw_p33, List.forall_mem_cons.mpr ⟨lw_p34, List.forall_mem_cons.mpr ⟨lw_p35, List.forall_mem_cons.mpr ⟨lw_p36, List.forall_mem_cons.mpr ⟨lw_p37, List.forall_mem_cons.mpr ⟨lw_p38, List.forall_mem_cons.mpr ⟨lw_p39, List.forall_mem_cons.mpr ⟨lw_p40, List.forall_mem_cons.mpr ⟨lw_p41, List.forall_mem_cons.mpr ⟨lw_p42, List.forall_mem_cons.mpr ⟨lw_p43, List.forall_mem_cons.mpr ⟨lw_p44, List.forall_mem_cons.mpr ⟨lw_p45, List.forall_mem_cons.mpr ⟨lw_p46, List.forall_mem_cons.mpr ⟨lw_p47, fun _ h => absurd h List.not_mem_nil⟩⟩⟩⟩⟩⟩⟩⟩⟩⟩⟩⟩⟩⟩⟩⟩
theorem lw_p48 : lw_okq (⟨"AlikeStoreModel", "takes", "()Z"⟩, 24) := ⟨⟨by decide +kernel, by decide +kernel⟩, List.mem_of_getElem? (i := 954) (by decide +kernel), List.mem_of_getElem? (i := 1121) (by decide +kernel), List.mem_of_getElem? (i := 1122) (by decide +kernel)⟩
theorem lw_p49 : lw_okq (⟨"AlikeStoreModel", "theParts", "()Z"⟩, 24) := ⟨⟨by decide +kernel, by decide +kernel⟩, List.mem_of_getElem? (i := 954) (by decide +kernel), List.mem_of_getElem? (i := 1125) (by decide +kernel), List.mem_of_getElem? (i := 1126) (by decide +kernel)⟩
theorem lw_p50 : lw_okq (⟨"AlikeStoreModel", "parts", "()I"⟩, 24) := ⟨⟨by decide +kernel, by decide +kernel⟩, List.mem_of_getElem? (i := 954) (by decide +kernel), List.mem_of_getElem? (i := 1129) (by decide +kernel), List.mem_of_getElem? (i := 1130) (by decide +kernel)⟩
theorem lw_p51 : lw_okq (⟨"AlikeStoreModel", "bits", "()I"⟩, 24) := ⟨⟨by decide +kernel, by decide +kernel⟩, List.mem_of_getElem? (i := 954) (by decide +kernel), List.mem_of_getElem? (i := 1133) (by decide +kernel), List.mem_of_getElem? (i := 1134) (by decide +kernel)⟩
theorem lw_p52 : lw_okq (⟨"AlikeStoreModel", "aLine", "()Z"⟩, 24) := ⟨⟨by decide +kernel, by decide +kernel⟩, List.mem_of_getElem? (i := 954) (by decide +kernel), List.mem_of_getElem? (i := 1137) (by decide +kernel), List.mem_of_getElem? (i := 1138) (by decide +kernel)⟩
theorem lw_p53 : lw_okq (⟨"AlikeStoreModel", "aCode", "()Z"⟩, 24) := ⟨⟨by decide +kernel, by decide +kernel⟩, List.mem_of_getElem? (i := 954) (by decide +kernel), List.mem_of_getElem? (i := 1141) (by decide +kernel), List.mem_of_getElem? (i := 1142) (by decide +kernel)⟩
theorem lw_p54 : lw_okq (⟨"AlikeStoreModel", "many", "()I"⟩, 24) := ⟨⟨by decide +kernel, by decide +kernel⟩, List.mem_of_getElem? (i := 954) (by decide +kernel), List.mem_of_getElem? (i := 1145) (by decide +kernel), List.mem_of_getElem? (i := 1146) (by decide +kernel)⟩
theorem lw_p55 : lw_okq (⟨"AlikeStoreModel", "isBinaryHere", "()Z"⟩, 24) := ⟨⟨by decide +kernel, by decide +kernel⟩, List.mem_of_getElem? (i := 954) (by decide +kernel), List.mem_of_getElem? (i := 1149) (by decide +kernel), List.mem_of_getElem? (i := 1150) (by decide +kernel)⟩
theorem lw_p56 : lw_okq (⟨"AlikeStoreModel", "found", "(J)I"⟩, 24) := ⟨⟨by decide +kernel, by decide +kernel⟩, List.mem_of_getElem? (i := 954) (by decide +kernel), List.mem_of_getElem? (i := 1153) (by decide +kernel), List.mem_of_getElem? (i := 1154) (by decide +kernel)⟩
theorem lw_p57 : lw_okq (⟨"AlikeStoreModel", "codeOf", "(I)J"⟩, 24) := ⟨⟨by decide +kernel, by decide +kernel⟩, List.mem_of_getElem? (i := 954) (by decide +kernel), List.mem_of_getElem? (i := 1157) (by decide +kernel), List.mem_of_getElem? (i := 1158) (by decide +kernel)⟩
theorem lw_p58 : lw_okq (⟨"AlikeStoreModel", "aFilter", "()Z"⟩, 24) := ⟨⟨by decide +kernel, by decide +kernel⟩, List.mem_of_getElem? (i := 954) (by decide +kernel), List.mem_of_getElem? (i := 1161) (by decide +kernel), List.mem_of_getElem? (i := 1162) (by decide +kernel)⟩
theorem lw_p59 : lw_okq (⟨"AlikeStoreModel", "test", "()Z"⟩, 24) := ⟨⟨by decide +kernel, by decide +kernel⟩, List.mem_of_getElem? (i := 954) (by decide +kernel), List.mem_of_getElem? (i := 1165) (by decide +kernel), List.mem_of_getElem? (i := 1166) (by decide +kernel)⟩
theorem lw_p60 : lw_okq (⟨"AlikeStoreModel", "side", "()Z"⟩, 24) := ⟨⟨by decide +kernel, by decide +kernel⟩, List.mem_of_getElem? (i := 954) (by decide +kernel), List.mem_of_getElem? (i := 1169) (by decide +kernel), List.mem_of_getElem? (i := 1170) (by decide +kernel)⟩
theorem lw_p61 : lw_okq (⟨"AlikeStoreModel", "fact", "()Z"⟩, 24) := ⟨⟨by decide +kernel, by decide +kernel⟩, List.mem_of_getElem? (i := 954) (by decide +kernel), List.mem_of_getElem? (i := 1173) (by decide +kernel), List.mem_of_getElem? (i := 1174) (by decide +kernel)⟩
theorem lw_p62 : lw_okq (⟨"AlikeStoreModel", "sinks", "()Z"⟩, 24) := ⟨⟨by decide +kernel, by decide +kernel⟩, List.mem_of_getElem? (i := 954) (by decide +kernel), List.mem_of_getElem? (i := 1177) (by decide +kernel), List.mem_of_getElem? (i := 1178) (by decide +kernel)⟩
theorem lw_p63 : lw_okq (⟨"AlikeStoreModel", "emitsNot", "()Z"⟩, 24) := ⟨⟨by decide +kernel, by decide +kernel⟩, List.mem_of_getElem? (i := 954) (by decide +kernel), List.mem_of_getElem? (i := 1181) (by decide +kernel), List.mem_of_getElem? (i := 1182) (by decide +kernel)⟩
def lw_privs_4 : List (MethodName × Nat) := [(⟨"AlikeStoreModel", "takes", "()Z"⟩, 24), (⟨"AlikeStoreModel", "theParts", "()Z"⟩, 24), (⟨"AlikeStoreModel", "parts", "()I"⟩, 24), (⟨"AlikeStoreModel", "bits", "()I"⟩, 24), (⟨"AlikeStoreModel", "aLine", "()Z"⟩, 24), (⟨"AlikeStoreModel", "aCode", "()Z"⟩, 24), (⟨"AlikeStoreModel", "many", "()I"⟩, 24), (⟨"AlikeStoreModel", "isBinaryHere", "()Z"⟩, 24), (⟨"AlikeStoreModel", "found", "(J)I"⟩, 24), (⟨"AlikeStoreModel", "codeOf", "(I)J"⟩, 24), (⟨"AlikeStoreModel", "aFilter", "()Z"⟩, 24), (⟨"AlikeStoreModel", "test", "()Z"⟩, 24), (⟨"AlikeStoreModel", "side", "()Z"⟩, 24), (⟨"AlikeStoreModel", "fact", "()Z"⟩, 24), (⟨"AlikeStoreModel", "sinks", "()Z"⟩, 24), (⟨"AlikeStoreModel", "emitsNot", "()Z"⟩, 24)]
theorem lw_r4 : ∀ q ∈ lw_privs_4, lw_okq q := List.forall_mem_cons.mpr ⟨lw_p48, List.forall_mem_cons.mpr ⟨lw_p49, List.forall_mem_cons.mpr ⟨lw_p50, List.forall_mem_cons.mpr ⟨lw_p51, List.forall_mem_cons.mpr ⟨lw_p52, List.forall_mem_cons.mpr ⟨lw_p53, List.forall_mem_cons.mpr ⟨lw_p54, List.forall_mem_cons.mpr ⟨lw_p55, List.forall_mem_cons.mpr ⟨lw_p56, List.forall_mem_cons.mpr ⟨lw_p57, List.forall_mem_cons.mpr ⟨lw_p58, List.forall_mem_cons.mpr ⟨lw_p59, List.forall_mem_cons.mpr ⟨lw_p60, List.forall_mem_cons.mpr ⟨lw_p61, List.forall_mem_cons.mpr ⟨lw_p62, List.forall_mem_cons.mpr ⟨lw_p63, fun _ h => absurd h List.not_mem_nil⟩⟩⟩⟩⟩⟩⟩⟩⟩⟩⟩⟩⟩⟩⟩⟩
theorem lw_p64 : lw_okq (⟨"AlikeStoreModel", "emits", "(IJ)V"⟩, 24) := ⟨⟨by decide +kernel, by decide +kernel⟩, List.mem_of_getElem? (i := 954) (by decide +kernel), List.mem_of_getElem? (i := 1185) (by decide +kernel), List.mem_of_getElem? (i := 1186) (by decide +kernel)⟩
theorem lw_p65 : lw_okq (⟨"AlikeStoreModel", "rises", "()Z"⟩, 24) := ⟨⟨by decide +kernel, by decide +kernel⟩, List.mem_of_getElem? (i := 954) (by decide +kernel), List.mem_of_getElem? (i := 1189) (by decide +kernel), List.mem_of_getElem? (i := 1190) (by decide +kernel)⟩
theorem lw_p66 : lw_okq (⟨"AlikeStoreModel", "valueHere", "()Z"⟩, 24) := ⟨⟨by decide +kernel, by decide +kernel⟩, List.mem_of_getElem? (i := 954) (by decide +kernel), List.mem_of_getElem? (i := 1193) (by decide +kernel), List.mem_of_getElem? (i := 1194) (by decide +kernel)⟩
theorem lw_p67 : lw_okq (⟨"AlikeStoreModel", "acted", "(I)V"⟩, 24) := ⟨⟨by decide +kernel, by decide +kernel⟩, List.mem_of_getElem? (i := 954) (by decide +kernel), List.mem_of_getElem? (i := 1198) (by decide +kernel), List.mem_of_getElem? (i := 1199) (by decide +kernel)⟩
theorem lw_p68 : lw_okq (⟨"AlikeStoreModel", "gives", "(I)I"⟩, 24) := ⟨⟨by decide +kernel, by decide +kernel⟩, List.mem_of_getElem? (i := 954) (by decide +kernel), List.mem_of_getElem? (i := 1202) (by decide +kernel), List.mem_of_getElem? (i := 1203) (by decide +kernel)⟩
theorem lw_p69 : lw_okq (⟨"AlikeStoreModel", "counting", "()J"⟩, 24) := ⟨⟨by decide +kernel, by decide +kernel⟩, List.mem_of_getElem? (i := 954) (by decide +kernel), List.mem_of_getElem? (i := 1214) (by decide +kernel), List.mem_of_getElem? (i := 1215) (by decide +kernel)⟩
theorem lw_p70 : lw_okq (⟨"AlikeStoreModel", "isCounting", "(I)Z"⟩, 24) := ⟨⟨by decide +kernel, by decide +kernel⟩, List.mem_of_getElem? (i := 954) (by decide +kernel), List.mem_of_getElem? (i := 1218) (by decide +kernel), List.mem_of_getElem? (i := 1219) (by decide +kernel)⟩
theorem lw_p71 : lw_okq (⟨"AlikeStoreModel", "valueOf", "(IIJ)J"⟩, 24) := ⟨⟨by decide +kernel, by decide +kernel⟩, List.mem_of_getElem? (i := 954) (by decide +kernel), List.mem_of_getElem? (i := 1223) (by decide +kernel), List.mem_of_getElem? (i := 1224) (by decide +kernel)⟩
theorem lw_p72 : lw_okq (⟨"AlikeStoreModel", "keyOf", "(JI)J"⟩, 24) := ⟨⟨by decide +kernel, by decide +kernel⟩, List.mem_of_getElem? (i := 954) (by decide +kernel), List.mem_of_getElem? (i := 1230) (by decide +kernel), List.mem_of_getElem? (i := 1231) (by decide +kernel)⟩
theorem lw_p73 : lw_okq (⟨"AlikeStoreModel", "breadthOf", "(I)I"⟩, 24) := ⟨⟨by decide +kernel, by decide +kernel⟩, List.mem_of_getElem? (i := 954) (by decide +kernel), List.mem_of_getElem? (i := 1234) (by decide +kernel), List.mem_of_getElem? (i := 1235) (by decide +kernel)⟩
theorem lw_p74 : lw_okq (⟨"AlikeStoreModel", "isCode", "(I)Z"⟩, 24) := ⟨⟨by decide +kernel, by decide +kernel⟩, List.mem_of_getElem? (i := 954) (by decide +kernel), List.mem_of_getElem? (i := 1245) (by decide +kernel), List.mem_of_getElem? (i := 1246) (by decide +kernel)⟩
theorem lw_p75 : lw_okq (⟨"AlikeStoreModel", "gives", "(J)J"⟩, 24) := ⟨⟨by decide +kernel, by decide +kernel⟩, List.mem_of_getElem? (i := 954) (by decide +kernel), List.mem_of_getElem? (i := 1249) (by decide +kernel), List.mem_of_getElem? (i := 1250) (by decide +kernel)⟩
theorem lw_p76 : lw_okq (⟨"AlikeStoreModel", "isPart", "(I)Z"⟩, 24) := ⟨⟨by decide +kernel, by decide +kernel⟩, List.mem_of_getElem? (i := 954) (by decide +kernel), List.mem_of_getElem? (i := 1261) (by decide +kernel), List.mem_of_getElem? (i := 1262) (by decide +kernel)⟩
theorem lw_p77 : lw_okq (⟨"AlikeStoreModel", "isNumber", "(J)Z"⟩, 24) := ⟨⟨by decide +kernel, by decide +kernel⟩, List.mem_of_getElem? (i := 954) (by decide +kernel), List.mem_of_getElem? (i := 1273) (by decide +kernel), List.mem_of_getElem? (i := 1274) (by decide +kernel)⟩
theorem lw_p78 : lw_okq (⟨"AlikeStoreModel", "isBit", "(I)Z"⟩, 24) := ⟨⟨by decide +kernel, by decide +kernel⟩, List.mem_of_getElem? (i := 954) (by decide +kernel), List.mem_of_getElem? (i := 1308) (by decide +kernel), List.mem_of_getElem? (i := 1309) (by decide +kernel)⟩
theorem lw_p79 : lw_okq (⟨"AlikeStoreModel", "isRadius", "(I)Z"⟩, 24) := ⟨⟨by decide +kernel, by decide +kernel⟩, List.mem_of_getElem? (i := 954) (by decide +kernel), List.mem_of_getElem? (i := 1349) (by decide +kernel), List.mem_of_getElem? (i := 1350) (by decide +kernel)⟩
def lw_privs_5 : List (MethodName × Nat) := [(⟨"AlikeStoreModel", "emits", "(IJ)V"⟩, 24), (⟨"AlikeStoreModel", "rises", "()Z"⟩, 24), (⟨"AlikeStoreModel", "valueHere", "()Z"⟩, 24), (⟨"AlikeStoreModel", "acted", "(I)V"⟩, 24), (⟨"AlikeStoreModel", "gives", "(I)I"⟩, 24), (⟨"AlikeStoreModel", "counting", "()J"⟩, 24), (⟨"AlikeStoreModel", "isCounting", "(I)Z"⟩, 24), (⟨"AlikeStoreModel", "valueOf", "(IIJ)J"⟩, 24), (⟨"AlikeStoreModel", "keyOf", "(JI)J"⟩, 24), (⟨"AlikeStoreModel", "breadthOf", "(I)I"⟩, 24), (⟨"AlikeStoreModel", "isCode", "(I)Z"⟩, 24), (⟨"AlikeStoreModel", "gives", "(J)J"⟩, 24), (⟨"AlikeStoreModel", "isPart", "(I)Z"⟩, 24), (⟨"AlikeStoreModel", "isNumber", "(J)Z"⟩, 24), (⟨"AlikeStoreModel", "isBit", "(I)Z"⟩, 24), (⟨"AlikeStoreModel", "isRadius", "(I)Z"⟩, 24)]
theorem lw_r5 : ∀ q ∈ lw_privs_5, lw_okq q := List.forall_mem_cons.mpr ⟨lw_p64, List.forall_mem_cons.mpr ⟨lw_p65, List.forall_mem_cons.mpr ⟨lw_p66, List.forall_mem_cons.mpr ⟨lw_p67, List.forall_mem_cons.mpr ⟨lw_p68, List.forall_mem_cons.mpr ⟨lw_p69, List.forall_mem_cons.mpr ⟨lw_p70, List.forall_mem_cons.mpr ⟨lw_p71, List.forall_mem_cons.mpr ⟨lw_p72, List.forall_mem_cons.mpr ⟨lw_p73, List.forall_mem_cons.mpr ⟨lw_p74, List.forall_mem_cons.mpr ⟨lw_p75, List.forall_mem_cons.mpr ⟨lw_p76, List.forall_mem_cons.mpr ⟨lw_p77, List.forall_mem_cons.mpr ⟨lw_p78, List.forall_mem_cons.mpr ⟨lw_p79, fun _ h => absurd h List.not_mem_nil⟩⟩⟩⟩⟩⟩⟩⟩⟩⟩⟩⟩⟩⟩⟩⟩
theorem lw_p80 : lw_okq (⟨"AlikeStoreModel", "ownParts", "()V"⟩, 24) := ⟨⟨by decide +kernel, by decide +kernel⟩, List.mem_of_getElem? (i := 954) (by decide +kernel), List.mem_of_getElem? (i := 1353) (by decide +kernel), List.mem_of_getElem? (i := 1354) (by decide +kernel)⟩
theorem lw_p81 : lw_okq (⟨"AlikeStoreModel", "budgetsOf", "(JIJ)I"⟩, 24) := ⟨⟨by decide +kernel, by decide +kernel⟩, List.mem_of_getElem? (i := 954) (by decide +kernel), List.mem_of_getElem? (i := 1357) (by decide +kernel), List.mem_of_getElem? (i := 1358) (by decide +kernel)⟩
theorem lw_p82 : lw_okq (⟨"AlikeStoreModel", "costOf", "(JIIJ)I"⟩, 24) := ⟨⟨by decide +kernel, by decide +kernel⟩, List.mem_of_getElem? (i := 954) (by decide +kernel), List.mem_of_getElem? (i := 1361) (by decide +kernel), List.mem_of_getElem? (i := 1362) (by decide +kernel)⟩
theorem lw_p83 : lw_okq (⟨"AlikeStoreModel", "keyAt", "(JI)J"⟩, 24) := ⟨⟨by decide +kernel, by decide +kernel⟩, List.mem_of_getElem? (i := 954) (by decide +kernel), List.mem_of_getElem? (i := 1365) (by decide +kernel), List.mem_of_getElem? (i := 1366) (by decide +kernel)⟩
theorem lw_p84 : lw_okq (⟨"AlikeStoreModel", "isCandidate", "(IJ)Z"⟩, 24) := ⟨⟨by decide +kernel, by decide +kernel⟩, List.mem_of_getElem? (i := 954) (by decide +kernel), List.mem_of_getElem? (i := 1380) (by decide +kernel), List.mem_of_getElem? (i := 1381) (by decide +kernel)⟩
theorem lw_p85 : lw_okq (⟨"AlikeStoreModel", "nearSet", "(JI)J"⟩, 24) := ⟨⟨by decide +kernel, by decide +kernel⟩, List.mem_of_getElem? (i := 954) (by decide +kernel), List.mem_of_getElem? (i := 1384) (by decide +kernel), List.mem_of_getElem? (i := 1385) (by decide +kernel)⟩
theorem lw_p86 : lw_okq (⟨"AlikeStoreModel", "ranks", "(JJ)I"⟩, 24) := ⟨⟨by decide +kernel, by decide +kernel⟩, List.mem_of_getElem? (i := 954) (by decide +kernel), List.mem_of_getElem? (i := 1392) (by decide +kernel), List.mem_of_getElem? (i := 1393) (by decide +kernel)⟩
theorem lw_p87 : lw_okq (⟨"AlikeStoreModel", "isPair", "(IIIJ)Z"⟩, 24) := ⟨⟨by decide +kernel, by decide +kernel⟩, List.mem_of_getElem? (i := 954) (by decide +kernel), List.mem_of_getElem? (i := 1409) (by decide +kernel), List.mem_of_getElem? (i := 1410) (by decide +kernel)⟩
theorem lw_p88 : lw_okq (⟨"AlikeStoreModel", "clusterOf", "(IIJ)J"⟩, 24) := ⟨⟨by decide +kernel, by decide +kernel⟩, List.mem_of_getElem? (i := 954) (by decide +kernel), List.mem_of_getElem? (i := 1429) (by decide +kernel), List.mem_of_getElem? (i := 1430) (by decide +kernel)⟩
theorem lw_p89 : lw_okq (⟨"AlikeStoreModel", "middle", "(J)I"⟩, 24) := ⟨⟨by decide +kernel, by decide +kernel⟩, List.mem_of_getElem? (i := 954) (by decide +kernel), List.mem_of_getElem? (i := 1440) (by decide +kernel), List.mem_of_getElem? (i := 1441) (by decide +kernel)⟩
theorem lw_p90 : lw_okq (⟨"AlikeStoreModel", "onesAt", "(IJ)I"⟩, 24) := ⟨⟨by decide +kernel, by decide +kernel⟩, List.mem_of_getElem? (i := 954) (by decide +kernel), List.mem_of_getElem? (i := 1457) (by decide +kernel), List.mem_of_getElem? (i := 1458) (by decide +kernel)⟩
theorem lw_p91 : lw_okq (⟨"AlikeStoreModel", "isParted", "(I)Z"⟩, 24) := ⟨⟨by decide +kernel, by decide +kernel⟩, List.mem_of_getElem? (i := 954) (by decide +kernel), List.mem_of_getElem? (i := 1478) (by decide +kernel), List.mem_of_getElem? (i := 1479) (by decide +kernel)⟩
theorem lw_p92 : lw_okq (⟨"AlikeStoreModel", "partedBy", "(II)I"⟩, 24) := ⟨⟨by decide +kernel, by decide +kernel⟩, List.mem_of_getElem? (i := 954) (by decide +kernel), List.mem_of_getElem? (i := 1482) (by decide +kernel), List.mem_of_getElem? (i := 1483) (by decide +kernel)⟩
def lw_privs_6 : List (MethodName × Nat) := [(⟨"AlikeStoreModel", "ownParts", "()V"⟩, 24), (⟨"AlikeStoreModel", "budgetsOf", "(JIJ)I"⟩, 24), (⟨"AlikeStoreModel", "costOf", "(JIIJ)I"⟩, 24), (⟨"AlikeStoreModel", "keyAt", "(JI)J"⟩, 24), (⟨"AlikeStoreModel", "isCandidate", "(IJ)Z"⟩, 24), (⟨"AlikeStoreModel", "nearSet", "(JI)J"⟩, 24), (⟨"AlikeStoreModel", "ranks", "(JJ)I"⟩, 24), (⟨"AlikeStoreModel", "isPair", "(IIIJ)Z"⟩, 24), (⟨"AlikeStoreModel", "clusterOf", "(IIJ)J"⟩, 24), (⟨"AlikeStoreModel", "middle", "(J)I"⟩, 24), (⟨"AlikeStoreModel", "onesAt", "(IJ)I"⟩, 24), (⟨"AlikeStoreModel", "isParted", "(I)Z"⟩, 24), (⟨"AlikeStoreModel", "partedBy", "(II)I"⟩, 24)]
theorem lw_r6 : ∀ q ∈ lw_privs_6, lw_okq q := List.forall_mem_cons.mpr ⟨lw_p80, List.forall_mem_cons.mpr ⟨lw_p81, List.forall_mem_cons.mpr ⟨lw_p82, List.forall_mem_cons.mpr ⟨lw_p83, List.forall_mem_cons.mpr ⟨lw_p84, List.forall_mem_cons.mpr ⟨lw_p85, List.forall_mem_cons.mpr ⟨lw_p86, List.forall_mem_cons.mpr ⟨lw_p87, List.forall_mem_cons.mpr ⟨lw_p88, List.forall_mem_cons.mpr ⟨lw_p89, List.forall_mem_cons.mpr ⟨lw_p90, List.forall_mem_cons.mpr ⟨lw_p91, List.forall_mem_cons.mpr ⟨lw_p92, fun _ h => absurd h List.not_mem_nil⟩⟩⟩⟩⟩⟩⟩⟩⟩⟩⟩⟩⟩
def lw_privs : List (MethodName × Nat) := lw_privs_1 ++ (lw_privs_2 ++ (lw_privs_3 ++ (lw_privs_4 ++ (lw_privs_5 ++ (lw_privs_6)))))
def lw_tbl : List Cond := k2_sels lw_privs ++ tables_1
theorem lw_privs_ok : ∀ q ∈ lw_privs, lw_okq q := by
  show ∀ q ∈ lw_privs_1 ++ (lw_privs_2 ++ (lw_privs_3 ++ (lw_privs_4 ++ (lw_privs_5 ++ (lw_privs_6))))), lw_okq q
  exact List.forall_mem_append.mpr ⟨lw_r1, List.forall_mem_append.mpr ⟨lw_r2, List.forall_mem_append.mpr ⟨lw_r3, List.forall_mem_append.mpr ⟨lw_r4, List.forall_mem_append.mpr ⟨lw_r5, lw_r6⟩⟩⟩⟩⟩
-- ===== end of PART A; then your names; then what follows =====
end
section
def RX0 : String := "AlikeStore$Budgets"
def TX0 : u_T := fun k => match k with
  | 0 => ("AlikeStore$Budgets", "breadths", "[I", true)
  | 1 => ("AlikeStore$Budgets", "parts", "I", false)
  | 2 => ("AlikeStore$Budgets", "costs", "[[I", true)
  | 3 => ("AlikeStore$Budgets", "least", "[[I", true)
  | _ => ("AlikeStore$Budgets", "chosen", "[I", true)
def tyX0 : Nat → FieldType := fun k => match k with
  | 0 => .array .int
  | 1 => .int
  | 2 => .array (.array .int)
  | 3 => .array (.array .int)
  | _ => .array .int
abbrev wsX00 : List Cond := u_ws RX0 TX0 5
theorem nmX0 : ∀ a, a < 5 → ∀ b, b < 5 → a ≠ b → (TX0 a).2.1 ≠ (TX0 b).2.1 := by decide +kernel
theorem tyX0_ok : ∀ k, k < 5 → parseFieldDescriptor (TX0 k).2.2.1 = some (tyX0 k) := by decide +kernel
def RX1 : String := "AlikeStore$Filter"
def TX1 : u_T := fun k => match k with
  | 0 => ("AlikeStore$Filter", "kinds", "[I", true)
  | 1 => ("AlikeStore$Filter", "signs", "[I", true)
  | 2 => ("AlikeStore$Filter", "places", "[I", true)
  | 3 => ("AlikeStore$Filter", "bounds", "[I", true)
  | _ => ("AlikeStore$Filter", "froms", "[J", true)
def tyX1 : Nat → FieldType := fun k => match k with
  | 0 => .array .int
  | 1 => .array .int
  | 2 => .array .int
  | 3 => .array .int
  | _ => .array .long
abbrev wsX10 : List Cond := u_ws RX1 TX1 5
theorem nmX1 : ∀ a, a < 5 → ∀ b, b < 5 → a ≠ b → (TX1 a).2.1 ≠ (TX1 b).2.1 := by decide +kernel
theorem tyX1_ok : ∀ k, k < 5 → parseFieldDescriptor (TX1 k).2.2.1 = some (tyX1 k) := by decide +kernel
def RX2 : String := "AlikeStore$History"
def TX2 : u_T := fun k => match k with
  | 0 => ("AlikeStore$History", "acts", "[LAlikeStore$Store;", true)
  | 1 => ("AlikeStore$History", "marks", "[LAlikeStore$Store;", true)
  | 2 => ("AlikeStore$History", "first", "I", false)
  | 3 => ("AlikeStore$History", "kept", "I", false)
  | _ => ("AlikeStore$History", "marked", "I", false)
def tyX2 : Nat → FieldType := fun k => match k with
  | 0 => .array (.object "AlikeStore$Store")
  | 1 => .array (.object "AlikeStore$Store")
  | 2 => .int
  | 3 => .int
  | _ => .int
abbrev wsX20 : List Cond := u_ws RX2 TX2 5
theorem nmX2 : ∀ a, a < 5 → ∀ b, b < 5 → a ≠ b → (TX2 a).2.1 ≠ (TX2 b).2.1 := by decide +kernel
theorem tyX2_ok : ∀ k, k < 5 → parseFieldDescriptor (TX2 k).2.2.1 = some (tyX2 k) := by decide +kernel
def RX3 : String := "AlikeStore$Ranking"
def TX3 : u_T := fun k => match k with
  | 0 => ("AlikeStore$Ranking", "order", "[I", true)
  | 1 => ("AlikeStore$Ranking", "fars", "[I", true)
  | 2 => ("AlikeStore$Ranking", "gaps", "[I", true)
  | _ => ("AlikeStore$Ranking", "size", "I", false)
def tyX3 : Nat → FieldType := fun k => match k with
  | 0 => .array .int
  | 1 => .array .int
  | 2 => .array .int
  | _ => .int
abbrev wsX30 : List Cond := u_ws RX3 TX3 4
theorem nmX3 : ∀ a, a < 4 → ∀ b, b < 4 → a ≠ b → (TX3 a).2.1 ≠ (TX3 b).2.1 := by decide +kernel
theorem tyX3_ok : ∀ k, k < 4 → parseFieldDescriptor (TX3 k).2.2.1 = some (tyX3 k) := by decide +kernel
def RX4 : String := "AlikeStore$Reader"
def TX4 : u_T := fun k => match k with
  | 0 => ("AlikeStore$Reader", "steps", "LAlikeStore$Steps;", true)
  | 1 => ("AlikeStore$Reader", "tape", "LAlikeStore$Tape;", true)
  | 2 => ("AlikeStore$Reader", "store", "LAlikeStore$Store;", true)
  | 3 => ("AlikeStore$Reader", "text", "[B", true)
  | 4 => ("AlikeStore$Reader", "length", "I", false)
  | 5 => ("AlikeStore$Reader", "kind", "I", false)
  | 6 => ("AlikeStore$Reader", "start", "I", false)
  | _ => ("AlikeStore$Reader", "end", "I", false)
def tyX4 : Nat → FieldType := fun k => match k with
  | 0 => .object "AlikeStore$Steps"
  | 1 => .object "AlikeStore$Tape"
  | 2 => .object "AlikeStore$Store"
  | 3 => .array .byte
  | 4 => .int
  | 5 => .int
  | 6 => .int
  | _ => .int
abbrev wsX40 : List Cond := u_ws RX4 TX4 8
theorem nmX4 : ∀ a, a < 8 → ∀ b, b < 8 → a ≠ b → (TX4 a).2.1 ≠ (TX4 b).2.1 := by decide +kernel
theorem tyX4_ok : ∀ k, k < 8 → parseFieldDescriptor (TX4 k).2.2.1 = some (tyX4 k) := by decide +kernel
def RX5 : String := "AlikeStore$Steps"
def TX5 : u_T := fun k => match k with
  | 0 => ("AlikeStore$Steps", "kinds", "[I", true)
  | 1 => ("AlikeStore$Steps", "signs", "[I", true)
  | 2 => ("AlikeStore$Steps", "places", "[I", true)
  | 3 => ("AlikeStore$Steps", "bounds", "[I", true)
  | 4 => ("AlikeStore$Steps", "froms", "[J", true)
  | _ => ("AlikeStore$Steps", "size", "I", false)
def tyX5 : Nat → FieldType := fun k => match k with
  | 0 => .array .int
  | 1 => .array .int
  | 2 => .array .int
  | 3 => .array .int
  | 4 => .array .long
  | _ => .int
abbrev wsX50 : List Cond := u_ws RX5 TX5 6
theorem nmX5 : ∀ a, a < 6 → ∀ b, b < 6 → a ≠ b → (TX5 a).2.1 ≠ (TX5 b).2.1 := by decide +kernel
theorem tyX5_ok : ∀ k, k < 6 → parseFieldDescriptor (TX5 k).2.2.1 = some (tyX5 k) := by decide +kernel
def RX6 : String := "AlikeStore$Store"
def TX6 : u_T := fun k => match k with
  | 0 => ("AlikeStore$Store", "bits", "I", false)
  | 1 => ("AlikeStore$Store", "parts", "I", false)
  | 2 => ("AlikeStore$Store", "breadths", "[I", true)
  | 3 => ("AlikeStore$Store", "size", "I", false)
  | 4 => ("AlikeStore$Store", "codes", "[J", true)
  | 5 => ("AlikeStore$Store", "tags", "[I", true)
  | _ => ("AlikeStore$Store", "filter", "LAlikeStore$Filter;", false)
def tyX6 : Nat → FieldType := fun k => match k with
  | 0 => .int
  | 1 => .int
  | 2 => .array .int
  | 3 => .int
  | 4 => .array .long
  | 5 => .array .int
  | _ => .object "AlikeStore$Filter"
abbrev wsX60 : List Cond := u_ws RX6 TX6 7
theorem nmX6 : ∀ a, a < 7 → ∀ b, b < 7 → a ≠ b → (TX6 a).2.1 ≠ (TX6 b).2.1 := by decide +kernel
theorem tyX6_ok : ∀ k, k < 7 → parseFieldDescriptor (TX6 k).2.2.1 = some (tyX6 k) := by decide +kernel
def RX7 : String := "AlikeStore$Tape"
def TX7 : u_T := fun k => match k with
  | 0 => ("AlikeStore$Tape", "bytes", "[B", true)
  | _ => ("AlikeStore$Tape", "size", "I", false)
def tyX7 : Nat → FieldType := fun k => match k with
  | 0 => .array .byte
  | _ => .int
abbrev wsX70 : List Cond := u_ws RX7 TX7 2
theorem nmX7 : ∀ a, a < 2 → ∀ b, b < 2 → a ≠ b → (TX7 a).2.1 ≠ (TX7 b).2.1 := by decide +kernel
theorem tyX7_ok : ∀ k, k < 2 → parseFieldDescriptor (TX7 k).2.2.1 = some (tyX7 k) := by decide +kernel
def RX8 : String := "AlikeStore"
def TX8 : u_T := fun k => match k with
  | 0 => ("AlikeStore", "store", "LAlikeStore$Store;", true)
  | 1 => ("AlikeStore", "reader", "LAlikeStore$Reader;", true)
  | 2 => ("AlikeStore", "history", "LAlikeStore$History;", true)
  | 3 => ("AlikeStore", "budgets", "LAlikeStore$Budgets;", true)
  | 4 => ("AlikeStore", "ranking", "LAlikeStore$Ranking;", true)
  | 5 => ("AlikeStore", "latest", "I", false)
  | 6 => ("AlikeStore", "faultKind", "I", false)
  | _ => ("AlikeStore", "faultPlace", "I", false)
def tyX8 : Nat → FieldType := fun k => match k with
  | 0 => .object "AlikeStore$Store"
  | 1 => .object "AlikeStore$Reader"
  | 2 => .object "AlikeStore$History"
  | 3 => .object "AlikeStore$Budgets"
  | 4 => .object "AlikeStore$Ranking"
  | 5 => .int
  | 6 => .int
  | _ => .int
abbrev wsX80 : List Cond := u_ws RX8 TX8 8
theorem nmX8 : ∀ a, a < 8 → ∀ b, b < 8 → a ≠ b → (TX8 a).2.1 ≠ (TX8 b).2.1 := by decide +kernel
theorem tyX8_ok : ∀ k, k < 8 → parseFieldDescriptor (TX8 k).2.2.1 = some (tyX8 k) := by decide +kernel
def RX9 : String := "AlikeStoreModel"
def TX9 : u_T := fun k => match k with
  | 0 => ("AlikeStoreModel", "all", "[J", true)
  | 1 => ("AlikeStoreModel", "status", "I", false)
  | 2 => ("AlikeStoreModel", "acts", "I", false)
  | 3 => ("AlikeStoreModel", "marks", "I", false)
  | 4 => ("AlikeStoreModel", "pile", "[J", true)
  | 5 => ("AlikeStoreModel", "tape", "[B", true)
  | 6 => ("AlikeStoreModel", "text", "[B", true)
  | 7 => ("AlikeStoreModel", "taped", "I", false)
  | 8 => ("AlikeStoreModel", "size", "I", false)
  | 9 => ("AlikeStoreModel", "token", "I", false)
  | 10 => ("AlikeStoreModel", "begin", "I", false)
  | 11 => ("AlikeStoreModel", "end", "I", false)
  | 12 => ("AlikeStoreModel", "faults", "I", false)
  | 13 => ("AlikeStoreModel", "faultPlace", "I", false)
  | 14 => ("AlikeStoreModel", "faultKind", "I", false)
  | 15 => ("AlikeStoreModel", "deep", "I", false)
  | 16 => ("AlikeStoreModel", "value", "J", false)
  | 17 => ("AlikeStoreModel", "broad", "[I", true)
  | 18 => ("AlikeStoreModel", "budgets", "[I", true)
  | 19 => ("AlikeStoreModel", "costs", "[[I", true)
  | 20 => ("AlikeStoreModel", "least", "[[I", true)
  | 21 => ("AlikeStoreModel", "broadMany", "I", false)
  | 22 => ("AlikeStoreModel", "rank", "[I", true)
  | _ => ("AlikeStoreModel", "taken", "[I", true)
def tyX9 : Nat → FieldType := fun k => match k with
  | 0 => .array .long
  | 1 => .int
  | 2 => .int
  | 3 => .int
  | 4 => .array .long
  | 5 => .array .byte
  | 6 => .array .byte
  | 7 => .int
  | 8 => .int
  | 9 => .int
  | 10 => .int
  | 11 => .int
  | 12 => .int
  | 13 => .int
  | 14 => .int
  | 15 => .int
  | 16 => .long
  | 17 => .array .int
  | 18 => .array .int
  | 19 => .array (.array .int)
  | 20 => .array (.array .int)
  | 21 => .int
  | 22 => .array .int
  | _ => .array .int
abbrev wsX90 : List Cond := u_ws RX9 TX9 24
theorem nmX9 : ∀ a, a < 24 → ∀ b, b < 24 → a ≠ b → (TX9 a).2.1 ≠ (TX9 b).2.1 := by decide +kernel
theorem tyX9_ok : ∀ k, k < 24 → parseFieldDescriptor (TX9 k).2.2.1 = some (tyX9 k) := by decide +kernel
abbrev vwCl : List vw_C := [(RX0, TX0, 5), (RX1, TX1, 5), (RX2, TX2, 5), (RX3, TX3, 4), (RX4, TX4, 8), (RX5, TX5, 6), (RX6, TX6, 7), (RX7, TX7, 2), (RX8, TX8, 8), (RX9, TX9, 24)]
def ev_ws : List Cond := lw_tbl.filter goodWord
theorem ev_m (i : Nat) {w : Cond} (h : tables_1[i]? = some w) (hg : goodWord w = true) : w ∈ ev_ws := List.mem_filter.mpr ⟨List.mem_append_right _ (List.mem_of_getElem? h), hg⟩
theorem ev_mp (i : Nat) {w : Cond} (h : (k2_sels lw_privs)[i]? = some w) (hg : goodWord w = true) : w ∈ ev_ws := List.mem_filter.mpr ⟨List.mem_append_left _ (List.mem_of_getElem? h), hg⟩
theorem ev_good : ∀ w ∈ ev_ws, ((w.onTables && w.keeps) = true ∨ ∃ ty, w = .arrayClass ty) := fun w h => good_of_word (List.mem_filter.mp h).2
theorem ev_sub {ws : List Cond} (is : List Nat) (h : ws = is.filterMap (fun i => tables_1[i]?)) (hg : ws.all goodWord = true) : ∀ w ∈ ws, w ∈ ev_ws := by
  intro w hw
  refine List.mem_filter.mpr ⟨?_, List.all_eq_true.mp hg w hw⟩
  rw [h] at hw
  obtain ⟨i, -, hi⟩ := List.mem_filterMap.mp hw
  exact List.mem_append_right _ (List.mem_of_getElem? hi)
set_option maxRecDepth 100000 in
theorem ev_cl0 : ∀ w ∈ wsX00, w ∈ ev_ws := ev_sub [205, 207, 209, 211, 213] (by decide +kernel) (by decide +kernel)
set_option maxRecDepth 100000 in
theorem ev_cl1 : ∀ w ∈ wsX10, w ∈ ev_ws := ev_sub [522, 524, 526, 528, 530] (by decide +kernel) (by decide +kernel)
set_option maxRecDepth 100000 in
theorem ev_cl2 : ∀ w ∈ wsX20, w ∈ ev_ws := ev_sub [179, 181, 183, 185, 187] (by decide +kernel) (by decide +kernel)
set_option maxRecDepth 100000 in
theorem ev_cl3 : ∀ w ∈ wsX30, w ∈ ev_ws := ev_sub [228, 230, 232, 234] (by decide +kernel) (by decide +kernel)
set_option maxRecDepth 100000 in
theorem ev_cl4 : ∀ w ∈ wsX40, w ∈ ev_ws := ev_sub [146, 148, 150, 152, 154, 156, 158, 160] (by decide +kernel) (by decide +kernel)
set_option maxRecDepth 100000 in
theorem ev_cl5 : ∀ w ∈ wsX50, w ∈ ev_ws := ev_sub [105, 107, 109, 111, 113, 115] (by decide +kernel) (by decide +kernel)
set_option maxRecDepth 100000 in
theorem ev_cl6 : ∀ w ∈ wsX60, w ∈ ev_ws := ev_sub [63, 65, 67, 69, 71, 73, 75] (by decide +kernel) (by decide +kernel)
set_option maxRecDepth 100000 in
theorem ev_cl7 : ∀ w ∈ wsX70, w ∈ ev_ws := ev_sub [128, 130] (by decide +kernel) (by decide +kernel)
set_option maxRecDepth 100000 in
theorem ev_cl8 : ∀ w ∈ wsX80, w ∈ ev_ws := ev_sub [245, 247, 249, 251, 253, 255, 257, 259] (by decide +kernel) (by decide +kernel)
set_option maxRecDepth 100000 in
theorem ev_cl9 : ∀ w ∈ wsX90, w ∈ ev_ws := ev_sub [1001, 1003, 1005, 1007, 1009, 1011, 1013, 1015, 1017, 1019, 1021, 1023, 1025, 1027, 1029, 1031, 1033, 1035, 1037, 1039, 1041, 1043, 1045, 1047] (by decide +kernel) (by decide +kernel)
end
section
/-! A SMALLER MACHINE over the kit's: cells at numbers from 0 on, locals as a list, 'Ev' says that from a place of a method its end comes, with R of answer and heap. -/
abbrev ev_C : Type := (Nat × vp_A) ⊕ (Nat × List Value)
/-- how many cells, what they hold -/
abbrev ev_H : Type := Nat × (Nat → ev_C)
/-- launch, the heap at the law's start, classes' numbers and slots, array classes, places outside -/
abbrev ev_G : Type := Launch × Heap × va_G × (Nat → ClassId) × (Nat → Nat)
/-- a method: name, code, locals, answer -/
abbrev ev_M : Type := MethodName × ByteArray × Nat × Option FieldType
def ev_big : Nat := 1000000
def ev_ad (G : ev_G) (k : Nat) : Nat := if k < ev_big then G.2.1.size + k else G.2.2.2.2 (k - ev_big)
def ev_tr (G : ev_G) : Value → Value
  | .ref k => .ref (ev_ad G k)
  | v => v
def ev_trE (G : ev_G) : ev_C → va_E
  | .inl (t, n, .inl f) => .inl (G.2.2.2.1 t, n, .inl f)
  | .inl (t, n, .inr (.inl f)) => .inl (G.2.2.2.1 t, n, .inr (.inl f))
  | .inl (t, n, .inr (.inr (.inl f))) => .inl (G.2.2.2.1 t, n, .inr (.inr (.inl f)))
  | .inl (t, n, .inr (.inr (.inr (.inl f)))) => .inl (G.2.2.2.1 t, n, .inr (.inr (.inr (.inl f))))
  | .inl (t, n, .inr (.inr (.inr (.inr g)))) => .inl (G.2.2.2.1 t, n, .inr (.inr (.inr (.inr (fun j => (g j).map (ev_ad G))))))
  | .inr (ci, fs) => .inr (ci, fs.map (ev_tr G))
abbrev oC (ci : Nat) (fs : List Value) : ev_C := .inr (ci, fs)
abbrev aI (n : Nat) (f : Nat → Int32) : ev_C := .inl (0, n, .inl f)
abbrev aL (n : Nat) (f : Nat → Int64) : ev_C := .inl (1, n, .inr (.inl f))
abbrev aB (n : Nat) (f : Nat → Int32) : ev_C := .inl (2, n, .inl f)
abbrev aG (n : Nat) (f : Nat → Option Nat) : ev_C := .inl (3, n, .inr (.inr (.inr (.inr f))))
abbrev aS (n : Nat) (f : Nat → Option Nat) : ev_C := .inl (4, n, .inr (.inr (.inr (.inr f))))
def ev_tys (G : ev_G) : List (ClassId × FieldType) := [(G.2.2.2.1 0, .int), (G.2.2.2.1 1, .long), (G.2.2.2.1 2, .byte), (G.2.2.2.1 3, .array .int), (G.2.2.2.1 4, .object "AlikeStore$Store")]
def hset (h : ev_H) (k : Nat) (c : ev_C) : ev_H := (h.1, fun j => if j = k then c else h.2 j)
def hpush (h : ev_H) (c : ev_C) : ev_H := (h.1 + 1, fun j => if j = h.1 then c else h.2 j)
theorem hset_n (h : ev_H) (k : Nat) (c : ev_C) : (hset h k c).1 = h.1 := rfl
theorem hset_eq (h : ev_H) (k : Nat) (c : ev_C) : (hset h k c).2 k = c := by simp [hset]
theorem hset_ne (h : ev_H) {k j : Nat} (c : ev_C) (hj : j ≠ k) : (hset h k c).2 j = h.2 j := by simp [hset, hj]
theorem hpush_n (h : ev_H) (c : ev_C) : (hpush h c).1 = h.1 + 1 := rfl
theorem hpush_eq (h : ev_H) (c : ev_C) : (hpush h c).2 h.1 = c := by simp [hpush]
theorem hpush_ne (h : ev_H) {j : Nat} (c : ev_C) (hj : j ≠ h.1) : (hpush h c).2 j = h.2 j := by simp [hpush, hj]
/-- the machine's heap is the start's and our cells behind it -/
def ev_Rel (G : ev_G) (h : ev_H) (H : Heap) : Prop := H.size = G.2.1.size + h.1 ∧ h.1 ≤ ev_big ∧ (∀ q, q < G.2.1.size → H[q]? = G.2.1[q]?) ∧ ∀ k, k < h.1 → va_at G.2.2.1 vwCl (G.2.1.size + k, ev_trE G (h.2 k)) H
theorem ev_ad_lt {G : ev_G} {k n : Nat} (h : k < n) (hn : n ≤ ev_big) : ev_ad G k = G.2.1.size + k := if_pos (Nat.lt_of_lt_of_le h hn)
theorem ev_Rel.at {G : ev_G} {h : ev_H} {H : Heap} (r : ev_Rel G h H) {k : Nat} (hk : k < h.1) : va_at G.2.2.1 vwCl (ev_ad G k, ev_trE G (h.2 k)) H := by
  rw [ev_ad_lt hk r.2.1]; exact r.2.2.2 k hk
/-- one cell changed -/
theorem ev_Rel.put {G : ev_G} {h : ev_H} {H H1 : Heap} (r : ev_Rel G h H) {k : Nat} (hk : k < h.1) {c : ev_C} (he : va_at G.2.2.1 vwCl (ev_ad G k, ev_trE G c) H1) (z : H1.size = H.size) (oq : ∀ q, q ≠ ev_ad G k → H1[q]? = H[q]?) : ev_Rel G (hset h k c) H1 := by
  have e := ev_ad_lt (G := G) hk r.2.1
  rw [e] at he oq
  refine ⟨z.trans r.1, r.2.1, fun q hq => (oq q (by omega)).trans (r.2.2.1 q hq), fun j hj => ?_⟩
  by_cases hjk : j = k
  · subst hjk; rw [hset_eq]; exact he
  · rw [hset_ne h c hjk]
    exact (r.2.2.2 j hj).kept (oq _ (by show G.2.1.size + j ≠ _; omega))
/-- one cell more -/
theorem ev_Rel.push {G : ev_G} {h : ev_H} {H H1 : Heap} (r : ev_Rel G h H) (hb : h.1 < ev_big) {c : ev_C} (he : va_at G.2.2.1 vwCl (H.size, ev_trE G c) H1) (z : H1.size = H.size + 1) (oq : ∀ q, q < H.size → H1[q]? = H[q]?) : ev_Rel G (hpush h c) H1 := by
  refine ⟨by rw [z, r.1]; rfl, hb, fun q hq => (oq q (by rw [r.1]; omega)).trans (r.2.2.1 q hq), fun j hj => ?_⟩
  by_cases hjk : j = h.1
  · subst hjk; rw [hpush_eq, ← r.1]; exact he
  · have hj1 : j < h.1 := by have : j < h.1 + 1 := hj; omega
    rw [hpush_ne h c hjk]
    exact (r.2.2.2 j hj1).kept (oq _ (by show G.2.1.size + j < _; rw [r.1]; omega))
/-- no cell of ours, nor of the start's, changed -/
theorem ev_Rel.same {G : ev_G} {h : ev_H} {H H1 : Heap} (r : ev_Rel G h H) (e : H1 = H) : ev_Rel G h H1 := e ▸ r
/-! locals -/
def ev_unk : Value := .retAddr 0
def ev_known : Value → Bool
  | .retAddr _ => false
  | _ => true
def ev_prs (G : ev_G) (ls : List Value) : List (Nat × Value) := (List.range ls.length).filterMap fun i => match ls[i]? with
  | some v => if ev_known v then some (i, ev_tr G v) else none
  | none => none
def ev_L (G : ev_G) (nL : Nat) (A : Array Slot) (ls : List Value) : Prop := lv_has A nL (ev_prs G ls)
theorem ev_prs_in {G : ev_G} {ls : List Value} {q : Nat × Value} : q ∈ ev_prs G ls ↔ ∃ v, ls[q.1]? = some v ∧ ev_known v = true ∧ q.2 = ev_tr G v := by
  unfold ev_prs
  rw [List.mem_filterMap]
  constructor
  · rintro ⟨i, hi, h⟩
    split at h
    · next v hv =>
      split at h
      · next hk => cases h; exact ⟨v, hv, hk, rfl⟩
      · cases h
    · cases h
  · rintro ⟨v, hv, hk, e⟩
    obtain ⟨a, b⟩ := q
    have e : b = ev_tr G v := e
    subst e
    have hv : ls[a]? = some v := hv
    exact ⟨a, List.mem_range.mpr (List.getElem?_eq_some_iff.mp hv).1, by rw [hv]; simp [hk]⟩
theorem ev_L.get {G : ev_G} {nL : Nat} {A : Array Slot} {ls : List Value} (h : ev_L G nL A ls) {i : Nat} {v : Value} (hv : ls[i]? = some v) (hk : ev_known v = true) : A[i]? = some (.val (ev_tr G v)) :=
  h.2.2 (i, ev_tr G v) (ev_prs_in.mpr ⟨v, hv, hk, rfl⟩)
def ev_clr (ls : List Value) : Nat → List Value
  | 0 => ls
  | j + 1 => match ls[j]? with
    | some v => if v.category = 2 then ls.set j ev_unk else ls
    | none => ls
def ev_set1 (ls : List Value) (i : Nat) (v : Value) : List Value := (ev_clr ls i).set i v
def ev_set2 (ls : List Value) (i : Nat) (v : Value) : List Value := ((ev_clr ls i).set i v).set (i + 1) ev_unk
theorem ev_clr_get {ls : List Value} {i j : Nat} {w : Value} (h : (ev_clr ls i)[j]? = some w) (hk : ev_known w = true) : ls[j]? = some w ∧ ¬ (j + 1 = i ∧ w.category = 2) := by
  cases i with
  | zero => exact ⟨h, fun q => by omega⟩
  | succ i =>
    cases hv : ls[i]? with
    | none =>
      have h' : ls[j]? = some w := by simpa [ev_clr, hv] using h
      refine ⟨h', fun q => ?_⟩
      have e : j = i := by omega
      subst e
      rw [hv] at h'; cases h'
    | some v =>
      by_cases hc : v.category = 2
      · have h : (ls.set i ev_unk)[j]? = some w := by simpa [ev_clr, hv, hc] using h
        by_cases e : j = i
        · subst e
          rw [List.getElem?_set_self (List.getElem?_eq_some_iff.mp hv).1] at h
          cases h; exact absurd hk (by decide)
        · rw [List.getElem?_set_ne (fun q => e q.symm)] at h
          exact ⟨h, fun q => e (by omega)⟩
      · have h' : ls[j]? = some w := by simpa [ev_clr, hv, hc] using h
        refine ⟨h', fun q => ?_⟩
        have e : j = i := by omega
        subst e
        rw [hv] at h'; cases h'
        exact hc q.2
theorem ev_cat (G : ev_G) (v : Value) : (ev_tr G v).category = v.category := by cases v <;> rfl
theorem ev_L.set1 {G : ev_G} {nL : Nat} {A : Array Slot} {ls : List Value} (h : ev_L G nL A ls) {i : Nat} {v : Value} (hi : i < nL) (hc : v.category = 1) : ∃ A', storeLocals A i (ev_tr G v) = some A' ∧ ev_L G nL A' (ev_set1 ls i v) := by
  obtain ⟨A', e, h1⟩ := lv_store1 (v := ev_tr G v) h hi ((ev_cat G v).trans hc)
  refine ⟨A', e, h1.1, h1.2.1, fun q hq => h1.2.2 q ?_⟩
  obtain ⟨w, hw, hk, e2⟩ := ev_prs_in.mp hq
  obtain ⟨a, b⟩ := q
  have e2 : b = ev_tr G w := e2
  subst e2
  have hw : (ev_set1 ls i v)[a]? = some w := hw
  unfold ev_set1 at hw
  by_cases ha : a = i
  · subst ha
    have hl := (List.getElem?_eq_some_iff.mp hw).1
    rw [List.length_set] at hl
    rw [List.getElem?_set_self hl] at hw
    cases hw
    exact List.mem_cons_self
  · rw [List.getElem?_set_ne (fun q => ha q.symm)] at hw
    obtain ⟨g1, g2⟩ := ev_clr_get hw hk
    refine List.mem_cons_of_mem _ (List.mem_filter.mpr ⟨ev_prs_in.mpr ⟨w, g1, hk, rfl⟩, ?_⟩)
    simp only [ev_cat, Bool.and_eq_true, Bool.not_eq_true', beq_eq_false_iff_ne, Bool.and_eq_false_iff]
    refine ⟨ha, ?_⟩
    by_cases q1 : a + 1 = i
    · exact Or.inr fun q2 => g2 ⟨q1, q2⟩
    · exact Or.inl q1
theorem ev_L.set2 {G : ev_G} {nL : Nat} {A : Array Slot} {ls : List Value} (h : ev_L G nL A ls) {i : Nat} {v : Value} (hi : i + 1 < nL) (hc : v.category = 2) : ∃ A', storeLocals A i (ev_tr G v) = some A' ∧ ev_L G nL A' (ev_set2 ls i v) := by
  obtain ⟨A', e, h1⟩ := lv_store2 (v := ev_tr G v) h hi ((ev_cat G v).trans hc)
  refine ⟨A', e, h1.1, h1.2.1, fun q hq => h1.2.2 q ?_⟩
  obtain ⟨w, hw, hk, e2⟩ := ev_prs_in.mp hq
  obtain ⟨a, b⟩ := q
  have e2 : b = ev_tr G w := e2
  subst e2
  have hw : (ev_set2 ls i v)[a]? = some w := hw
  unfold ev_set2 at hw
  by_cases ha1 : a = i + 1
  · subst ha1
    have hl := (List.getElem?_eq_some_iff.mp hw).1
    rw [List.length_set] at hl
    rw [List.getElem?_set_self hl] at hw
    cases hw
    exact absurd hk (by decide)
  rw [List.getElem?_set_ne (fun q => ha1 q.symm)] at hw
  by_cases ha : a = i
  · subst ha
    have hl := (List.getElem?_eq_some_iff.mp hw).1
    rw [List.length_set] at hl
    rw [List.getElem?_set_self hl] at hw
    cases hw
    exact List.mem_cons_self
  · rw [List.getElem?_set_ne (fun q => ha q.symm)] at hw
    obtain ⟨g1, g2⟩ := ev_clr_get hw hk
    refine List.mem_cons_of_mem _ (List.mem_filter.mpr ⟨ev_prs_in.mpr ⟨w, g1, hk, rfl⟩, ?_⟩)
    simp only [ev_cat, Bool.and_eq_true, Bool.not_eq_true', beq_eq_false_iff_ne, Bool.and_eq_false_iff]
    refine ⟨ha, ha1, ?_⟩
    by_cases q1 : a + 1 = i
    · exact Or.inr fun q2 => g2 ⟨q1, q2⟩
    · exact Or.inl q1
end
section
/-! what holds at a method's start, and goes along with calls -/
def ev_isNest : Cond → Bool
  | .methodLinkNest _ _ _ _ => true
  | _ => false
def ev_nest : List Cond := tables_1.filter ev_isNest
def ev_strs : List (String × Nat × String) := [("AlikeStore$Reader", 64, "bits"), ("AlikeStore$Reader", 77, "parts"), ("AlikeStore$Reader", 82, "code"), ("AlikeStore$Reader", 87, "filter"), ("AlikeStore$Reader", 92, "<=>[];"), ("AlikeStore$Reader", 135, "tag"), ("AlikeStore$Reader", 156, "or"), ("AlikeStore$Reader", 165, "and"), ("AlikeStore$Reader", 167, "not"), ("AlikeStore$Reader", 180, "ones"), ("AlikeStore$Reader", 182, "number"), ("AlikeStore$Reader", 183, "bit"), ("AlikeStore$Reader", 185, "key"), ("AlikeStore$Reader", 187, "far"), ("AlikeStoreModel", 137, " bits parts code tag filter not and or ones number bit key far ")]
def ev_byt : List (List Int32) := ev_strs.map fun q => q.2.2.toList.map fun c => Int32.ofNat c.toNat
def ev_len : List Nat := ev_byt.map List.length
def ev_K (G : ev_G) (s : State) : Prop := va_K G.2.2.1 vwCl (ev_tys G) s ∧ (∀ w ∈ ev_nest, va_Nw w s) ∧ (va_AO "AlikeStore$Store" s ∧ va_Nw (.arrayOver (.array .int)) s) ∧ (∃ adV : Nat → Nat, vk_S 15 ev_len ev_byt G.2.2.2.2 adV (fun q => G.2.1.size ≤ q) s G.2.1) ∧ ∀ (i : Nat) (q : String × Nat × String), ev_strs[i]? = some q → vk_R q.1 q.2.1 q.2.2 (G.2.2.2.2 i) s
theorem ev_nest_form {w : Cond} (h : w ∈ ev_nest) : ∃ (a : String) (i : Nat) (x : MethodName) (b : String), w = .methodLinkNest a i x b := by
  have h1 := (List.mem_filter.mp h).2
  cases w <;> first | exact ⟨_, _, _, _, rfl⟩ | cases h1
theorem ev_K.warm {G : ev_G} {s U : State} (hW : s.WarmedH U.vm) (h : ev_K G s) : ev_K G U := by
  obtain ⟨h1, h2, h3, ⟨adV, h4⟩, h5⟩ := h
  refine ⟨va_K.moved hW.alike h1, fun w hw => ?_, ⟨va_AO.moved hW.alike h3.1, Jvm.Stand.arrayOver_alikeB hW.alike h3.2⟩, ⟨adV, vk_S.moved hW.alike h4⟩, fun i q hq => vk_R.warm hW (h5 i q hq)⟩
  have hz := h2 w hw
  obtain ⟨a, i, x, b, rfl⟩ := ev_nest_form hw
  exact va_Nw.warmM hW hz
theorem ev_K.same {G : ev_G} {u U : State} (e : U.vm = u.vm) (h : ev_K G u) : ev_K G U := by
  have hA : u.vm.Alike U.vm := by rw [e]; exact Vm.Alike.refl _
  obtain ⟨h1, h2, h3, ⟨adV, h4⟩, h5⟩ := h
  refine ⟨va_K.moved hA h1, fun w hw => ?_, ⟨va_AO.moved hA h3.1, Jvm.Stand.arrayOver_alikeB hA h3.2⟩, ⟨adV, vk_S.moved hA h4⟩, fun i q hq => vk_R.same e (h5 i q hq)⟩
  have hz := h2 w hw
  obtain ⟨a, i, x, b, rfl⟩ := ev_nest_form hw
  exact va_Nw.same rfl e.symm hz
def ev_Cx (G : ev_G) (M : ev_M) (p : Program) (s : State) (m : MethodId) (args : Array Value) (meth : Method) (c : Code) : Prop :=
  p.tables.exec = Jvm.exec ∧ c.code = M.2.1 ∧ c.maxLocals = M.2.2.1 ∧ s.vm.findClass M.1.cls = some m.cls ∧ (∀ w ∈ ev_ws, w.before args s = true) ∧ meth.sig.returnType = M.2.2.2 ∧ meth.locks = false ∧ meth.name = M.1.name ∧ ev_K G s
def ev_ret (M : ev_M) (pc : Nat) (r : Option Value) : Prop :=
  (∃ v : Int32, r = some (.int v) ∧ decode M.2.1 pc = .ok (.ireturn, 1) ∧ ∃ ty, M.2.2.2 = some ty ∧ narrow ty (.int v) = .int v) ∨
  (∃ v : Int64, r = some (.long v) ∧ decode M.2.1 pc = .ok (.lreturn, 1) ∧ M.2.2.2 = some .long) ∨
  (r = none ∧ decode M.2.1 pc = .ok (.return_, 1) ∧ M.2.2.2 = none) ∨
  (∃ a : Nat, r = some (.ref a) ∧ decode M.2.1 pc = .ok (.areturn, 1) ∧ ∃ rt, M.2.2.2 = some rt ∧ ((∃ n, rt = .object n) ∨ ∃ t, rt = .array t))
/-- from this place of the method its end comes, R of answer and heap; at most d frames deep, k cells of n slots new -/
def Ev (G : ev_G) (d k n : Nat) (M : ev_M) (pc : Nat) (ls st : List Value) (h : ev_H) (R : Option Value → ev_H → Prop) : Prop :=
  ∀ (p : Program) (e : Env) (Rm : Room) (s : State) (m : MethodId) (args : Array Value) (below : List Frame) (meth : Method) (c : Code) (Q : State → Prop),
    ev_Cx G M p s m args meth c → d ≤ Rm.frames → 64 * d ≤ Rm.locals →
    (∀ (r : Option Value) (h' : ev_H) (H' : Heap) (locs' : List Loc) (cells' slots' pc' : Nat) (A' : Array Slot), R r h' → ev_Rel G h' H' → (∀ q ∈ locs', G.2.1.size ≤ q.base) → cells' ≤ Rm.cells → slots' ≤ Rm.slots → ev_ret M pc' r → W p G.1 e Rm s m args below meth c H' locs' cells' slots' Q (F0 m pc' A' ((r.map (ev_tr G)).toList))) →
    ∀ (H : Heap) (locs : List Loc) (cells slots : Nat) (A : Array Slot), ev_Rel G h H → (∀ q ∈ locs, G.2.1.size ≤ q.base) → cells + k ≤ Rm.cells → slots + n ≤ Rm.slots → ev_L G M.2.2.1 A ls → W p G.1 e Rm s m args below meth c H locs cells slots Q (F0 m pc A (st.map (ev_tr G)))
section EVR
variable {G : ev_G} {d k n : Nat} {M : ev_M} {pc : Nat} {ls st : List Value} {h : ev_H} {R R' : Option Value → ev_H → Prop}
theorem Ev.mono (hE : Ev G d k n M pc ls st h R) (hR : ∀ r h', R r h' → R' r h') : Ev G d k n M pc ls st h R' :=
  fun p e Rm s m args below meth c Q hx h1 h2 hk H locs cells slots A g1 g2 g3 g4 g5 => hE p e Rm s m args below meth c Q hx h1 h2 (fun r h' H' locs' cells' slots' pc' A' hr => hk r h' H' locs' cells' slots' pc' A' (hR r h' hr)) H locs cells slots A g1 g2 g3 g4 g5
theorem Ev.room {d' k' n' : Nat} (hE : Ev G d k n M pc ls st h R) (hd : d ≤ d') (hk : k ≤ k') (hn : n ≤ n') : Ev G d' k' n' M pc ls st h R :=
  fun p e Rm s m args below meth c Q hx h1 h2 hkk H locs cells slots A g1 g2 g3 g4 g5 => hE p e Rm s m args below meth c Q hx (by omega) (by omega) hkk H locs cells slots A g1 g2 (by omega) (by omega) g5
/-- ends -/
theorem Ev.ret {r : Option Value} (hr : ev_ret M pc r) (hR : R r h) : Ev G d k n M pc ls r.toList h R := by
  intro p e Rm s m args below meth c Q hx h1 h2 hkk H locs cells slots A g1 g2 g3 g4 g5
  have := hkk r h H locs cells slots pc A hR g1 g2 (by omega) (by omega) hr
  cases r <;> exact this
end EVR
/-! plain instructions -/
def ev_ln : Instr → Nat
  | .bipush _ => 2
  | .sipush _ => 3
  | .iload _ => 2
  | .lload _ => 2
  | .aload _ => 2
  | .istore _ => 2
  | .lstore _ => 2
  | .astore _ => 2
  | .iinc _ _ => 3
  | .goto _ => 3
  | _ => 1
def ev_ii (f : Int32 → Int32 → Int32) : List Value → Option (List Value)
  | .int y :: .int x :: r => some (.int (f x y) :: r)
  | _ => none
def ev_ll (f : Int64 → Int64 → Int64) : List Value → Option (List Value)
  | .long y :: .long x :: r => some (.long (f x y) :: r)
  | _ => none
def ev_li (f : Int64 → Int32 → Int64) : List Value → Option (List Value)
  | .int y :: .long x :: r => some (.long (f x y) :: r)
  | _ => none
def ev_i (f : Int32 → Value) : List Value → Option (List Value)
  | .int x :: r => some (f x :: r)
  | _ => none
def ev_l (f : Int64 → Value) : List Value → Option (List Value)
  | .long x :: r => some (f x :: r)
  | _ => none
theorem ev_ii_o {f : Int32 → Int32 → Int32} {st st' : List Value} (h : ev_ii f st = some st') : ∃ x y r, st = .int y :: .int x :: r ∧ st' = .int (f x y) :: r := by
  unfold ev_ii at h; split at h
  · cases h; exact ⟨_, _, _, rfl, rfl⟩
  · cases h
theorem ev_ll_o {f : Int64 → Int64 → Int64} {st st' : List Value} (h : ev_ll f st = some st') : ∃ x y r, st = .long y :: .long x :: r ∧ st' = .long (f x y) :: r := by
  unfold ev_ll at h; split at h
  · cases h; exact ⟨_, _, _, rfl, rfl⟩
  · cases h
theorem ev_li_o {f : Int64 → Int32 → Int64} {st st' : List Value} (h : ev_li f st = some st') : ∃ x y r, st = .int y :: .long x :: r ∧ st' = .long (f x y) :: r := by
  unfold ev_li at h; split at h
  · cases h; exact ⟨_, _, _, rfl, rfl⟩
  · cases h
theorem ev_i_o {f : Int32 → Value} {st st' : List Value} (h : ev_i f st = some st') : ∃ x r, st = .int x :: r ∧ st' = f x :: r := by
  unfold ev_i at h; split at h
  · cases h; exact ⟨_, _, rfl, rfl⟩
  · cases h
theorem ev_l_o {f : Int64 → Value} {st st' : List Value} (h : ev_l f st = some st') : ∃ x r, st = .long x :: r ∧ st' = f x :: r := by
  unfold ev_l at h; split at h
  · cases h; exact ⟨_, _, rfl, rfl⟩
  · cases h
def ev_ldi (ls : List Value) (i : Nat) : Option Value := match ls[i]? with
  | some (.int x) => some (.int x)
  | _ => none
def ev_ldl (ls : List Value) (i : Nat) : Option Value := match ls[i]? with
  | some (.long x) => some (.long x)
  | _ => none
def ev_lda (ls : List Value) (i : Nat) : Option Value := match ls[i]? with
  | some (.ref x) => some (.ref x)
  | some .null => some .null
  | _ => none
theorem ev_ldi_o {ls : List Value} {i : Nat} {v : Value} (h : ev_ldi ls i = some v) : ∃ x, ls[i]? = some (.int x) ∧ v = .int x := by
  unfold ev_ldi at h; split at h
  · next x hx => cases h; exact ⟨_, hx, rfl⟩
  · cases h
theorem ev_ldl_o {ls : List Value} {i : Nat} {v : Value} (h : ev_ldl ls i = some v) : ∃ x, ls[i]? = some (.long x) ∧ v = .long x := by
  unfold ev_ldl at h; split at h
  · next x hx => cases h; exact ⟨_, hx, rfl⟩
  · cases h
theorem ev_lda_o {ls : List Value} {i : Nat} {v : Value} (h : ev_lda ls i = some v) : (∃ x, ls[i]? = some (.ref x) ∧ v = .ref x) ∨ (ls[i]? = some .null ∧ v = .null) := by
  unfold ev_lda at h; split at h
  · next x hx => cases h; exact Or.inl ⟨_, hx, rfl⟩
  · next hx => cases h; exact Or.inr ⟨hx, rfl⟩
  · cases h
def ev_sti (nL : Nat) (ls : List Value) (i : Nat) : List Value → Option (List Value × List Value)
  | .int x :: r => if i < nL then some (ev_set1 ls i (.int x), r) else none
  | _ => none
def ev_stl (nL : Nat) (ls : List Value) (i : Nat) : List Value → Option (List Value × List Value)
  | .long x :: r => if i + 1 < nL then some (ev_set2 ls i (.long x), r) else none
  | _ => none
def ev_sta (nL : Nat) (ls : List Value) (i : Nat) : List Value → Option (List Value × List Value)
  | .ref x :: r => if i < nL then some (ev_set1 ls i (.ref x), r) else none
  | .null :: r => if i < nL then some (ev_set1 ls i .null, r) else none
  | _ => none
theorem ev_sti_o {nL i : Nat} {ls st : List Value} {q : List Value × List Value} (h : ev_sti nL ls i st = some q) : ∃ x r, i < nL ∧ st = .int x :: r ∧ q = (ev_set1 ls i (.int x), r) := by
  unfold ev_sti at h; split at h
  · split at h
    · next hi => cases h; exact ⟨_, _, hi, rfl, rfl⟩
    · cases h
  · cases h
theorem ev_stl_o {nL i : Nat} {ls st : List Value} {q : List Value × List Value} (h : ev_stl nL ls i st = some q) : ∃ x r, i + 1 < nL ∧ st = .long x :: r ∧ q = (ev_set2 ls i (.long x), r) := by
  unfold ev_stl at h; split at h
  · split at h
    · next hi => cases h; exact ⟨_, _, hi, rfl, rfl⟩
    · cases h
  · cases h
theorem ev_sta_o {nL i : Nat} {ls st : List Value} {q : List Value × List Value} (h : ev_sta nL ls i st = some q) : (∃ x r, i < nL ∧ st = .ref x :: r ∧ q = (ev_set1 ls i (.ref x), r)) ∨ (∃ r, i < nL ∧ st = .null :: r ∧ q = (ev_set1 ls i .null, r)) := by
  unfold ev_sta at h; split at h
  · split at h
    · next hi => cases h; exact Or.inl ⟨_, _, hi, rfl, rfl⟩
    · cases h
  · split at h
    · next hi => cases h; exact Or.inr ⟨_, hi, rfl, rfl⟩
    · cases h
  · cases h
abbrev ev_push (pc len : Nat) (ls : List Value) (st : Option (List Value)) : Option (Nat × List Value × List Value) := st.map fun q => (pc + len, ls, q)
abbrev ev_stor (pc len : Nat) (q : Option (List Value × List Value)) : Option (Nat × List Value × List Value) := q.map fun q => (pc + len, q.1, q.2)
/-- a plain instruction: where it goes on, locals, stack -/
def ev_stp (nL : Nat) (i : Instr) (pc : Nat) (ls st : List Value) : Option (Nat × List Value × List Value) := match i with
  | .iconst v => some (pc + 1, ls, .int (Int32.ofInt v) :: st)
  | .bipush v => some (pc + 2, ls, .int (Int8.ofInt v).toInt32 :: st)
  | .sipush v => some (pc + 3, ls, .int (Int16.ofInt v).toInt32 :: st)
  | .lconst v => some (pc + 1, ls, .long (Int64.ofNat v.val) :: st)
  | .aconst_null => some (pc + 1, ls, .null :: st)
  | .iload j => ev_push pc 2 ls ((ev_ldi ls j).map (· :: st))
  | .iload_n j => ev_push pc 1 ls ((ev_ldi ls j.val).map (· :: st))
  | .lload j => ev_push pc 2 ls ((ev_ldl ls j).map (· :: st))
  | .lload_n j => ev_push pc 1 ls ((ev_ldl ls j.val).map (· :: st))
  | .aload j => ev_push pc 2 ls ((ev_lda ls j).map (· :: st))
  | .aload_n j => ev_push pc 1 ls ((ev_lda ls j.val).map (· :: st))
  | .istore j => ev_stor pc 2 (ev_sti nL ls j st)
  | .istore_n j => ev_stor pc 1 (ev_sti nL ls j.val st)
  | .lstore j => ev_stor pc 2 (ev_stl nL ls j st)
  | .lstore_n j => ev_stor pc 1 (ev_stl nL ls j.val st)
  | .astore j => ev_stor pc 2 (ev_sta nL ls j st)
  | .astore_n j => ev_stor pc 1 (ev_sta nL ls j.val st)
  | .iinc j v => match ls[j]? with
    | some (.int x) => if j < nL then some (pc + 3, ev_set1 ls j (.int (x + Int32.ofInt v)), st) else none
    | _ => none
  | .iadd => ev_push pc 1 ls (ev_ii (fun x y => x + y) st)
  | .isub => ev_push pc 1 ls (ev_ii (fun x y => x - y) st)
  | .imul => ev_push pc 1 ls (ev_ii (fun x y => x * y) st)
  | .iand => ev_push pc 1 ls (ev_ii (fun x y => x &&& y) st)
  | .ior => ev_push pc 1 ls (ev_ii (fun x y => x ||| y) st)
  | .ixor => ev_push pc 1 ls (ev_ii (fun x y => x ^^^ y) st)
  | .ishl => ev_push pc 1 ls (ev_ii (fun x y => x <<< (y &&& 31)) st)
  | .ishr => ev_push pc 1 ls (ev_ii (fun x y => x >>> (y &&& 31)) st)
  | .iushr => ev_push pc 1 ls (ev_ii (fun x y => (x.toUInt32 >>> (y.toUInt32 &&& Int32.toUInt32 31)).toInt32) st)
  | .ladd => ev_push pc 1 ls (ev_ll (fun x y => x + y) st)
  | .lsub => ev_push pc 1 ls (ev_ll (fun x y => x - y) st)
  | .lmul => ev_push pc 1 ls (ev_ll (fun x y => x * y) st)
  | .land => ev_push pc 1 ls (ev_ll (fun x y => x &&& y) st)
  | .lor => ev_push pc 1 ls (ev_ll (fun x y => x ||| y) st)
  | .lxor => ev_push pc 1 ls (ev_ll (fun x y => x ^^^ y) st)
  | .lshl => ev_push pc 1 ls (ev_li (fun x y => x <<< (y.toInt64 &&& 63)) st)
  | .lshr => ev_push pc 1 ls (ev_li (fun x y => x >>> (y.toInt64 &&& 63)) st)
  | .lushr => ev_push pc 1 ls (ev_li (fun x y => (x.toUInt64 >>> (y.toInt64.toUInt64 &&& Int64.toUInt64 63)).toInt64) st)
  | .ineg => ev_push pc 1 ls (ev_i (fun x => .int (-x)) st)
  | .lneg => ev_push pc 1 ls (ev_l (fun x => .long (-x)) st)
  | .i2l => ev_push pc 1 ls (ev_i (fun x => .long x.toInt64) st)
  | .l2i => ev_push pc 1 ls (ev_l (fun x => .int x.toInt32) st)
  | .i2b => ev_push pc 1 ls (ev_i (fun x => .int x.toInt8.toInt32) st)
  | .i2c => ev_push pc 1 ls (ev_i (fun x => .int (x.toUInt32 % 65536).toInt32) st)
  | .lcmp => match st with
    | .long y :: .long x :: r => some (pc + 1, ls, .int (lg_cmp x y) :: r)
    | _ => none
  | .dup => match st with
    | v :: r => if v.category = 1 then some (pc + 1, ls, v :: v :: r) else none
    | _ => none
  | .pop => match st with
    | v :: r => if v.category = 1 then some (pc + 1, ls, r) else none
    | _ => none
  | .dup2 => match st with
    | v :: w :: r => if v.category = 1 ∧ w.category = 1 then some (pc + 1, ls, v :: w :: v :: w :: r) else none
    | _ => none
  | .goto off => if 0 ≤ (pc : Int) + off then some (((pc : Int) + off).toNat, ls, st) else none
  | _ => none
end
section
section EVS
variable {G : ev_G} {d k n : Nat} {M : ev_M} {pc : Nat} {ls st : List Value} {h : ev_H} {R : Option Value → ev_H → Prop}
theorem ev_ln_le (i : Instr) {nL pc pc' : Nat} {ls st ls' st' : List Value} (h : ev_stp nL i pc ls st = some (pc', ls', st')) : True := trivial
/-- a plain instruction, as a step of the machine -/
theorem ev_one {i : Instr} {pc' : Nat} {ls' st' : List Value} (hd : decode M.2.1 pc = .ok (i, ev_ln i)) (hs : ev_stp M.2.2.1 i pc ls st = some (pc', ls', st'))
    {p : Program} {e : Env} {Rm : Room} {s : State} {m : MethodId} {args : Array Value} {below : List Frame} {meth : Method} {c : Code} {Q : State → Prop} {H : Heap} {locs : List Loc} {cells slots : Nat} {A : Array Slot}
    (hx : p.tables.exec = Jvm.exec) (hb : c.code = M.2.1) (hL : ev_L G M.2.2.1 A ls)
    (kk : ∀ A', ev_L G M.2.2.1 A' ls' → W p G.1 e Rm s m args below meth c H locs cells slots Q (F0 m pc' A' (st'.map (ev_tr G)))) :
    W p G.1 e Rm s m args below meth c H locs cells slots Q (F0 m pc A (st.map (ev_tr G))) := by
  cases i <;> simp only [ev_stp] at hs
  all_goals first | cases hs; done | skip
  case iconst v => cases hs; exact lv_iconst hx hb hd rfl (kk A hL)
  case bipush v => cases hs; exact lv_bipush hx hb hd rfl (kk A hL)
  case sipush v => cases hs; exact lv_sipush hx hb hd rfl (kk A hL)
  case lconst v => cases hs; exact lv_lconst hx hb hd rfl (kk A hL)
  case aconst_null => cases hs; exact lv_null hx hb hd (kk A hL)
  case iload j =>
    obtain ⟨q, hq, e⟩ := Option.map_eq_some_iff.mp hs
    obtain ⟨v, hv, e2⟩ := Option.map_eq_some_iff.mp hq
    obtain ⟨x, hx2, rfl⟩ := ev_ldi_o hv
    cases e; cases e2
    exact lv_iload hx hb hd (hL.get hx2 rfl) (kk A hL)
  case iload_n j =>
    obtain ⟨q, hq, e⟩ := Option.map_eq_some_iff.mp hs
    obtain ⟨v, hv, e2⟩ := Option.map_eq_some_iff.mp hq
    obtain ⟨x, hx2, rfl⟩ := ev_ldi_o hv
    cases e; cases e2
    exact lv_iload_n hx hb hd rfl (hL.get hx2 rfl) (kk A hL)
  case lload j =>
    obtain ⟨q, hq, e⟩ := Option.map_eq_some_iff.mp hs
    obtain ⟨v, hv, e2⟩ := Option.map_eq_some_iff.mp hq
    obtain ⟨x, hx2, rfl⟩ := ev_ldl_o hv
    cases e; cases e2
    exact lv_lload hx hb hd (hL.get hx2 rfl) (kk A hL)
  case lload_n j =>
    obtain ⟨q, hq, e⟩ := Option.map_eq_some_iff.mp hs
    obtain ⟨v, hv, e2⟩ := Option.map_eq_some_iff.mp hq
    obtain ⟨x, hx2, rfl⟩ := ev_ldl_o hv
    cases e; cases e2
    exact lv_lload_n hx hb hd rfl (hL.get hx2 rfl) (kk A hL)
  case aload j =>
    obtain ⟨q, hq, e⟩ := Option.map_eq_some_iff.mp hs
    obtain ⟨v, hv, e2⟩ := Option.map_eq_some_iff.mp hq
    rcases ev_lda_o hv with ⟨x, hx2, rfl⟩ | ⟨hx2, rfl⟩
    · cases e; cases e2
      exact lv_aload hx hb hd (hL.get hx2 rfl) (kk A hL)
    · cases e; cases e2
      exact lv_aloadN hx hb hd (hL.get hx2 rfl) (kk A hL)
  case aload_n j =>
    obtain ⟨q, hq, e⟩ := Option.map_eq_some_iff.mp hs
    obtain ⟨v, hv, e2⟩ := Option.map_eq_some_iff.mp hq
    rcases ev_lda_o hv with ⟨x, hx2, rfl⟩ | ⟨hx2, rfl⟩
    · cases e; cases e2
      exact lv_aload_n hx hb hd rfl (hL.get hx2 rfl) (kk A hL)
    · cases e; cases e2
      exact lv_aload_nN hx hb hd rfl (hL.get hx2 rfl) (kk A hL)
  case istore j =>
    obtain ⟨q, hq, e⟩ := Option.map_eq_some_iff.mp hs
    obtain ⟨x, r, hj, rfl, rfl⟩ := ev_sti_o hq
    cases e
    obtain ⟨A', e', h'⟩ := hL.set1 (v := .int x) hj rfl
    intro T hT X
    obtain ⟨t, a, b⟩ := kk A' h' T hT X
    refine ⟨t, ?_, b⟩
    have e' : storeLocals A j (.int x) = some A' := e'
    show Steps p.tables e below (T.setTop (F0 m pc A (.int x :: r.map (ev_tr G)))) t
    jvm_step X.here [X.here.top, ↓top_set X.here.top, hx, hb, hd, e', ev_ln]
    exact a
  case istore_n j =>
    obtain ⟨q, hq, e⟩ := Option.map_eq_some_iff.mp hs
    obtain ⟨x, r, hj, rfl, rfl⟩ := ev_sti_o hq
    cases e
    obtain ⟨A', e', h'⟩ := hL.set1 (v := .int x) hj rfl
    intro T hT X
    obtain ⟨t, a, b⟩ := kk A' h' T hT X
    refine ⟨t, ?_, b⟩
    have e' : storeLocals A j.val (.int x) = some A' := e'
    show Steps p.tables e below (T.setTop (F0 m pc A (.int x :: r.map (ev_tr G)))) t
    jvm_step X.here [X.here.top, ↓top_set X.here.top, hx, hb, hd, e', ev_ln]
    exact a
  case lstore j =>
    obtain ⟨q, hq, e⟩ := Option.map_eq_some_iff.mp hs
    obtain ⟨x, r, hj, rfl, rfl⟩ := ev_stl_o hq
    cases e
    obtain ⟨A', e', h'⟩ := hL.set2 (v := .long x) hj rfl
    intro T hT X
    obtain ⟨t, a, b⟩ := kk A' h' T hT X
    refine ⟨t, ?_, b⟩
    have e' : storeLocals A j (.long x) = some A' := e'
    show Steps p.tables e below (T.setTop (F0 m pc A (.long x :: r.map (ev_tr G)))) t
    jvm_step X.here [X.here.top, ↓top_set X.here.top, hx, hb, hd, e', ev_ln]
    exact a
  case lstore_n j =>
    obtain ⟨q, hq, e⟩ := Option.map_eq_some_iff.mp hs
    obtain ⟨x, r, hj, rfl, rfl⟩ := ev_stl_o hq
    cases e
    obtain ⟨A', e', h'⟩ := hL.set2 (v := .long x) hj rfl
    intro T hT X
    obtain ⟨t, a, b⟩ := kk A' h' T hT X
    refine ⟨t, ?_, b⟩
    have e' : storeLocals A j.val (.long x) = some A' := e'
    show Steps p.tables e below (T.setTop (F0 m pc A (.long x :: r.map (ev_tr G)))) t
    jvm_step X.here [X.here.top, ↓top_set X.here.top, hx, hb, hd, e', ev_ln]
    exact a
  case astore j =>
    obtain ⟨q, hq, e⟩ := Option.map_eq_some_iff.mp hs
    rcases ev_sta_o hq with ⟨x, r, hj, rfl, rfl⟩ | ⟨r, hj, rfl, rfl⟩
    · cases e
      obtain ⟨A', e', h'⟩ := hL.set1 (v := .ref x) hj rfl
      intro T hT X
      obtain ⟨t, a, b⟩ := kk A' h' T hT X
      refine ⟨t, ?_, b⟩
      have e' : storeLocals A j (.ref (ev_ad G x)) = some A' := e'
      show Steps p.tables e below (T.setTop (F0 m pc A (.ref (ev_ad G x) :: r.map (ev_tr G)))) t
      jvm_step X.here [X.here.top, ↓top_set X.here.top, hx, hb, hd, e', ev_ln]
      exact ⟨rfl, a⟩
    · cases e
      obtain ⟨A', e', h'⟩ := hL.set1 (v := .null) hj rfl
      intro T hT X
      obtain ⟨t, a, b⟩ := kk A' h' T hT X
      refine ⟨t, ?_, b⟩
      have e' : storeLocals A j .null = some A' := e'
      show Steps p.tables e below (T.setTop (F0 m pc A (.null :: r.map (ev_tr G)))) t
      jvm_step X.here [X.here.top, ↓top_set X.here.top, hx, hb, hd, e', ev_ln]
      exact ⟨rfl, a⟩
  case astore_n j =>
    obtain ⟨q, hq, e⟩ := Option.map_eq_some_iff.mp hs
    rcases ev_sta_o hq with ⟨x, r, hj, rfl, rfl⟩ | ⟨r, hj, rfl, rfl⟩
    · cases e
      obtain ⟨A', e', h'⟩ := hL.set1 (v := .ref x) hj rfl
      intro T hT X
      obtain ⟨t, a, b⟩ := kk A' h' T hT X
      refine ⟨t, ?_, b⟩
      have e' : storeLocals A j.val (.ref (ev_ad G x)) = some A' := e'
      show Steps p.tables e below (T.setTop (F0 m pc A (.ref (ev_ad G x) :: r.map (ev_tr G)))) t
      jvm_step X.here [X.here.top, ↓top_set X.here.top, hx, hb, hd, e', ev_ln]
      exact ⟨rfl, a⟩
    · cases e
      obtain ⟨A', e', h'⟩ := hL.set1 (v := .null) hj rfl
      intro T hT X
      obtain ⟨t, a, b⟩ := kk A' h' T hT X
      refine ⟨t, ?_, b⟩
      have e' : storeLocals A j.val .null = some A' := e'
      show Steps p.tables e below (T.setTop (F0 m pc A (.null :: r.map (ev_tr G)))) t
      jvm_step X.here [X.here.top, ↓top_set X.here.top, hx, hb, hd, e', ev_ln]
      exact ⟨rfl, a⟩
  case iinc j v =>
    split at hs
    · next x hv =>
      split at hs
      · next hj =>
        cases hs
        have hg : A[j]? = some (.val (.int x)) := hL.get hv rfl
        obtain ⟨A', e', h'⟩ := hL.set1 (v := .int (x + Int32.ofInt v)) hj rfl
        intro T hT X
        obtain ⟨t, a, b⟩ := kk A' h' T hT X
        refine ⟨t, ?_, b⟩
        have e' : storeLocals A j (.int (x + Int32.ofInt v)) = some A' := e'
        jvm_step X.here [X.here.top, ↓top_set X.here.top, hx, hb, hd, hg, e', ev_ln]
        exact a
      · cases hs
    · cases hs
  case iadd => obtain ⟨q, hq, e⟩ := Option.map_eq_some_iff.mp hs; obtain ⟨x, y, r, rfl, rfl⟩ := ev_ii_o hq; cases e; exact lv_iadd hx hb hd (kk A hL)
  case isub => obtain ⟨q, hq, e⟩ := Option.map_eq_some_iff.mp hs; obtain ⟨x, y, r, rfl, rfl⟩ := ev_ii_o hq; cases e; exact lv_isub hx hb hd (kk A hL)
  case imul => obtain ⟨q, hq, e⟩ := Option.map_eq_some_iff.mp hs; obtain ⟨x, y, r, rfl, rfl⟩ := ev_ii_o hq; cases e; exact lv_imul hx hb hd (kk A hL)
  case iand => obtain ⟨q, hq, e⟩ := Option.map_eq_some_iff.mp hs; obtain ⟨x, y, r, rfl, rfl⟩ := ev_ii_o hq; cases e; exact lv_iand hx hb hd (kk A hL)
  case ior => obtain ⟨q, hq, e⟩ := Option.map_eq_some_iff.mp hs; obtain ⟨x, y, r, rfl, rfl⟩ := ev_ii_o hq; cases e; exact lv_ior hx hb hd (kk A hL)
  case ixor => obtain ⟨q, hq, e⟩ := Option.map_eq_some_iff.mp hs; obtain ⟨x, y, r, rfl, rfl⟩ := ev_ii_o hq; cases e; exact lv_ixor hx hb hd (kk A hL)
  case ishl => obtain ⟨q, hq, e⟩ := Option.map_eq_some_iff.mp hs; obtain ⟨x, y, r, rfl, rfl⟩ := ev_ii_o hq; cases e; exact lv_ishl hx hb hd (kk A hL)
  case ishr => obtain ⟨q, hq, e⟩ := Option.map_eq_some_iff.mp hs; obtain ⟨x, y, r, rfl, rfl⟩ := ev_ii_o hq; cases e; exact lv_ishr hx hb hd (kk A hL)
  case iushr => obtain ⟨q, hq, e⟩ := Option.map_eq_some_iff.mp hs; obtain ⟨x, y, r, rfl, rfl⟩ := ev_ii_o hq; cases e; exact lv_iushr hx hb hd rfl (kk A hL)
  case ladd => obtain ⟨q, hq, e⟩ := Option.map_eq_some_iff.mp hs; obtain ⟨x, y, r, rfl, rfl⟩ := ev_ll_o hq; cases e; exact lv_ladd hx hb hd (kk A hL)
  case lsub => obtain ⟨q, hq, e⟩ := Option.map_eq_some_iff.mp hs; obtain ⟨x, y, r, rfl, rfl⟩ := ev_ll_o hq; cases e; exact lv_lsub hx hb hd (kk A hL)
  case lmul => obtain ⟨q, hq, e⟩ := Option.map_eq_some_iff.mp hs; obtain ⟨x, y, r, rfl, rfl⟩ := ev_ll_o hq; cases e; exact lv_lmul hx hb hd (kk A hL)
  case land => obtain ⟨q, hq, e⟩ := Option.map_eq_some_iff.mp hs; obtain ⟨x, y, r, rfl, rfl⟩ := ev_ll_o hq; cases e; exact lv_land hx hb hd (kk A hL)
  case lor => obtain ⟨q, hq, e⟩ := Option.map_eq_some_iff.mp hs; obtain ⟨x, y, r, rfl, rfl⟩ := ev_ll_o hq; cases e; exact lv_lor hx hb hd (kk A hL)
  case lxor => obtain ⟨q, hq, e⟩ := Option.map_eq_some_iff.mp hs; obtain ⟨x, y, r, rfl, rfl⟩ := ev_ll_o hq; cases e; exact lv_lxor hx hb hd (kk A hL)
  case lshl => obtain ⟨q, hq, e⟩ := Option.map_eq_some_iff.mp hs; obtain ⟨x, y, r, rfl, rfl⟩ := ev_li_o hq; cases e; exact lv_lshl hx hb hd rfl (kk A hL)
  case lshr => obtain ⟨q, hq, e⟩ := Option.map_eq_some_iff.mp hs; obtain ⟨x, y, r, rfl, rfl⟩ := ev_li_o hq; cases e; exact lv_lshr hx hb hd rfl (kk A hL)
  case lushr => obtain ⟨q, hq, e⟩ := Option.map_eq_some_iff.mp hs; obtain ⟨x, y, r, rfl, rfl⟩ := ev_li_o hq; cases e; exact lv_lushr hx hb hd rfl (kk A hL)
  case ineg => obtain ⟨q, hq, e⟩ := Option.map_eq_some_iff.mp hs; obtain ⟨x, r, rfl, rfl⟩ := ev_i_o hq; cases e; exact lv_ineg hx hb hd (kk A hL)
  case lneg => obtain ⟨q, hq, e⟩ := Option.map_eq_some_iff.mp hs; obtain ⟨x, r, rfl, rfl⟩ := ev_l_o hq; cases e; exact lv_lneg hx hb hd (kk A hL)
  case i2l => obtain ⟨q, hq, e⟩ := Option.map_eq_some_iff.mp hs; obtain ⟨x, r, rfl, rfl⟩ := ev_i_o hq; cases e; exact lv_i2l hx hb hd rfl (kk A hL)
  case l2i => obtain ⟨q, hq, e⟩ := Option.map_eq_some_iff.mp hs; obtain ⟨x, r, rfl, rfl⟩ := ev_l_o hq; cases e; exact lv_l2i hx hb hd rfl (kk A hL)
  case i2b => obtain ⟨q, hq, e⟩ := Option.map_eq_some_iff.mp hs; obtain ⟨x, r, rfl, rfl⟩ := ev_i_o hq; cases e; exact lv_i2b hx hb hd rfl (kk A hL)
  case i2c => obtain ⟨q, hq, e⟩ := Option.map_eq_some_iff.mp hs; obtain ⟨x, r, rfl, rfl⟩ := ev_i_o hq; cases e; exact lv_i2c hx hb hd rfl (kk A hL)
  case lcmp =>
    split at hs
    · cases hs; exact W.lcmp hx hb hd (kk A hL)
    · cases hs
  case dup =>
    split at hs
    · next v r =>
      split at hs
      · next hc => cases hs; exact lv_dup hx hb hd ((ev_cat G v).trans hc) (kk A hL)
      · cases hs
    · cases hs
  case pop =>
    split at hs
    · next v r =>
      split at hs
      · next hc => cases hs; exact lv_pop hx hb hd ((ev_cat G v).trans hc) (kk A hL)
      · cases hs
    · cases hs
  case dup2 =>
    split at hs
    · next v w r =>
      split at hs
      · next hc => cases hs; exact lv_dup2_11 hx hb hd ((ev_cat G v).trans hc.1) ((ev_cat G w).trans hc.2) (kk A hL)
      · cases hs
    · cases hs
  case goto off =>
    split at hs
    · next ho => cases hs; exact lv_goto hx hb hd (Int.toNat_of_nonneg ho).symm (kk A hL)
    · cases hs
theorem Ev.one {i : Instr} {pc' : Nat} {ls' st' : List Value} (hd : decode M.2.1 pc = .ok (i, ev_ln i)) (hs : ev_stp M.2.2.1 i pc ls st = some (pc', ls', st')) (hE : Ev G d k n M pc' ls' st' h R) : Ev G d k n M pc ls st h R := by
  intro p e Rm s m args below meth c Q hx h1 h2 hkk H locs cells slots A g1 g2 g3 g4 g5
  exact ev_one hd hs hx.1 hx.2.1 g5 (fun A' hA' => hE p e Rm s m args below meth c Q hx h1 h2 hkk H locs cells slots A' g1 g2 g3 g4 hA')
/-- several -/
def ev_go (nL : Nat) : List Instr → Nat → List Value → List Value → Option (Nat × List Value × List Value)
  | [], pc, ls, st => some (pc, ls, st)
  | i :: is, pc, ls, st => match ev_stp nL i pc ls st with
    | some (pc', ls', st') => ev_go nL is pc' ls' st'
    | none => none
def ev_nx (i : Instr) (pc : Nat) : Nat := match i with
  | .goto off => ((pc : Int) + off).toNat
  | _ => pc + ev_ln i
def ev_dec (b : ByteArray) : List Instr → Nat → Bool
  | [], _ => true
  | i :: is, pc => decide (decode b pc = .ok (i, ev_ln i)) && ev_dec b is (ev_nx i pc)
theorem ev_nx_ok {nL : Nat} {i : Instr} {pc pc' : Nat} {ls st ls' st' : List Value} (hs : ev_stp nL i pc ls st = some (pc', ls', st')) : pc' = ev_nx i pc := by
  cases i <;> simp only [ev_stp] at hs
  all_goals first | cases hs; done | skip
  all_goals first
    | (cases hs; rfl)
    | (obtain ⟨q, hq, e⟩ := Option.map_eq_some_iff.mp hs; cases e; rfl)
    | (split at hs <;> first | (cases hs; rfl) | (cases hs; done) | (split at hs <;> first | (cases hs; rfl) | (cases hs; done)))
theorem Ev.go : ∀ (is : List Instr) {pc pc' : Nat} {ls st ls' st' : List Value}, ev_dec M.2.1 is pc = true → ev_go M.2.2.1 is pc ls st = some (pc', ls', st') → Ev G d k n M pc' ls' st' h R → Ev G d k n M pc ls st h R
  | [], pc, pc', ls, st, ls', st', _, hg, hE => by
    simp only [ev_go] at hg; cases hg; exact hE
  | i :: is, pc, pc', ls, st, ls', st', hd, hg, hE => by
    simp only [ev_dec, Bool.and_eq_true, decide_eq_true_eq] at hd
    simp only [ev_go] at hg
    split at hg
    · next p1 l1 s1 h1 =>
      have e := ev_nx_ok h1
      rw [← e] at hd
      exact Ev.one hd.1 h1 (Ev.go is hd.2 hg hE)
    · cases hg
/-- a branch: the condition, where it goes if it holds, if not, the stack -/
def ev_cnd (i : Instr) (pc : Nat) (st : List Value) : Option (Prop × Int × Int × List Value) := match i with
  | .ifCond .eq o => match st with
    | .int x :: r => some (x = 0, pc + o, pc + 3, r)
    | _ => none
  | .ifCond .ne o => match st with
    | .int x :: r => some (x = 0, pc + 3, pc + o, r)
    | _ => none
  | .ifCond .lt o => match st with
    | .int x :: r => some (x < 0, pc + o, pc + 3, r)
    | _ => none
  | .ifCond .ge o => match st with
    | .int x :: r => some (x < 0, pc + 3, pc + o, r)
    | _ => none
  | .ifCond .gt o => match st with
    | .int x :: r => some (0 < x, pc + o, pc + 3, r)
    | _ => none
  | .ifCond .le o => match st with
    | .int x :: r => some (0 < x, pc + 3, pc + o, r)
    | _ => none
  | .if_icmp .eq o => match st with
    | .int y :: .int x :: r => some (x = y, pc + o, pc + 3, r)
    | _ => none
  | .if_icmp .ne o => match st with
    | .int y :: .int x :: r => some (x = y, pc + 3, pc + o, r)
    | _ => none
  | .if_icmp .lt o => match st with
    | .int y :: .int x :: r => some (x < y, pc + o, pc + 3, r)
    | _ => none
  | .if_icmp .ge o => match st with
    | .int y :: .int x :: r => some (x < y, pc + 3, pc + o, r)
    | _ => none
  | .if_icmp .gt o => match st with
    | .int y :: .int x :: r => some (y < x, pc + o, pc + 3, r)
    | _ => none
  | .if_icmp .le o => match st with
    | .int y :: .int x :: r => some (y < x, pc + 3, pc + o, r)
    | _ => none
  | _ => none
theorem Ev.br {i : Instr} {P : Prop} {t f : Nat} {r : List Value} (hd : decode M.2.1 pc = .ok (i, 3)) (hs : ev_cnd i pc st = some (P, (t : Int), (f : Int), r)) (ht : P → Ev G d k n M t ls r h R) (hf : ¬ P → Ev G d k n M f ls r h R) : Ev G d k n M pc ls st h R := by
  intro p e Rm s m args below meth c Q hx h1 h2 hkk H locs cells slots A g1 g2 g3 g4 g5
  have kt := fun q => ht q p e Rm s m args below meth c Q hx h1 h2 hkk H locs cells slots A g1 g2 g3 g4 g5
  have kf := fun q => hf q p e Rm s m args below meth c Q hx h1 h2 hkk H locs cells slots A g1 g2 g3 g4 g5
  have p3 : ∀ {a : Nat}, (pc : Int) + 3 = a → pc + 3 = a := fun h => by omega
  cases i <;> simp only [ev_cnd] at hs
  all_goals first | cases hs; done | skip
  case ifCond cd o =>
    cases cd <;> simp only at hs <;> split at hs <;> first | (cases hs; done) | skip
    all_goals
      injection hs with hs
      injection hs with hP hs
      injection hs with h3 hs
      injection hs with h4 h5
      subst hP
      subst h5
    · have := p3 h4; subst this; exact lv_if_eq hx.1 hx.2.1 hd h3 kt kf
    · have := p3 h3; subst this; exact lv_if_ne hx.1 hx.2.1 hd h4 kf kt
    · have := p3 h4; subst this; exact lv_if_lt hx.1 hx.2.1 hd h3 kt kf
    · have := p3 h3; subst this; exact lv_if_ge hx.1 hx.2.1 hd h4 (fun q => kf (Int32.not_lt.mpr q)) (fun q => kt (Int32.not_le.mp q))
    · have := p3 h4; subst this; exact lv_if_gt hx.1 hx.2.1 hd h3 kt kf
    · have := p3 h3; subst this; exact lv_if_le hx.1 hx.2.1 hd h4 (fun q => kf (Int32.not_lt.mpr q)) (fun q => kt (Int32.not_le.mp q))
  case if_icmp cd o =>
    cases cd <;> simp only at hs <;> split at hs <;> first | (cases hs; done) | skip
    all_goals
      injection hs with hs
      injection hs with hP hs
      injection hs with h3 hs
      injection hs with h4 h5
      subst hP
      subst h5
    · have := p3 h4; subst this; exact lv_icmp_eq hx.1 hx.2.1 hd h3 kt kf
    · have := p3 h3; subst this; exact lv_icmp_ne hx.1 hx.2.1 hd h4 kf kt
    · have := p3 h4; subst this; exact lv_icmp_lt hx.1 hx.2.1 hd h3 kt kf
    · have := p3 h3; subst this; exact lv_icmp_ge hx.1 hx.2.1 hd h4 (fun q => kf (Int32.not_lt.mpr q)) (fun q => kt (Int32.not_le.mp q))
    · have := p3 h4; subst this; exact lv_icmp_gt hx.1 hx.2.1 hd h3 kt kf
    · have := p3 h3; subst this; exact lv_icmp_le hx.1 hx.2.1 hd h4 (fun q => kf (Int32.not_lt.mpr q)) (fun q => kt (Int32.not_le.mp q))
end EVS
end
section
/-! fields and arrays -/
def hat (h : ev_H) (a : Nat) (c : ev_C) : Prop := a < h.1 ∧ h.2 a = c
theorem hat_set {h : ev_H} {a : Nat} {c c' : ev_C} (H : hat h a c) : hat (hset h a c') a c' := ⟨H.1, hset_eq h a c'⟩
theorem hat_ne {h : ev_H} {a b : Nat} {c c' : ev_C} (H : hat h a c) (hb : a ≠ b) : hat (hset h b c') a c := ⟨H.1, (hset_ne h c' hb).trans H.2⟩
theorem hat_pushed (h : ev_H) (c : ev_C) : hat (hpush h c) h.1 c := ⟨Nat.lt_succ_self _, hpush_eq h c⟩
theorem hat_push {h : ev_H} {a : Nat} {c c' : ev_C} (H : hat h a c) : hat (hpush h c') a c := ⟨Nat.lt_succ_of_lt H.1, (hpush_ne h c' (Nat.ne_of_lt H.1)).trans H.2⟩
/-- what the tables say of a class -/
def ev_cls (ci : Nat) (r : vw_C) (ty : Nat → FieldType) : Prop := vwCl[ci]? = some r ∧ (∀ w ∈ u_ws r.1 r.2.1 r.2.2, w ∈ ev_ws) ∧ (∀ a, a < r.2.2 → ∀ b, b < r.2.2 → a ≠ b → (r.2.1 a).2.1 ≠ (r.2.1 b).2.1) ∧ ∀ k, k < r.2.2 → parseFieldDescriptor (r.2.1 k).2.2.1 = some (ty k)
/-- a field as a method of class own names it -/
def ev_fld (own : String) (idx ci k : Nat) (ty : FieldType) (fin : Bool) : Prop := ∃ (r : vw_C) (tyf : Nat → FieldType), ev_cls ci r tyf ∧ k < r.2.2 ∧ tyf k = ty ∧ (r.2.1 k).2.2.2 = fin ∧ (r.2.1 k).1 = r.1 ∧ Cond.fieldLink own idx (r.2.1 k).1 (r.2.1 k).2.1 (r.2.1 k).2.2.1 ∈ ev_ws
def ev_fit : FieldType → Value → Bool
  | .int, .int _ => true
  | .long, .long _ => true
  | .array _, .ref _ => true
  | .array _, .null => true
  | .object _, .ref _ => true
  | .object _, .null => true
  | _, _ => false
theorem ev_fit_ok {G : ev_G} {ty : FieldType} {v : Value} (h : ev_fit ty v = true) : narrow ty (ev_tr G v) = ev_tr G v ∧ fits ty (ev_tr G v) = true := by
  cases ty <;> cases v <;> first | (cases h; done) | exact ⟨rfl, rfl⟩
section EVH
variable {G : ev_G} {d k n : Nat} {M : ev_M} {pc : Nat} {ls st : List Value} {h : ev_H} {R : Option Value → ev_H → Prop}
theorem ev_tr_get {G : ev_G} {fs : List Value} {k : Nat} {v : Value} (h : fs[k]? = some v) : (fs.map (ev_tr G))[k]? = some (ev_tr G v) := by rw [List.getElem?_map, h]; rfl
theorem Ev.getf {idx ci kf a : Nat} {ty : FieldType} {fin : Bool} {fs rest : List Value} {v : Value} (hF : ev_fld M.1.cls idx ci kf ty fin) (hd : decode M.2.1 pc = .ok (.getfield idx, 3)) (hc : hat h a (oC ci fs)) (hv : fs[kf]? = some v) (hE : Ev G d k n M (pc + 3) ls (v :: rest) h R) : Ev G d k n M pc ls (.ref a :: rest) h R := by
  intro p e Rm s m args below meth c Q hx h1 h2 hkk H locs cells slots A g1 g2 g3 g4 g5
  obtain ⟨⟨C, T, N⟩, tyf, ⟨hcl, hin, hnm, hty⟩, hk, rfl, hfin, hdec, hlink⟩ := hF
  have hat' := g1.at hc.1
  rw [hc.2] at hat'
  have kk := hE p e Rm s m args below meth c Q hx h1 h2 hkk H locs cells slots A g1 g2 g3 g4 g5
  obtain ⟨hexec, hb, hml, hown, hts, -, -, -, hK⟩ := hx
  refine va_get (C := C) (T := T) (N := N) (ws := [(ev_ad G a, ev_trE G (oC ci fs))]) hexec hb hts hin hown hK.1 (fun k q hk => ?_) 0 rfl hcl kf hk (hts _ hlink) (fun _ h9 => h9) (ev_tr_get hv) hd kk
  cases k with
  | zero => cases hk; exact hat'
  | succ k => cases hk
theorem ev_locs {G : ev_G} {locs : List Loc} {a i : Nat} (h : ∀ q ∈ locs, G.2.1.size ≤ q.base) (ha : G.2.1.size ≤ a) : ∀ q ∈ locs ++ [(⟨a, i⟩ : Loc)], G.2.1.size ≤ q.base := by
  intro q hq
  rcases List.mem_append.mp hq with h1 | h1
  · exact h q h1
  · rw [List.mem_singleton.mp h1]; exact ha
theorem ev_ad_ge {G : ev_G} {a n : Nat} (h : a < n) (hn : n ≤ ev_big) : G.2.1.size ≤ ev_ad G a := by rw [ev_ad_lt h hn]; omega
theorem ev_put_at {G : ev_G} {s : State} {args : Array Value} {H1 : Heap} {C : String} {T : u_T} {N ci kf a : Nat} {tyf : Nat → FieldType} {fs : List Value} {v : Value} {cell : Cell} (hts : ∀ w ∈ ev_ws, w.before args s = true) (hin : ∀ w ∈ u_ws C T N, w ∈ ev_ws) (hty : ∀ k, k < N → parseFieldDescriptor (T k).2.2.1 = some (tyf k)) (hnm : ∀ a, a < N → ∀ b, b < N → a ≠ b → (T a).2.1 ≠ (T b).2.1) (hK : va_K G.2.2.1 vwCl (ev_tys G) s) (hc : vwCl[ci]? = some (C, T, N)) (hk : kf < N) (hl : kf < fs.length)
    (q2 : cell.cls = G.2.2.1.1 ci) (q3 : cell.vm = .none) (q4 : ∀ k, k < N → cell.slots[G.2.2.1.2 ci k]? = some (vp_V (fs.map (ev_tr G)) k)) (e1 : H1[a]? = some (cell.setSlot (G.2.2.1.2 ci kf) (ev_tr G v))) : va_at G.2.2.1 vwCl (a, ev_trE G (oC ci (fs.set kf v))) H1 := by
  refine ⟨_, hc, ?_⟩
  have hap := va_apart (own := C) hts hin tyf hty hnm hK hc
  refine t_OB.to (V := updV (vp_V (fs.map (ev_tr G))) kf (ev_tr G v)) ⟨_, e1, q2, q3, t_set q4 hap hk (ev_tr G v)⟩ (fun j _ => ?_)
  rw [List.map_set]
  exact vp_updV_set (by rw [List.length_map]; exact hl) (ev_tr G v) j
/-- putfield: a field that isn't final, or one's own in the constructor -/
theorem Ev.putf {idx ci kf a : Nat} {ty : FieldType} {fin : Bool} {fs rest : List Value} {v : Value} (hF : ev_fld M.1.cls idx ci kf ty fin) (hd : decode M.2.1 pc = .ok (.putfield idx, 3)) (hc : hat h a (oC ci fs)) (hl : kf < fs.length) (hfit : ev_fit ty v = true) (hfin : fin = true → M.1.name = "<init>" ∧ ∃ r, vwCl[ci]? = some r ∧ r.1 = M.1.cls) (hE : Ev G d k n M (pc + 3) ls rest (hset h a (oC ci (fs.set kf v))) R) : Ev G d k n M pc ls (v :: .ref a :: rest) h R := by
  intro p e Rm s m args below meth c Q hx h1 h2 hkk H locs cells slots A g1 g2 g3 g4 g5
  obtain ⟨⟨C, T, N⟩, tyf, ⟨hcl, hin, hnm, hty⟩, hk, rfl, hfn, hdec, hlink⟩ := hF
  have hx0 := hx
  have hat' := g1.at hc.1
  rw [hc.2] at hat'
  obtain ⟨r', hr', cell, q1, q2, q3, q4⟩ := hat'
  have hr : r' = (C, T, N) := Option.some.inj (hr'.symm.trans hcl)
  subst hr
  obtain ⟨hexec, hb, hml, hown, hts, -, -, hname, hK⟩ := hx
  obtain ⟨hS, hfc, kC, hkC, hkind⟩ := hK.1.1 ci _ hcl
  obtain ⟨cf, kf', fi, f, hi, hsl⟩ := hS kf hk
  have hst := (u_facts hfc hkC (u_lays hts hin hk) hi).1
  obtain ⟨hn1, hn2⟩ := ev_fit_ok (G := G) hfit
  have hin' : kf < (fs.map (ev_tr G)).length := by rw [List.length_map]; exact hl
  have goal : ∀ H' : Heap, H'[ev_ad G a]? = some (cell.setSlot f.slot (ev_tr G v)) → H'.size = H.size → (∀ q, q ≠ ev_ad G a → H'[q]? = H[q]?) → W p G.1 e Rm s m args below meth c H' (locs ++ [⟨ev_ad G a, f.slot⟩]) cells slots Q (F0 m (pc + 3) A (rest.map (ev_tr G))) := by
    intro H' e1 e2 e3
    rw [hsl] at e1
    exact hE p e Rm s m args below meth c Q hx0 h1 h2 hkk H' _ cells slots A (g1.put hc.1 (ev_put_at hts hin hty hnm hK.1 hcl hk hl q2 q3 q4 e1) e2 e3) (ev_locs g2 (ev_ad_ge hc.1 g1.2.1)) g3 g4 g5
  cases fin with
  | false =>
    have hlay := hts _ (hin _ (u_in_lay hk))
    unfold u_lay at hlay
    rw [if_neg (by rw [hfn]; decide)] at hlay
    have h6 := u_store hfc hkC hkind hlay hi (hty kf hk) hn1 hn2
    exact W.putK hexec hb (f := f) ⟨hown, hts _ hlink, ⟨_, _, _, hi⟩, hst⟩ (by rw [q2]; exact h6) q1 q3 (by rw [hsl]; exact k2_hasslot (q4 kf hk)) rfl rfl hd goal
  | true =>
    obtain ⟨hnm1, r2, hr2, hr3⟩ := hfin rfl
    rw [hcl] at hr2; cases hr2
    have hlay := hts _ (hin _ (u_in_lay hk))
    unfold u_lay at hlay
    rw [if_pos hfn] at hlay
    have hcf : m.cls = cf := by
      obtain ⟨_, _, c', _, _, _, -, -, hf', -, -, -, hown2, -⟩ := Cond.laysFinal_spec hlay
      have e1 : c' = cf := by have := hi.symm.trans hf'; simp at this; exact this.1.symm
      rw [hdec] at hown2
      have hr3 : C = M.1.cls := hr3
      rw [← e1]; exact Option.some.inj (hown.symm.trans (by rw [← hr3]; exact hown2))
    have h6 := u_fits hfc hkC hkind (Or.inr hlay) hi (hty kf hk) hn1 hn2
    exact W.putFinK hexec hb hown (hts _ hlink) hi hst hcf (hname.trans hnm1) (by rw [q2]; exact h6) q1 q3 (by rw [hsl]; exact k2_hasslot (q4 kf hk)) rfl rfl hd goal
/-- an index within -/
def ev_ix (i : Int32) (j n : Nat) : Prop := i = nI j ∧ j < n ∧ n < 2147483648
theorem ev_ix.in {i : Int32} {j n : Nat} (h : ev_ix i j n) : vp_in i n ∧ i.toNatClampNeg = j := by
  obtain ⟨rfl, h1, h2⟩ := h
  exact ⟨vp_in_nI h1 (by omega), nI_clamp (by omega)⟩
theorem ev_at0 {D : va_G} {cl : List vw_C} {q : Nat × va_E} {H : Heap} (h : va_at D cl q H) : va_P D cl [q] H := by
  intro k q' hk
  cases k with
  | zero => cases hk; exact h
  | succ k => cases hk
theorem Ev.iald {a j N : Nat} {f : Nat → Int32} {i : Int32} {rest : List Value} (hd : decode M.2.1 pc = .ok (.iaload, 1)) (hc : hat h a (aI N f)) (hi : ev_ix i j N) (hE : Ev G d k n M (pc + 1) ls (.int (f j) :: rest) h R) : Ev G d k n M pc ls (.int i :: .ref a :: rest) h R := by
  intro p e Rm s m args below meth c Q hx h1 h2 hkk H locs cells slots A g1 g2 g3 g4 g5
  have hat' := g1.at hc.1
  rw [hc.2] at hat'
  obtain ⟨hin, e'⟩ := hi.in
  refine va_iald hx.1 hx.2.1 hx.2.2.2.2.2.2.2.2.1 (ev_at0 hat') 0 0 rfl rfl hin hd ?_
  rw [e']
  exact hE p e Rm s m args below meth c Q hx h1 h2 hkk H locs cells slots A g1 g2 g3 g4 g5
theorem Ev.lald {a j N : Nat} {f : Nat → Int64} {i : Int32} {rest : List Value} (hd : decode M.2.1 pc = .ok (.laload, 1)) (hc : hat h a (aL N f)) (hi : ev_ix i j N) (hE : Ev G d k n M (pc + 1) ls (.long (f j) :: rest) h R) : Ev G d k n M pc ls (.int i :: .ref a :: rest) h R := by
  intro p e Rm s m args below meth c Q hx h1 h2 hkk H locs cells slots A g1 g2 g3 g4 g5
  have hat' := g1.at hc.1
  rw [hc.2] at hat'
  obtain ⟨hin, e'⟩ := hi.in
  refine va_lald hx.1 hx.2.1 hx.2.2.2.2.2.2.2.2.1 (ev_at0 hat') 0 1 rfl rfl hin hd ?_
  rw [e']
  exact hE p e Rm s m args below meth c Q hx h1 h2 hkk H locs cells slots A g1 g2 g3 g4 g5
theorem Ev.bald {a j N : Nat} {f : Nat → Int32} {i : Int32} {rest : List Value} (hd : decode M.2.1 pc = .ok (.baload, 1)) (hc : hat h a (aB N f)) (hi : ev_ix i j N) (hE : Ev G d k n M (pc + 1) ls (.int (f j) :: rest) h R) : Ev G d k n M pc ls (.int i :: .ref a :: rest) h R := by
  intro p e Rm s m args below meth c Q hx h1 h2 hkk H locs cells slots A g1 g2 g3 g4 g5
  have hat' := g1.at hc.1
  rw [hc.2] at hat'
  obtain ⟨hin, e'⟩ := hi.in
  refine va_bald hx.1 hx.2.1 hx.2.2.2.2.2.2.2.2.1 (ev_at0 hat') 0 2 rfl rfl hin hd ?_
  rw [e']
  exact hE p e Rm s m args below meth c Q hx h1 h2 hkk H locs cells slots A g1 g2 g3 g4 g5
theorem Ev.sald {a j N b : Nat} {f : Nat → Option Nat} {i : Int32} {rest : List Value} (hd : decode M.2.1 pc = .ok (.aaload, 1)) (hc : hat h a (aS N f)) (hi : ev_ix i j N) (hf : f j = some b) (hE : Ev G d k n M (pc + 1) ls (.ref b :: rest) h R) : Ev G d k n M pc ls (.int i :: .ref a :: rest) h R := by
  intro p e Rm s m args below meth c Q hx h1 h2 hkk H locs cells slots A g1 g2 g3 g4 g5
  have hat' := g1.at hc.1
  rw [hc.2] at hat'
  obtain ⟨hin, e'⟩ := hi.in
  refine va_aldq hx.1 hx.2.1 hx.2.2.2.2.2.2.2.2.1 (ev_at0 hat') 0 4 rfl rfl hin hd ?_
  rw [e', hf]
  exact hE p e Rm s m args below meth c Q hx h1 h2 hkk H locs cells slots A g1 g2 g3 g4 g5
theorem Ev.gald {a j N b : Nat} {f : Nat → Option Nat} {i : Int32} {rest : List Value} (hd : decode M.2.1 pc = .ok (.aaload, 1)) (hc : hat h a (aG N f)) (hi : ev_ix i j N) (hf : f j = some b) (hE : Ev G d k n M (pc + 1) ls (.ref b :: rest) h R) : Ev G d k n M pc ls (.int i :: .ref a :: rest) h R := by
  intro p e Rm s m args below meth c Q hx h1 h2 hkk H locs cells slots A g1 g2 g3 g4 g5
  have hat' := g1.at hc.1
  rw [hc.2] at hat'
  obtain ⟨hin, e'⟩ := hi.in
  have hlt : i.toNatClampNeg < N := by rw [e']; exact hi.2.1
  refine W.aald (v := .ref (ev_ad G b)) (ty := .array .int) hx.1 hx.2.1 hat' ((hx.2.2.2.2.2.2.2.2.1.2 3 _ rfl).1 N (fun j => va_rf ((f j).map (ev_ad G)))) rfl (fun q => by cases q) (by show ¬ (i < 0 ∨ (arrV _ _ _).slots.size ≤ _); rw [arrV_size]; exact hin) (by show (arrV _ _ _).slots[_]? = _; rw [arrV_read _ _ hlt, e']; show some (va_rf ((f j).map (ev_ad G))) = _; rw [hf]; rfl) rfl rfl hd ?_
  exact hE p e Rm s m args below meth c Q hx h1 h2 hkk H locs cells slots A g1 g2 g3 g4 g5
theorem Ev.alen {a t N : Nat} {x : (Nat → Int32) ⊕ (Nat → Int64) ⊕ (Nat → UInt32) ⊕ (Nat → UInt64) ⊕ (Nat → Option Nat)} {rest : List Value} (hd : decode M.2.1 pc = .ok (.arraylength, 1)) (hc : hat h a (.inl (t, N, x))) (ht : t < 5) (hE : Ev G d k n M (pc + 1) ls (.int (nI N) :: rest) h R) : Ev G d k n M pc ls (.ref a :: rest) h R := by
  intro p e Rm s m args below meth c Q hx h1 h2 hkk H locs cells slots A g1 g2 g3 g4 g5
  have hat' := g1.at hc.1
  rw [hc.2] at hat'
  have hty : ∃ ty, (ev_tys G)[t]? = some (G.2.2.2.1 t, ty) := by
    match t, ht with
    | 0, _ => exact ⟨_, rfl⟩
    | 1, _ => exact ⟨_, rfl⟩
    | 2, _ => exact ⟨_, rfl⟩
    | 3, _ => exact ⟨_, rfl⟩
    | 4, _ => exact ⟨_, rfl⟩
  obtain ⟨ty, hty⟩ := hty
  have kk := hE p e Rm s m args below meth c Q hx h1 h2 hkk H locs cells slots A g1 g2 g3 g4 g5
  rcases x with f | f | f | f | f
  all_goals exact va_alen hx.1 hx.2.1 hx.2.2.2.2.2.2.2.2.1 (ev_at0 hat') 0 t rfl hty rfl hd kk
theorem Ev.iast {a j N : Nat} {f : Nat → Int32} {i x : Int32} {rest : List Value} (hd : decode M.2.1 pc = .ok (.iastore, 1)) (hc : hat h a (aI N f)) (hi : ev_ix i j N) (hE : Ev G d k n M (pc + 1) ls rest (hset h a (aI N (upd f j x))) R) : Ev G d k n M pc ls (.int x :: .int i :: .ref a :: rest) h R := by
  intro p e Rm s m args below meth c Q hx h1 h2 hkk H locs cells slots A g1 g2 g3 g4 g5
  have hat' := g1.at hc.1
  rw [hc.2] at hat'
  obtain ⟨hin, e'⟩ := hi.in
  refine W.iast hx.1 hx.2.1 (cell := vp_cell (G.2.2.2.1 0) (N, .inl f)) hat' ((hx.2.2.2.2.2.2.2.2.1.2 0 _ rfl).1 N (fun j => .int (f j))) (fun q => by cases q) (by show ¬ (i < 0 ∨ (arrV _ _ _).slots.size ≤ _); rw [arrV_size]; exact hin) rfl rfl hd fun H1 e1 z oq => ?_
  refine hE p e Rm s m args below meth c Q hx h1 h2 hkk H1 _ cells slots A (g1.put hc.1 ?_ z oq) (ev_locs g2 (ev_ad_ge hc.1 g1.2.1)) g3 g4 g5
  show H1[ev_ad G a]? = some (vp_cell _ _)
  rw [e1, vp_cell_i, vp_cell_i, arrV_store, e']
  congr 2
  funext q
  by_cases hq : q = j
  · subst hq; simp [updV, upd]
  · simp [updV, upd, hq]
theorem Ev.bast {a j N : Nat} {f : Nat → Int32} {i x : Int32} {rest : List Value} (hd : decode M.2.1 pc = .ok (.bastore, 1)) (hc : hat h a (aB N f)) (hi : ev_ix i j N) (hE : Ev G d k n M (pc + 1) ls rest (hset h a (aB N (upd f j (vp_nar .byte x)))) R) : Ev G d k n M pc ls (.int x :: .int i :: .ref a :: rest) h R := by
  intro p e Rm s m args below meth c Q hx h1 h2 hkk H locs cells slots A g1 g2 g3 g4 g5
  have hat' := g1.at hc.1
  rw [hc.2] at hat'
  obtain ⟨hin, e'⟩ := hi.in
  refine W.bast hx.1 hx.2.1 (cell := vp_cell (G.2.2.2.1 2) (N, .inl f)) hat' ((hx.2.2.2.2.2.2.2.2.1.2 2 _ rfl).1 N (fun j => .int (f j))) (fun q => by cases q) (by show ¬ (i < 0 ∨ (arrV _ _ _).slots.size ≤ _); rw [arrV_size]; exact hin) rfl rfl hd fun H1 e1 z oq => ?_
  refine hE p e Rm s m args below meth c Q hx h1 h2 hkk H1 _ cells slots A (g1.put hc.1 ?_ z oq) (ev_locs g2 (ev_ad_ge hc.1 g1.2.1)) g3 g4 g5
  show H1[ev_ad G a]? = some (vp_cell _ _)
  rw [e1, vp_cell_i, vp_cell_i, arrV_store, e']
  congr 2
  funext q
  by_cases hq : q = j
  · subst hq; simp [updV, upd, vp_nar]; try rfl
  · simp [updV, upd, hq]
theorem Ev.last {a j N : Nat} {f : Nat → Int64} {i : Int32} {x : Int64} {rest : List Value} (hd : decode M.2.1 pc = .ok (.lastore, 1)) (hc : hat h a (aL N f)) (hi : ev_ix i j N) (hE : Ev G d k n M (pc + 1) ls rest (hset h a (aL N (vp_updL f j x))) R) : Ev G d k n M pc ls (.long x :: .int i :: .ref a :: rest) h R := by
  intro p e Rm s m args below meth c Q hx h1 h2 hkk H locs cells slots A g1 g2 g3 g4 g5
  have hat' := g1.at hc.1
  rw [hc.2] at hat'
  obtain ⟨hin, e'⟩ := hi.in
  refine W.last hx.1 hx.2.1 (cell := vp_cell (G.2.2.2.1 1) (N, .inr (.inl f))) hat' ((hx.2.2.2.2.2.2.2.2.1.2 1 _ rfl).1 N (fun j => .long (f j))) (fun q => by cases q) (by show ¬ (i < 0 ∨ (arrV _ _ _).slots.size ≤ _); rw [arrV_size]; exact hin) rfl rfl hd fun H1 e1 z oq => ?_
  refine hE p e Rm s m args below meth c Q hx h1 h2 hkk H1 _ cells slots A (g1.put hc.1 ?_ z oq) (ev_locs g2 (ev_ad_ge hc.1 g1.2.1)) g3 g4 g5
  show H1[ev_ad G a]? = some (vp_cell _ _)
  rw [e1, vp_cell_l, vp_cell_l, arrV_store, e']
  congr 2
  funext q
  by_cases hq : q = j
  · subst hq; simp [updV, vp_updL]
  · simp [updV, vp_updL, hq]
end EVH
end
section
/-! calls -/
def ev_flat (as : List Value) : List Value := as.flatMap fun v => if v.category = 2 then [v, ev_unk] else [v]
/-- the locals with which a method begins -/
def ev_ent (nL : Nat) (as : List Value) : List Value := ev_flat as ++ List.replicate (nL - (ev_flat as).length) ev_unk
theorem ev_flat_in {G : ev_G} : ∀ (as : List Value) (off i : Nat) (v : Value), (ev_flat as)[i]? = some v → ev_known v = true → (off + i, ev_tr G v) ∈ lv_args off (as.map (ev_tr G))
  | [], off, i, v, h, _ => by simp [ev_flat] at h
  | w :: as, off, i, v, h, hk => by
    have ih := ev_flat_in (G := G) as
    have e : ev_flat (w :: as) = (if w.category = 2 then [w, ev_unk] else [w]) ++ ev_flat as := by simp [ev_flat]
    rw [e] at h
    rw [List.map_cons, lv_args, ev_cat]
    by_cases hc : w.category = 2
    · rw [if_pos hc] at h ⊢
      match i, h with
      | 0, h => simp at h; subst h; exact List.mem_cons_self
      | 1, h => simp at h; subst h; exact absurd hk (by decide)
      | i + 2, h =>
        refine List.mem_cons_of_mem _ ?_
        have := ih (off + 2) i v (by simpa using h) hk
        rwa [show off + (i + 2) = off + 2 + i by omega]
    · rw [if_neg hc] at h ⊢
      match i, h with
      | 0, h => simp at h; subst h; exact List.mem_cons_self
      | i + 1, h =>
        refine List.mem_cons_of_mem _ ?_
        have := ih (off + 1) i v (by simpa using h) hk
        rwa [show off + (i + 1) = off + 1 + i by omega]
theorem ev_sl_len {G : ev_G} : ∀ as : List Value, (lg_sl (as.map (ev_tr G))).length = (ev_flat as).length
  | [] => rfl
  | w :: as => by
    have ih := ev_sl_len (G := G) as
    have e : ev_flat (w :: as) = (if w.category = 2 then [w, ev_unk] else [w]) ++ ev_flat as := by simp [ev_flat]
    have e2 : lg_sl ((w :: as).map (ev_tr G)) = (if (ev_tr G w).category = 2 then [.val (ev_tr G w), .second] else [.val (ev_tr G w)]) ++ lg_sl (as.map (ev_tr G)) := by simp [lg_sl]
    rw [e, e2, List.length_append, List.length_append, ih, ev_cat]
    by_cases hc : w.category = 2 <;> simp [hc]
theorem ev_ent_L {G : ev_G} {nL : Nat} {as : List Value} (h : (ev_flat as).length ≤ nL) : ev_L G nL ((lg_sl (as.map (ev_tr G)) ++ List.replicate (nL - (lg_sl (as.map (ev_tr G))).length) Slot.unset).toArray) (ev_ent nL as) := by
  have hl := lv_entry (as.map (ev_tr G)) (n := nL) (by rw [ev_sl_len]; exact h)
  refine ⟨hl.1, hl.2.1, fun q hq => hl.2.2 q ?_⟩
  obtain ⟨v, hv, hk, e⟩ := ev_prs_in.mp hq
  obtain ⟨a, b⟩ := q
  have e : b = ev_tr G v := e
  subst e
  have hv : (ev_ent nL as)[a]? = some v := hv
  unfold ev_ent at hv
  by_cases ha : a < (ev_flat as).length
  · rw [List.getElem?_append_left ha] at hv
    have := ev_flat_in (G := G) as 0 a v hv hk
    rwa [Nat.zero_add] at this
  · rw [List.getElem?_append_right (by omega), List.getElem?_replicate] at hv
    split at hv
    · cases hv; exact absurd hk (by decide)
    · cases hv
/-- a method as the tables have it, of n arguments beside its object -/
def ev_ok (M : ev_M) (na : Nat) : Prop := Cond.code M.1 M.2.1 M.2.2.1 M.2.2.2 ∈ ev_ws ∧ Cond.initialized M.1.cls ∈ ev_ws ∧ plainName M.1.cls = true ∧ (M.1.cls ≠ "java/lang/invoke/MethodHandle" ∧ M.1.cls ≠ "java/lang/invoke/VarHandle") ∧ (parseMethodDescriptor M.1.desc).map (fun d => d.parameters.length) = some na ∧ M.2.2.1 ≤ 45
def ev_Pc (G : ev_G) (as : List Value) (h : ev_H) : Array Value → State → Prop := fun v U => v = (as.map (ev_tr G)).toArray ∧ ev_Rel G h U.heap ∧ ev_K G U
def ev_Qc (G : ev_G) (R : Option Value → ev_H → Prop) : Array Value → State → Outcome → State → Prop := fun _ _ o t => ∃ r h', o = .returned (r.map (ev_tr G)) ∧ R r h' ∧ ev_Rel G h' t.heap
def ev_rm (d k n : Nat) : Room := { frames := d, cells := k, slots := n, locals := 64 * d }
theorem ev_met {G : ev_G} {d k n : Nat} {M : ev_M} {as : List Value} {h : ev_H} {R : Option Value → ev_H → Prop} (hp : plainName M.1.cls = true) (hf : (ev_flat as).length ≤ M.2.2.1) (hE : Ev G d k n M 0 (ev_ent M.2.2.1 as) [] h R) :
    Met G.1 M.1 (Cond.code M.1 M.2.1 M.2.2.1 M.2.2.2 :: ev_ws) (ev_rm d k n) (ev_Pc G as h) (ev_Qc G R) k n (fun q => G.2.1.size ≤ q) := by
  refine Met.ofW (cc := M.2.1) (maxL := M.2.2.1) (ret := M.2.2.2) hp rfl ?_
  intro p e s m args below meth c s₁ B hml hv
  obtain ⟨rfl, hrel, hK⟩ := hv
  have hts0 := atoms_spec (ws := Cond.code M.1 M.2.1 M.2.2.1 M.2.2.2 :: ev_ws) B.pre
  have hx : ev_Cx G M p s m (as.map (ev_tr G)).toArray meth c := ⟨B.exec, B.bytes, hml, findClass_of_methodNamed B.named, fun w hw => hts0 w (List.mem_cons_of_mem _ hw), B.returns, B.notSynchronized, (name_of_methodNamed B.named B.method).1, hK⟩
  rw [lg_entry_eq]
  refine hE p e _ s m _ below meth c _ hx (Nat.le_refl _) (Nat.le_refl _) ?_ s.heap [] 0 0 _ hrel (fun q hq => by cases hq) (by show 0 + k ≤ k; omega) (by show 0 + n ≤ n; omega) (ev_ent_L hf)
  intro r h' H' locs' cells' slots' pc' A' hR hrel' hl' hc' hs' hr
  have hq : ∀ t : State, t.heap = H' → s.WarmedH t.vm → ev_Qc G R (as.map (ev_tr G)).toArray s (.returned (r.map (ev_tr G))) t := fun t ht _ => ⟨r, h', rfl, hR, by rw [ht]; exact hrel'⟩
  refine W.widen (k := k) (n := n) hc' hs' ?_
  rcases hr with ⟨v, rfl, hd, ty, hty, hn⟩ | ⟨v, rfl, hd, hty⟩ | ⟨rfl, hd, hty⟩ | ⟨a, rfl, hd, rt, hty, hrt⟩
  · exact W.zret B.exec B.bytes (B.returns.trans hty) hn hq hl' hd
  · exact W.lret B.exec B.bytes (B.returns.trans hty) hq hl' hd
  · exact W.vret B.exec B.bytes (B.returns.trans hty) hq hl' hd
  · exact W.aret B.exec B.bytes (B.returns.trans hty) hrt (Or.inr ⟨_, rfl⟩) hq hl' hd
theorem ev_blind (G : ev_G) (as : List Value) (h : ev_H) : FrameBlind (ev_Pc G as h) := fun _ U _ _ q => ⟨q.1, q.2.1, ev_K.same (u := U) rfl q.2.2⟩
section EVC
variable {G : ev_G} {d k n k1 n1 : Nat} {M M' : ev_M} {pc idx na : Nat} {ls rest as : List Value} {h : ev_H} {R R1 : Option Value → ev_H → Prop}
theorem ev_after {p : Program} {l : Launch} {e : Env} {Rm : Room} {s : State} {m : MethodId} {args : Array Value} {below : List Frame} {meth : Method} {c : Code} {Q : State → Prop} {H : Heap} {locs : List Loc} {cells slots mc ms : Nat} {A : Array Slot} {st0 rest : List Value} {a : Array Value} {free : Addr → Prop}
    (hr : va_Run p l e Rm s m args below meth c H locs cells slots mc ms (F0 m pc A st0) rest (ev_Qc G R1 a) free) (hl : ∀ q ∈ locs, G.2.1.size ≤ q.base) (hf : ∀ q, free q → G.2.1.size ≤ q)
    (kk : ∀ (r : Option Value) (h' : ev_H) (H1 : Heap) (locs1 : List Loc), R1 r h' → ev_Rel G h' H1 → (∀ q ∈ locs1, G.2.1.size ≤ q.base) → W p l e Rm s m args below meth c H1 locs1 (cells + mc) (slots + ms) Q (F0 m (pc + 3) A ((r.map (ev_tr G)).toList ++ rest))) : W p l e Rm s m args below meth c H locs cells slots Q (F0 m pc A st0) := by
  intro T hT X
  obtain ⟨v, st₀, t, T', L, h0, X', hL, e1, e2, ⟨r, h', hv, hR, hrel⟩, st⟩ := hr T hT X
  cases hv
  obtain ⟨t2, a1, b1⟩ := kk r h' T'.heap (locs ++ L) hR (by rw [e1]; exact hrel) (fun q hq => by
    rcases List.mem_append.mp hq with h | h
    · exact hl q h
    · exact hf _ (hL q h)) T' rfl X'
  exact ⟨t2, st t2 a1, b1⟩
theorem ev_room {rest : List Value} {m : MethodId} {A : Array Slot} {pc : Nat} {st0 : List Value} (h : (rest.map fun v => v.category).sum ≤ 8) : 2 * (F0 m pc A st0).monitorRoom + ((rest.map (ev_tr G)).map fun v => v.category).sum ≤ 8 := by
  have e : ((rest.map (ev_tr G)).map fun v => v.category) = rest.map fun v => v.category := by
    rw [List.map_map]; exact List.map_congr_left fun v _ => ev_cat G v
  rw [e]
  show 2 * 0 + _ ≤ 8
  omega
theorem ev_words {s : State} {args : Array Value} {y : MethodName} {bytes : ByteArray} {maxL : Nat} {ret : Option FieldType} (hts : ∀ w ∈ ev_ws, w.before args s = true) (hc : Cond.code y bytes maxL ret ∈ ev_ws) : ∀ w ∈ (Cond.code y bytes maxL ret :: ev_ws), ∀ (a' : Array Value) (U : State), s.WarmedH U.vm → w.before a' U = true := by
  intro w hw a' U hW
  have hm : w ∈ ev_ws := by
    rcases List.mem_cons.mp hw with rfl | hw
    · exact hc
    · exact hw
  exact word_at hW (ev_good w hm) (hts w hm)
theorem ev_npar {y : MethodName} {na : Nat} (h2 : (parseMethodDescriptor y.desc).map (fun d => d.parameters.length) = some na) : ∀ sig, parseMethodDescriptor y.desc = some sig → na = sig.parameters.length := fun sig h => by
  rw [h] at h2
  exact (Option.some.inj h2).symm
/-- invokevirtual -/
theorem Ev.callV {a ci : Nat} {fs : List Value} {st : List Value} (hL : Cond.methodLink M.1.cls idx M'.1 ∈ ev_ws) (hok : ev_ok M' na) (hin : Cond.instanceMethod M'.1 ∈ ev_ws) (hse : Cond.selects M'.1.cls M'.1 M'.1 ∈ ev_ws) (hd : decode M.2.1 pc = .ok (.invokevirtual idx, 3)) (hc : hat h a (oC ci fs)) (hcl : (vwCl[ci]?).map (fun r => r.1) = some M'.1.cls)
    (hst : st = as.reverse ++ .ref a :: rest) (hn : as.length = na) (hr : (rest.map fun v => v.category).sum ≤ 8) (hf : (ev_flat (.ref a :: as)).length ≤ M'.2.2.1) (hE : Ev G d k1 n1 M' 0 (ev_ent M'.2.2.1 (.ref a :: as)) [] h R1)
    (hk : ∀ r h', R1 r h' → Ev G (d + 1) k n M (pc + 3) ls (r.toList ++ rest) h' R) : Ev G (d + 1) (k1 + k) (n1 + n) M pc ls st h R := by
  intro p e Rm s m args below meth c Q hx h1 h2 hkk H locs cells slots A g1 g2 g3 g4 g5
  obtain ⟨o1, o2, o3, o4, o5, o6⟩ := hok
  have hts := hx.2.2.2.2.1
  have hat' := g1.at hc.1
  rw [hc.2] at hat'
  obtain ⟨r', hr', hcl'⟩ := Option.map_eq_some_iff.mp hcl
  have hrecv : ∃ cell : Cell, H[ev_ad G a]? = some cell ∧ cell.vm.isStatics = false ∧ s.vm.findClass M'.1.cls = some cell.cls := by
    obtain ⟨q', w1, cell, w2, w3, w4, -⟩ := hat'
    refine ⟨cell, w2, by rw [w4]; rfl, ?_⟩
    have := (hx.2.2.2.2.2.2.2.2.1.1 ci r' hr').2.1
    rw [hcl'] at this
    rw [w3]; exact this
  have hM := ev_met o3 hf hE
  have hrun := va_runV (p := p) (e := e) (R := Rm) (s := s) (m := m) (args := args) (below := below) (meth := meth) (c := c) (H := H) (locs := locs) (cells := cells) (slots := slots) (Ts := ev_ws) (own := M.1.cls) (C := M'.1.cls) (index := idx) (n := na) (bytes := M'.2.1) (maxL := M'.2.2.1) (ret := M'.2.2.2) (b := ev_ad G a) (As := as.map (ev_tr G)) (rest := rest.map (ev_tr G)) (g := F0 m pc A (st.map (ev_tr G)))
    ⟨hx.1, hx.2.1, hx.2.2.1, hx.2.2.2.1, hts⟩ hM ⟨⟨rfl, rfl, by show d + 1 ≤ _; omega, by show 8 + (M'.2.2.1 + 11) + 64 * d ≤ _; omega, ev_words hts o1, List.mem_cons_self, hts _ o1, hts _ o2, o4, ev_npar o5, hts _ hL⟩, hts _ hin, hts _ hse⟩
    ⟨ev_blind G _ h, hrecv, fun U hU hW => ⟨by simp [ev_tr], by rw [hU]; exact g1, ev_K.warm hW hx.2.2.2.2.2.2.2.2⟩⟩ rfl (by rw [List.length_map]; exact hn) (g5.1.trans rfl) (by rw [hst]; show List.map (ev_tr G) (as.reverse ++ .ref a :: rest) = _; rw [List.map_append, List.map_reverse, List.map_cons]; rfl) (ev_room hr) hd ⟨by omega, by omega⟩
  refine ev_after hrun g2 (fun q h => h) fun r h' H1 locs1 hR hrel hl => ?_
  have := hk r h' hR p e Rm s m args below meth c Q hx h1 h2 hkk H1 locs1 (cells + k1) (slots + n1) A hrel hl (by omega) (by omega) g5
  rw [List.map_append] at this
  cases r <;> exact this
/-- invokestatic -/
theorem Ev.callS {st : List Value} (hL : Cond.methodLink M.1.cls idx M'.1 ∈ ev_ws) (hok : ev_ok M' na) (hstat : Cond.static M'.1 ∈ ev_ws) (hd : decode M.2.1 pc = .ok (.invokestatic idx, 3))
    (hst : st = as.reverse ++ rest) (hn : as.length = na) (hr : (rest.map fun v => v.category).sum ≤ 8) (hf : (ev_flat as).length ≤ M'.2.2.1) (hE : Ev G d k1 n1 M' 0 (ev_ent M'.2.2.1 as) [] h R1)
    (hk : ∀ r h', R1 r h' → Ev G (d + 1) k n M (pc + 3) ls (r.toList ++ rest) h' R) : Ev G (d + 1) (k1 + k) (n1 + n) M pc ls st h R := by
  intro p e Rm s m args below meth c Q hx h1 h2 hkk H locs cells slots A g1 g2 g3 g4 g5
  obtain ⟨o1, o2, o3, o4, o5, o6⟩ := hok
  have hts := hx.2.2.2.2.1
  have hM := ev_met o3 hf hE
  have hrun := va_runS (p := p) (e := e) (R := Rm) (s := s) (m := m) (args := args) (below := below) (meth := meth) (c := c) (H := H) (locs := locs) (cells := cells) (slots := slots) (Ts := ev_ws) (own := M.1.cls) (index := idx) (n := na) (bytes := M'.2.1) (maxL := M'.2.2.1) (ret := M'.2.2.2) (As := as.map (ev_tr G)) (rest := rest.map (ev_tr G)) (g := F0 m pc A (st.map (ev_tr G)))
    ⟨hx.1, hx.2.1, hx.2.2.1, hx.2.2.2.1, hts⟩ hM ⟨⟨rfl, rfl, by show d + 1 ≤ _; omega, by show 8 + (M'.2.2.1 + 11) + 64 * d ≤ _; omega, ev_words hts o1, List.mem_cons_self, hts _ o1, hts _ o2, o4, ev_npar o5, hts _ hL⟩, hts _ hstat⟩
    ⟨ev_blind G _ h, fun U hU hW => ⟨rfl, by rw [hU]; exact g1, ev_K.warm hW hx.2.2.2.2.2.2.2.2⟩⟩ rfl (by rw [List.length_map]; exact hn) (g5.1.trans rfl) (by rw [hst]; show List.map (ev_tr G) (as.reverse ++ rest) = _; rw [List.map_append, List.map_reverse]) (ev_room hr) hd ⟨by omega, by omega⟩
  refine ev_after hrun g2 (fun q h => h) fun r h' H1 locs1 hR hrel hl => ?_
  have := hk r h' hR p e Rm s m args below meth c Q hx h1 h2 hkk H1 locs1 (cells + k1) (slots + n1) A hrel hl (by omega) (by omega) g5
  rw [List.map_append] at this
  cases r <;> exact this
theorem ev_nestw {s : State} {args : Array Value} {a b : String} {i : Nat} {x : MethodName} (hK : ev_K G s) (h : Cond.methodLinkNest a i x b ∈ ev_nest) : (Cond.methodLinkNest a i x b).before args s = true := va_Nw.use rfl (hK.2.1 _ h)
/-- invokestatic of a nest mate's -/
theorem Ev.callSN {host : String} {st : List Value} (hL : Cond.methodLinkNest M.1.cls idx M'.1 host ∈ ev_nest) (hok : ev_ok M' na) (hstat : Cond.static M'.1 ∈ ev_ws) (hd : decode M.2.1 pc = .ok (.invokestatic idx, 3))
    (hst : st = as.reverse ++ rest) (hn : as.length = na) (hr : (rest.map fun v => v.category).sum ≤ 8) (hf : (ev_flat as).length ≤ M'.2.2.1) (hE : Ev G d k1 n1 M' 0 (ev_ent M'.2.2.1 as) [] h R1)
    (hk : ∀ r h', R1 r h' → Ev G (d + 1) k n M (pc + 3) ls (r.toList ++ rest) h' R) : Ev G (d + 1) (k1 + k) (n1 + n) M pc ls st h R := by
  intro p e Rm s m args below meth c Q hx h1 h2 hkk H locs cells slots A g1 g2 g3 g4 g5
  obtain ⟨o1, o2, o3, o4, o5, o6⟩ := hok
  have hts := hx.2.2.2.2.1
  have hM := ev_met o3 hf hE
  have hrun := va_runSN (p := p) (e := e) (R := Rm) (s := s) (m := m) (args := args) (below := below) (meth := meth) (c := c) (H := H) (locs := locs) (cells := cells) (slots := slots) (Ts := ev_ws) (own := M.1.cls) (host := host) (index := idx) (n := na) (bytes := M'.2.1) (maxL := M'.2.2.1) (ret := M'.2.2.2) (As := as.map (ev_tr G)) (rest := rest.map (ev_tr G)) (g := F0 m pc A (st.map (ev_tr G)))
    ⟨hx.1, hx.2.1, hx.2.2.1, hx.2.2.2.1, hts⟩ hM ⟨⟨⟨rfl, rfl, by show d + 1 ≤ _; omega, by show 8 + (M'.2.2.1 + 11) + 64 * d ≤ _; omega, ev_words hts o1, List.mem_cons_self⟩, hts _ o1, hts _ o2, o4, ev_npar o5, ev_nestw hx.2.2.2.2.2.2.2.2 hL⟩, hts _ hstat, trivial⟩
    ⟨ev_blind G _ h, fun U hU hW => ⟨rfl, by rw [hU]; exact g1, ev_K.warm hW hx.2.2.2.2.2.2.2.2⟩⟩ rfl (by rw [List.length_map]; exact hn) (g5.1.trans rfl) (by rw [hst]; show List.map (ev_tr G) (as.reverse ++ rest) = _; rw [List.map_append, List.map_reverse]) (ev_room hr) hd ⟨by omega, by omega⟩
  refine ev_after hrun g2 (fun q h => h) fun r h' H1 locs1 hR hrel hl => ?_
  have := hk r h' hR p e Rm s m args below meth c Q hx h1 h2 hkk H1 locs1 (cells + k1) (slots + n1) A hrel hl (by omega) (by omega) g5
  rw [List.map_append] at this
  cases r <;> exact this
/-- invokespecial of a constructor -/
theorem Ev.callI {a : Nat} {st : List Value} (hL : Cond.methodLink M.1.cls idx M'.1 ∈ ev_ws) (hok : ev_ok M' na) (hin : Cond.instanceMethod M'.1 ∈ ev_ws) (hi : M'.1.name = "<init>") (hret : M'.2.2.2 = none) (hd : decode M.2.1 pc = .ok (.invokespecial idx, 3))
    (hst : st = as.reverse ++ .ref a :: rest) (hn : as.length = na) (hr : (rest.map fun v => v.category).sum ≤ 8) (hf : (ev_flat (.ref a :: as)).length ≤ M'.2.2.1) (hE : Ev G d k1 n1 M' 0 (ev_ent M'.2.2.1 (.ref a :: as)) [] h R1)
    (hk : ∀ r h', R1 r h' → Ev G (d + 1) k n M (pc + 3) ls (r.toList ++ rest) h' R) : Ev G (d + 1) (k1 + k) (n1 + n) M pc ls st h R := by
  intro p e Rm s m args below meth c Q hx h1 h2 hkk H locs cells slots A g1 g2 g3 g4 g5
  obtain ⟨o1, o2, o3, o4, o5, o6⟩ := hok
  have hts := hx.2.2.2.2.1
  have hM := ev_met o3 hf hE
  rw [hret] at hM o1
  have hrun := va_runI (p := p) (e := e) (R := Rm) (s := s) (m := m) (args := args) (below := below) (meth := meth) (c := c) (H := H) (locs := locs) (cells := cells) (slots := slots) (Ts := ev_ws) (own := M.1.cls) (index := idx) (n := na) (bytes := M'.2.1) (maxL := M'.2.2.1) (b := ev_ad G a) (As := as.map (ev_tr G)) (rest := rest.map (ev_tr G)) (g := F0 m pc A (st.map (ev_tr G)))
    ⟨hx.1, hx.2.1, hx.2.2.1, hx.2.2.2.1, hts⟩ hM ⟨⟨rfl, rfl, by show d + 1 ≤ _; omega, by show 8 + (M'.2.2.1 + 11) + 64 * d ≤ _; omega, ev_words hts o1, List.mem_cons_self, hts _ o1, hts _ o2, o4, ev_npar o5, hts _ hL⟩, hi, hts _ hin⟩
    ⟨ev_blind G _ h, fun U hU hW => ⟨by simp [ev_tr], by rw [hU]; exact g1, ev_K.warm hW hx.2.2.2.2.2.2.2.2⟩⟩ rfl (by rw [List.length_map]; exact hn) (g5.1.trans rfl) (by rw [hst]; show List.map (ev_tr G) (as.reverse ++ .ref a :: rest) = _; rw [List.map_append, List.map_reverse, List.map_cons]; rfl) (ev_room hr) hd ⟨by omega, by omega⟩
  refine ev_after hrun g2 (fun q h => h) fun r h' H1 locs1 hR hrel hl => ?_
  have := hk r h' hR p e Rm s m args below meth c Q hx h1 h2 hkk H1 locs1 (cells + k1) (slots + n1) A hrel hl (by omega) (by omega) g5
  rw [List.map_append] at this
  cases r <;> exact this
theorem Ev.callIN {host : String} {a : Nat} {st : List Value} (hL : Cond.methodLinkNest M.1.cls idx M'.1 host ∈ ev_nest) (hok : ev_ok M' na) (hin : Cond.instanceMethod M'.1 ∈ ev_ws) (hi : M'.1.name = "<init>") (hret : M'.2.2.2 = none) (hd : decode M.2.1 pc = .ok (.invokespecial idx, 3))
    (hst : st = as.reverse ++ .ref a :: rest) (hn : as.length = na) (hr : (rest.map fun v => v.category).sum ≤ 8) (hf : (ev_flat (.ref a :: as)).length ≤ M'.2.2.1) (hE : Ev G d k1 n1 M' 0 (ev_ent M'.2.2.1 (.ref a :: as)) [] h R1)
    (hk : ∀ r h', R1 r h' → Ev G (d + 1) k n M (pc + 3) ls (r.toList ++ rest) h' R) : Ev G (d + 1) (k1 + k) (n1 + n) M pc ls st h R := by
  intro p e Rm s m args below meth c Q hx h1 h2 hkk H locs cells slots A g1 g2 g3 g4 g5
  obtain ⟨o1, o2, o3, o4, o5, o6⟩ := hok
  have hts := hx.2.2.2.2.1
  have hM := ev_met o3 hf hE
  rw [hret] at hM o1
  have hrun := va_runIN (p := p) (e := e) (R := Rm) (s := s) (m := m) (args := args) (below := below) (meth := meth) (c := c) (H := H) (locs := locs) (cells := cells) (slots := slots) (Ts := ev_ws) (own := M.1.cls) (host := host) (index := idx) (n := na) (bytes := M'.2.1) (maxL := M'.2.2.1) (b := ev_ad G a) (As := as.map (ev_tr G)) (rest := rest.map (ev_tr G)) (g := F0 m pc A (st.map (ev_tr G)))
    ⟨hx.1, hx.2.1, hx.2.2.1, hx.2.2.2.1, hts⟩ hM ⟨⟨⟨rfl, rfl, by show d + 1 ≤ _; omega, by show 8 + (M'.2.2.1 + 11) + 64 * d ≤ _; omega, ev_words hts o1, List.mem_cons_self⟩, hts _ o1, hts _ o2, o4, ev_npar o5, ev_nestw hx.2.2.2.2.2.2.2.2 hL⟩, hi, hts _ hin⟩
    ⟨ev_blind G _ h, fun U hU hW => ⟨by simp [ev_tr], by rw [hU]; exact g1, ev_K.warm hW hx.2.2.2.2.2.2.2.2⟩⟩ rfl (by rw [List.length_map]; exact hn) (g5.1.trans rfl) (by rw [hst]; show List.map (ev_tr G) (as.reverse ++ .ref a :: rest) = _; rw [List.map_append, List.map_reverse, List.map_cons]; rfl) (ev_room hr) hd ⟨by omega, by omega⟩
  refine ev_after hrun g2 (fun q h => h) fun r h' H1 locs1 hR hrel hl => ?_
  have := hk r h' hR p e Rm s m args below meth c Q hx h1 h2 hkk H1 locs1 (cells + k1) (slots + n1) A hrel hl (by omega) (by omega) g5
  rw [List.map_append] at this
  cases r <;> exact this
end EVC
end
section
/-! what is made; constants; the library's own -/
section EVM
variable {G : ev_G} {d k n : Nat} {M : ev_M} {pc idx : Nat} {ls rest st : List Value} {h : ev_H} {R : Option Value → ev_H → Prop}
theorem ev_push_locs {G : ev_G} {h : ev_H} {H : Heap} (g1 : ev_Rel G h H) (hb : h.1 < ev_big) : ev_ad G h.1 = H.size := by rw [ev_ad_lt hb (Nat.le_refl _), g1.1]
theorem Ev.new {ci : Nat} {r : vw_C} {tyf : Nat → FieldType} {fs : List Value} (hcl : ev_cls ci r tyf) (hL : Cond.classLink M.1.cls idx r.1 ∈ ev_ws) (hi : Cond.instantiable r.1 r.2.2 ∈ ev_ws) (hini : Cond.initialized r.1 ∈ ev_ws) (hd : decode M.2.1 pc = .ok (.new idx, 3)) (hb : h.1 < ev_big) (hfs : ∀ j, j < r.2.2 → defaultValue (tyf j) = vp_V fs j) (hfr : ∀ v ∈ fs, ∀ a, v ≠ .ref a)
    (hE : Ev G d k n M (pc + 3) ls (.ref h.1 :: rest) (hpush h (oC ci fs)) R) : Ev G d (k + 1) (n + r.2.2) M pc ls rest h R := by
  intro p e Rm s m args below meth c Q hx h1 h2 hkk H locs cells slots A g1 g2 g3 g4 g5
  obtain ⟨hc, hin, hnm, hty⟩ := hcl
  obtain ⟨C, T, N⟩ := r
  have hts := hx.2.2.2.2.1
  have hKn := hx.2.2.2.2.2.2.2.2.1.1 ci _ hc
  refine W.newcK hx.1 hx.2.1 hx.2.2.2.1 (hts _ hL) (hts _ hi) (hts _ hini) rfl hd (by omega) (by omega) hKn.2.1 rfl fun H1 kC hkC e1 z1 o1 => ?_
  have hmap : fs.map (ev_tr G) = fs := by
    refine (List.map_congr_left fun v hv => ?_).trans (List.map_id' fs)
    have := hfr v hv
    cases v <;> first | rfl | exact absurd rfl (this _)
  have hrel := g1.push hb (c := oC ci fs) (H1 := H1) ⟨_, hc, by rw [hmap]; exact (u_born tyf hts hin hKn hkC e1 hty).to hfs⟩ z1 o1
  have := hE p e Rm s m args below meth c Q hx h1 h2 hkk H1 locs (cells + 1) (slots + N) A hrel g2 (by omega) (by have : (C, T, N).2.2 = N := rfl; omega) g5
  rw [List.map_cons] at this
  simp only [ev_tr] at this
  rw [ev_push_locs g1 hb] at this
  exact this
theorem ev_known_arr {G : ev_G} {s : State} {cA : ClassId} {t : Nat} {ty : FieldType} (hK : ev_K G s) (ht : (ev_tys G)[t]? = some (G.2.2.2.1 t, ty)) (hno : ∀ C, ty ≠ .object C) (h : s.vm.findClass ("[" ++ ty.toString) = some cA) : cA = G.2.2.2.1 t := by
  have := (hK.1.2 t _ ht).2
  cases ty with
  | object C => exact absurd rfl (hno C)
  | _ => exact Option.some.inj (h.symm.trans this)
theorem Ev.newI {N : Nat} (hA : Cond.arrayClass .int ∈ ev_ws) (hd : decode M.2.1 pc = .ok (.newarray .int, 2)) (hb : h.1 < ev_big) {i : Int32} (hi : i = nI N) (hN : N < 100000) (hE : Ev G d k n M (pc + 2) ls (.ref h.1 :: rest) (hpush h (aI N (fun _ => 0))) R) : Ev G d (k + 1) (n + N) M pc ls (.int i :: rest) h R := by
  intro p e Rm s m args below meth c Q hx h1 h2 hkk H locs cells slots A g1 g2 g3 g4 g5
  subst hi
  refine va_newaK (N := N) (atype := .int) hx.1 hx.2.1 (hx.2.2.2.2.1 _ hA) rfl hd rfl (nI_pos (by omega)) (nI_clamp (by omega)) (by show N * 4 ≤ _; omega) (by omega) (by omega) rfl fun H1 cA e1 z1 o1 hAr hNm => ?_
  have ec := ev_known_arr (t := 0) (ty := .int) hx.2.2.2.2.2.2.2.2 rfl (fun C q => by cases q) hNm
  subst ec
  have hrel := g1.push hb (c := aI N (fun _ => 0)) (H1 := H1) (show H1[H.size]? = some (vp_cell _ _) by rw [vp_cell_i]; exact e1) z1 o1
  have := hE p e Rm s m args below meth c Q hx h1 h2 hkk H1 locs (cells + 1) (slots + N) A hrel g2 (by omega) (by omega) g5
  rw [List.map_cons] at this
  simp only [ev_tr] at this
  rw [ev_push_locs g1 hb] at this
  exact this
theorem Ev.newL {N : Nat} (hA : Cond.arrayClass .long ∈ ev_ws) (hd : decode M.2.1 pc = .ok (.newarray .long, 2)) (hb : h.1 < ev_big) {i : Int32} (hi : i = nI N) (hN : N < 100000) (hE : Ev G d k n M (pc + 2) ls (.ref h.1 :: rest) (hpush h (aL N (fun _ => 0))) R) : Ev G d (k + 1) (n + N) M pc ls (.int i :: rest) h R := by
  intro p e Rm s m args below meth c Q hx h1 h2 hkk H locs cells slots A g1 g2 g3 g4 g5
  subst hi
  refine va_newaK (N := N) (atype := .long) hx.1 hx.2.1 (hx.2.2.2.2.1 _ hA) rfl hd rfl (nI_pos (by omega)) (nI_clamp (by omega)) (by show N * 8 ≤ _; omega) (by omega) (by omega) rfl fun H1 cA e1 z1 o1 hAr hNm => ?_
  have ec := ev_known_arr (t := 1) (ty := .long) hx.2.2.2.2.2.2.2.2 rfl (fun C q => by cases q) hNm
  subst ec
  have hrel := g1.push hb (c := aL N (fun _ => 0)) (H1 := H1) (show H1[H.size]? = some (vp_cell _ _) by rw [vp_cell_l]; exact e1) z1 o1
  have := hE p e Rm s m args below meth c Q hx h1 h2 hkk H1 locs (cells + 1) (slots + N) A hrel g2 (by omega) (by omega) g5
  rw [List.map_cons] at this
  simp only [ev_tr] at this
  rw [ev_push_locs g1 hb] at this
  exact this
theorem Ev.newB {N : Nat} (hA : Cond.arrayClass .byte ∈ ev_ws) (hd : decode M.2.1 pc = .ok (.newarray .byte, 2)) (hb : h.1 < ev_big) {i : Int32} (hi : i = nI N) (hN : N < 100000) (hE : Ev G d k n M (pc + 2) ls (.ref h.1 :: rest) (hpush h (aB N (fun _ => 0))) R) : Ev G d (k + 1) (n + N) M pc ls (.int i :: rest) h R := by
  intro p e Rm s m args below meth c Q hx h1 h2 hkk H locs cells slots A g1 g2 g3 g4 g5
  subst hi
  refine va_newaK (N := N) (atype := .byte) hx.1 hx.2.1 (hx.2.2.2.2.1 _ hA) rfl hd rfl (nI_pos (by omega)) (nI_clamp (by omega)) (by show N * 1 ≤ _; omega) (by omega) (by omega) rfl fun H1 cA e1 z1 o1 hAr hNm => ?_
  have ec := ev_known_arr (t := 2) (ty := .byte) hx.2.2.2.2.2.2.2.2 rfl (fun C q => by cases q) hNm
  subst ec
  have hrel := g1.push hb (c := aB N (fun _ => 0)) (H1 := H1) (show H1[H.size]? = some (vp_cell _ _) by rw [vp_cell_i]; exact e1) z1 o1
  have := hE p e Rm s m args below meth c Q hx h1 h2 hkk H1 locs (cells + 1) (slots + N) A hrel g2 (by omega) (by omega) g5
  rw [List.map_cons] at this
  simp only [ev_tr] at this
  rw [ev_push_locs g1 hb] at this
  exact this
theorem Ev.newS {N : Nat} (hL : Cond.classLink M.1.cls idx "AlikeStore$Store" ∈ ev_ws) (hd : decode M.2.1 pc = .ok (.anewarray idx, 3)) (hb : h.1 < ev_big) {i : Int32} (hi : i = nI N) (hN : N < 100000) (hE : Ev G d k n M (pc + 3) ls (.ref h.1 :: rest) (hpush h (aS N (fun _ => none))) R) : Ev G d (k + 1) (n + N) M pc ls (.int i :: rest) h R := by
  intro p e Rm s m args below meth c Q hx h1 h2 hkk H locs cells slots A g1 g2 g3 g4 g5
  subst hi
  have hcl : (nI N).toNatClampNeg = N := nI_clamp (by omega)
  refine W.anew hx.1 hx.2.1 hx.2.2.2.1 (hx.2.2.2.2.1 _ hL) (va_AO.use hx.2.2.2.2.2.2.2.2.2.2.1.1) rfl hd rfl (nI_pos (by omega)) (by rw [hcl]; omega) (by omega) (by rw [hcl]; omega) fun cA kA comp f1 f2 f3 f4 => ?_
  rw [hcl]
  generalize hH1 : H.push ({ cls := cA, slots := Array.replicate N .null, vm := .none } : Cell) = H1
  have z1 : H1.size = H.size + 1 := by rw [← hH1, Array.size_push]
  have e1 : H1[H.size]? = some (arrV cA N (fun _ => .null)) := by rw [← hH1, Array.getElem?_push_size, ← arrV_new]
  have o1 : ∀ q : Nat, q < H.size → H1[q]? = H[q]? := fun q hq => by rw [← hH1, Array.getElem?_push, if_neg (Nat.ne_of_lt hq)]
  have ec : cA = G.2.2.2.1 4 := by
    obtain ⟨kA', comp', w1, w2, w3, w4⟩ := (hx.2.2.2.2.2.2.2.2.1.2 4 _ rfl).2
    exact Option.some.inj (f1.symm.trans w4)
  subst ec
  have hrel := g1.push hb (c := aS N (fun _ => none)) (H1 := H1) (show H1[H.size]? = some (vp_cell _ _) by rw [vp_cell_q]; exact e1) z1 o1
  have := hE p e Rm s m args below meth c Q hx h1 h2 hkk H1 locs (cells + 1) (slots + N) A hrel g2 (by omega) (by omega) g5
  rw [List.map_cons] at this
  simp only [ev_tr] at this
  rw [ev_push_locs g1 hb] at this
  exact this
theorem Ev.aast {a b j N : Nat} {f : Nat → Option Nat} {fs : List Value} {i : Int32} (hd : decode M.2.1 pc = .ok (.aastore, 1)) (hc : hat h a (aS N f)) (hb : hat h b (oC 6 fs)) (hi : ev_ix i j N) (hE : Ev G d k n M (pc + 1) ls rest (hset h a (aS N (va_up f j (some b)))) R) : Ev G d k n M pc ls (.ref b :: .int i :: .ref a :: rest) h R := by
  intro p e Rm s m args below meth c Q hx h1 h2 hkk H locs cells slots A g1 g2 g3 g4 g5
  have hat' := g1.at hc.1
  rw [hc.2] at hat'
  have hatb := g1.at hb.1
  rw [hb.2] at hatb
  obtain ⟨hin, e'⟩ := hi.in
  have hlt : i.toNatClampNeg < N := by rw [e']; exact hi.2.1
  have h0 : ¬ i < 0 := fun q => hin (Or.inl q)
  obtain ⟨r', hr', cellV, w1, w2, w3, -⟩ := hatb
  have hcls := (hx.2.2.2.2.2.2.2.2.1.1 6 _ hr').2
  obtain ⟨kA, comp, k1, k2, k3, -⟩ := (hx.2.2.2.2.2.2.2.2.1.2 4 _ rfl).2
  have hr6 : r' = (RX6, TX6, 7) := (Option.some.inj hr').symm
  subst hr6
  have hcomp : comp = G.2.2.1.1 6 := Option.some.inj (k3.symm.trans hcls.1)
  subst hcomp
  obtain ⟨kC, hkC, -⟩ := hcls.2
  refine W.aast hx.1 hx.2.1 (cell := vp_cell (G.2.2.2.1 4) (N, .inr (.inr (.inr (.inr (fun j => (f j).map (ev_ad G))))))) hat' (fun q h => by cases h) (fun h => by cases h) k1 k2 rfl hkC ⟨h0, by show _ < (arrV _ _ _).slots.size; rw [arrV_size]; exact hlt⟩ w1 (fun q h => by rw [w3] at h; cases h) (by rw [w2]; exact hkC) (by rw [w2]; exact va_assign hcls) rfl rfl hd fun H1 e1 z oq => ?_
  refine hE p e Rm s m args below meth c Q hx h1 h2 hkk H1 _ cells slots A (g1.put hc.1 ?_ z oq) (ev_locs g2 (ev_ad_ge hc.1 g1.2.1)) g3 g4 g5
  show H1[ev_ad G a]? = some (vp_cell _ _)
  rw [e1, vp_cell_q, vp_cell_q, arrV_store, e']
  congr 2
  funext q
  by_cases hq : q = j
  · subst hq; simp [updV, va_up, va_rf]
  · simp [updV, va_up, hq]
theorem Ev.ldc {v : Int32} (hC : Cond.constant M.1.cls idx v ∈ ev_ws) (hd : decode M.2.1 pc = .ok (.ldc idx, 2)) (hE : Ev G d k n M (pc + 2) ls (.int v :: st) h R) : Ev G d k n M pc ls st h R := by
  intro p e Rm s m args below meth c Q hx h1 h2 hkk H locs cells slots A g1 g2 g3 g4 g5
  exact lv_ldc hx.1 hx.2.1 hx.2.2.2.1 (hx.2.2.2.2.1 _ hC) hd (hE p e Rm s m args below meth c Q hx h1 h2 hkk H locs cells slots A g1 g2 g3 g4 g5)
theorem Ev.ldcw {v : Int32} (hC : Cond.constant M.1.cls idx v ∈ ev_ws) (hd : decode M.2.1 pc = .ok (.ldc_w idx, 3)) (hE : Ev G d k n M (pc + 3) ls (.int v :: st) h R) : Ev G d k n M pc ls st h R := by
  intro p e Rm s m args below meth c Q hx h1 h2 hkk H locs cells slots A g1 g2 g3 g4 g5
  exact lv_ldcw hx.1 hx.2.1 hx.2.2.2.1 (hx.2.2.2.2.1 _ hC) hd (hE p e Rm s m args below meth c Q hx h1 h2 hkk H locs cells slots A g1 g2 g3 g4 g5)
theorem Ev.ldc2 {v : Int64} (hC : Cond.constantLong M.1.cls idx v ∈ ev_ws) (hd : decode M.2.1 pc = .ok (.ldc2_w idx, 3)) (hE : Ev G d k n M (pc + 3) ls (.long v :: st) h R) : Ev G d k n M pc ls st h R := by
  intro p e Rm s m args below meth c Q hx h1 h2 hkk H locs cells slots A g1 g2 g3 g4 g5
  exact lv_ldc2 hx.1 hx.2.1 hx.2.2.2.1 (hx.2.2.2.2.1 _ hC) hd (hE p e Rm s m args below meth c Q hx h1 h2 hkk H locs cells slots A g1 g2 g3 g4 g5)
/-- a text of the tables, the i-th -/
theorem Ev.ldcS {i : Nat} {tx : String} (hS : ev_strs[i]? = some (M.1.cls, idx, tx)) (hd : decode M.2.1 pc = .ok (.ldc idx, 2)) (hE : Ev G d k n M (pc + 2) ls (.ref (ev_big + i) :: st) h R) : Ev G d k n M pc ls st h R := by
  intro p e Rm s m args below meth c Q hx h1 h2 hkk H locs cells slots A g1 g2 g3 g4 g5
  have hR := hx.2.2.2.2.2.2.2.2.2.2.2.2 i _ hS
  have := hE p e Rm s m args below meth c Q hx h1 h2 hkk H locs cells slots A g1 g2 g3 g4 g5
  rw [List.map_cons] at this
  simp only [ev_tr] at this
  rw [show ev_ad G (ev_big + i) = G.2.2.2.2 i by unfold ev_ad; rw [if_neg (by omega), Nat.add_sub_cancel_left]] at this
  exact va_ldcS hx.1 hx.2.1 hx.2.2.2.1 hR hd this
theorem Ev.nnR {a : Nat} {o : Int} {t : Nat} (hd : decode M.2.1 pc = .ok (.ifnonnull o, 3)) (ht : (pc : Int) + o = t) (hE : Ev G d k n M t ls st h R) : Ev G d k n M pc ls (.ref a :: st) h R := by
  intro p e Rm s m args below meth c Q hx h1 h2 hkk H locs cells slots A g1 g2 g3 g4 g5
  exact lv_ifnonnull hx.1 hx.2.1 hd ht (hE p e Rm s m args below meth c Q hx h1 h2 hkk H locs cells slots A g1 g2 g3 g4 g5)
theorem Ev.nnN {o : Int} (hd : decode M.2.1 pc = .ok (.ifnonnull o, 3)) (hE : Ev G d k n M (pc + 3) ls st h R) : Ev G d k n M pc ls (.null :: st) h R := by
  intro p e Rm s m args below meth c Q hx h1 h2 hkk H locs cells slots A g1 g2 g3 g4 g5
  exact lv_ifnonnullN hx.1 hx.2.1 hd (hE p e Rm s m args below meth c Q hx h1 h2 hkk H locs cells slots A g1 g2 g3 g4 g5)
theorem Ev.nR {a : Nat} {o : Int} (hd : decode M.2.1 pc = .ok (.ifnull o, 3)) (hE : Ev G d k n M (pc + 3) ls st h R) : Ev G d k n M pc ls (.ref a :: st) h R := by
  intro p e Rm s m args below meth c Q hx h1 h2 hkk H locs cells slots A g1 g2 g3 g4 g5
  exact lv_ifnull hx.1 hx.2.1 hd (hE p e Rm s m args below meth c Q hx h1 h2 hkk H locs cells slots A g1 g2 g3 g4 g5)
theorem Ev.nN {o : Int} {t : Nat} (hd : decode M.2.1 pc = .ok (.ifnull o, 3)) (ht : (pc : Int) + o = t) (hE : Ev G d k n M t ls st h R) : Ev G d k n M pc ls (.null :: st) h R := by
  intro p e Rm s m args below meth c Q hx h1 h2 hkk H locs cells slots A g1 g2 g3 g4 g5
  exact lv_ifnullN hx.1 hx.2.1 hd ht (hE p e Rm s m args below meth c Q hx h1 h2 hkk H locs cells slots A g1 g2 g3 g4 g5)
theorem Ev.idiv {x y : Int32} (hd : decode M.2.1 pc = .ok (.idiv, 1)) (hy : ¬ y = 0) (hE : Ev G d k n M (pc + 1) ls (.int (x / y) :: st) h R) : Ev G d k n M pc ls (.int y :: .int x :: st) h R := by
  intro p e Rm s m args below meth c Q hx h1 h2 hkk H locs cells slots A g1 g2 g3 g4 g5
  exact lv_idiv hx.1 hx.2.1 hd hy (hE p e Rm s m args below meth c Q hx h1 h2 hkk H locs cells slots A g1 g2 g3 g4 g5)
theorem Ev.irem {x y : Int32} (hd : decode M.2.1 pc = .ok (.irem, 1)) (hy : ¬ y = 0) (hE : Ev G d k n M (pc + 1) ls (.int (x - x / y * y) :: st) h R) : Ev G d k n M pc ls (.int y :: .int x :: st) h R := by
  intro p e Rm s m args below meth c Q hx h1 h2 hkk H locs cells slots A g1 g2 g3 g4 g5
  exact lv_irem hx.1 hx.2.1 hd hy (hE p e Rm s m args below meth c Q hx h1 h2 hkk H locs cells slots A g1 g2 g3 g4 g5)
theorem Ev.ldiv {x y : Int64} (hd : decode M.2.1 pc = .ok (.ldiv, 1)) (hy : ¬ y = 0) (hE : Ev G d k n M (pc + 1) ls (.long (x / y) :: st) h R) : Ev G d k n M pc ls (.long y :: .long x :: st) h R := by
  intro p e Rm s m args below meth c Q hx h1 h2 hkk H locs cells slots A g1 g2 g3 g4 g5
  exact lv_ldiv hx.1 hx.2.1 hd hy (hE p e Rm s m args below meth c Q hx h1 h2 hkk H locs cells slots A g1 g2 g3 g4 g5)
/-- tableswitch: where it goes -/
theorem Ev.tsw {o lo hi : Int} {offs : Array Int} {len : Nat} {x : Int32} {off : Int} {t : Nat} (hd : decode M.2.1 pc = .ok (.tableswitch o lo hi offs, len)) (h1 : lo ≤ x.toInt) (h2 : x.toInt ≤ hi) (ho : offs[(x.toInt - lo).toNat]? = some off) (ht : (pc : Int) + off = t) (hE : Ev G d k n M t ls st h R) : Ev G d k n M pc ls (.int x :: st) h R := by
  intro p e Rm s m args below meth c Q hx h1' h2' hkk H locs cells slots A g1 g2 g3 g4 g5
  exact lv_tableIn hx.1 hx.2.1 hd (by omega) (by omega) ho ht (hE p e Rm s m args below meth c Q hx h1' h2' hkk H locs cells slots A g1 g2 g3 g4 g5)
theorem Ev.tswd {o lo hi : Int} {offs : Array Int} {len : Nat} {x : Int32} {t : Nat} (hd : decode M.2.1 pc = .ok (.tableswitch o lo hi offs, len)) (h1 : x.toInt < lo ∨ hi < x.toInt) (ht : (pc : Int) + o = t) (hE : Ev G d k n M t ls st h R) : Ev G d k n M pc ls (.int x :: st) h R := by
  intro p e Rm s m args below meth c Q hx h1' h2' hkk H locs cells slots A g1 g2 g3 g4 g5
  exact lv_tableOut hx.1 hx.2.1 hd h1 ht (hE p e Rm s m args below meth c Q hx h1' h2' hkk H locs cells slots A g1 g2 g3 g4 g5)
theorem ev_sum {G : ev_G} (rest : List Value) : ((rest.map (ev_tr G)).map fun v => v.category).sum = (rest.map fun v => v.category).sum := by
  rw [List.map_map]; exact congrArg List.sum (List.map_congr_left fun v _ => ev_cat G v)
theorem Ev.mmin {x y : Int32} (hL : Cond.methodLink M.1.cls idx Lib.Math.min.name ∈ ev_ws) (hst : Cond.static Lib.Math.min.name ∈ ev_ws) (hini : Cond.initialized "java/lang/Math" ∈ ev_ws) (hco : Cond.code Lib.Math.min.name Lib.Math.min.code 2 (some .int) ∈ ev_ws) (hr : (rest.map fun v => v.category).sum ≤ 8) (hd : decode M.2.1 pc = .ok (.invokestatic idx, 3))
    (hE : Ev G (d + 1) k n M (pc + 3) ls (.int (if y < x then y else x) :: rest) h R) : Ev G (d + 1) k n M pc ls (.int y :: .int x :: rest) h R := by
  intro p e Rm s m args below meth c Q hx h1 h2 hkk H locs cells slots A g1 g2 g3 g4 g5
  have hts := hx.2.2.2.2.1
  exact va_mmin hx.1 hx.2.1 (hx.2.2.1.trans g5.1.symm) hx.2.2.2.1 (hts _ hL) (hts _ hst) (hts _ hini) (hts _ hco) (by omega) (by rw [ev_sum]; omega) (by omega) (by omega) hd (hE p e Rm s m args below meth c Q hx h1 h2 hkk H locs cells slots A g1 g2 g3 g4 g5)
theorem Ev.mmax {x y : Int32} (hL : Cond.methodLink M.1.cls idx Lib.Math.max.name ∈ ev_ws) (hst : Cond.static Lib.Math.max.name ∈ ev_ws) (hini : Cond.initialized "java/lang/Math" ∈ ev_ws) (hco : Cond.code Lib.Math.max.name Lib.Math.max.code 2 (some .int) ∈ ev_ws) (hr : (rest.map fun v => v.category).sum ≤ 8) (hd : decode M.2.1 pc = .ok (.invokestatic idx, 3))
    (hE : Ev G (d + 1) k n M (pc + 3) ls (.int (if x < y then y else x) :: rest) h R) : Ev G (d + 1) k n M pc ls (.int y :: .int x :: rest) h R := by
  intro p e Rm s m args below meth c Q hx h1 h2 hkk H locs cells slots A g1 g2 g3 g4 g5
  have hts := hx.2.2.2.2.1
  exact va_mmax hx.1 hx.2.1 (hx.2.2.1.trans g5.1.symm) hx.2.2.2.1 (hts _ hL) (hts _ hst) (hts _ hini) (hts _ hco) (by omega) (by rw [ev_sum]; omega) (by omega) (by omega) hd (hE p e Rm s m args below meth c Q hx h1 h2 hkk H locs cells slots A g1 g2 g3 g4 g5)
theorem Ev.mabs {x : Int32} (hL : Cond.methodLink M.1.cls idx Lib.Math.abs.name ∈ ev_ws) (hst : Cond.static Lib.Math.abs.name ∈ ev_ws) (hini : Cond.initialized "java/lang/Math" ∈ ev_ws) (hco : Cond.code Lib.Math.abs.name Lib.Math.abs.code 1 (some .int) ∈ ev_ws) (hr : (rest.map fun v => v.category).sum ≤ 8) (hd : decode M.2.1 pc = .ok (.invokestatic idx, 3))
    (hE : Ev G (d + 1) k n M (pc + 3) ls (.int (if 0 ≤ x then x else 0 - x) :: rest) h R) : Ev G (d + 1) k n M pc ls (.int x :: rest) h R := by
  intro p e Rm s m args below meth c Q hx h1 h2 hkk H locs cells slots A g1 g2 g3 g4 g5
  have hts := hx.2.2.2.2.1
  exact va_mabs hx.1 hx.2.1 (hx.2.2.1.trans g5.1.symm) hx.2.2.2.1 (hts _ hL) (hts _ hst) (hts _ hini) (hts _ hco) (by omega) (by rw [ev_sum]; omega) (by omega) (by omega) hd (hE p e Rm s m args below meth c Q hx h1 h2 hkk H locs cells slots A g1 g2 g3 g4 g5)
theorem Ev.objI {a : Nat} (hL : Cond.methodLink M.1.cls idx objectInit ∈ ev_ws) (hin : Cond.instanceMethod objectInit ∈ ev_ws) (hco : Cond.code objectInit ⟨#[0xb1]⟩ 1 none ∈ ev_ws) (hr : (rest.map fun v => v.category).sum ≤ 8) (hd : decode M.2.1 pc = .ok (.invokespecial idx, 3)) (hE : Ev G (d + 1) k n M (pc + 3) ls rest h R) : Ev G (d + 1) k n M pc ls (.ref a :: rest) h R := by
  intro p e Rm s m args below meth c Q hx h1 h2 hkk H locs cells slots A g1 g2 g3 g4 g5
  have hts := hx.2.2.2.2.1
  exact W.objInit hx.1 hx.2.1 hx.2.2.2.1 (hts _ hL) (hts _ hin) (hts _ hco) rfl (g5.1.trans hx.2.2.1.symm) rfl hd (by omega) (by show 2 * 0 + _ + 12 ≤ _; rw [ev_sum]; omega) (hE p e Rm s m args below meth c Q hx h1 h2 hkk H locs cells slots A g1 g2 g3 g4 g5)
end EVM
end
section
section EVB
variable {G : ev_G} {d k n : Nat} {M : ev_M} {pc idx : Nat} {ls rest st : List Value} {h : ev_H} {R : Option Value → ev_H → Prop}
theorem ev_cmp0 (x y : Int64) : lg_cmp x y = 0 ↔ x = y := by
  unfold lg_cmp
  simp only [gt_iff_lt, Int64.lt_iff_toInt_lt, ← Int64.toInt_inj]
  repeat' split
  all_goals simp_all
  all_goals omega
theorem ev_cmpL (x y : Int64) : lg_cmp x y < 0 ↔ x < y := by
  unfold lg_cmp
  simp only [gt_iff_lt, Int64.lt_iff_toInt_lt, ← Int64.toInt_inj]
  split
  · refine ⟨fun h => absurd h (by decide), fun h => by omega⟩
  · split
    · refine ⟨fun h => absurd h (by decide), fun h => by omega⟩
    · refine ⟨fun _ => by omega, fun _ => by decide⟩
theorem ev_cmpG (x y : Int64) : 0 < lg_cmp x y ↔ y < x := by
  unfold lg_cmp
  simp only [gt_iff_lt, Int64.lt_iff_toInt_lt, ← Int64.toInt_inj]
  split
  · refine ⟨fun _ => by omega, fun _ => by decide⟩
  · split
    · refine ⟨fun h => absurd h (by decide), fun h => by omega⟩
    · refine ⟨fun h => absurd h (by decide), fun h => by omega⟩
/-- two longs compared, and a branch -/
def ev_cnl (c : Jvm.ClassFile.Cond) (x y : Int64) (t f : Nat) : Prop × Nat × Nat := match c with
  | .eq => (x = y, t, f)
  | .ne => (x = y, f, t)
  | .lt => (x < y, t, f)
  | .ge => (x < y, f, t)
  | .gt => (y < x, t, f)
  | .le => (y < x, f, t)
theorem Ev.brl {c : Jvm.ClassFile.Cond} {o : Int} {x y : Int64} {P : Prop} {t f t1 : Nat} (hd : decode M.2.1 pc = .ok (.lcmp, 1)) (hd2 : decode M.2.1 (pc + 1) = .ok (.ifCond c o, 3)) (ht1 : ((pc + 1 : Nat) : Int) + o = (t1 : Int)) (hs : ev_cnl c x y t1 (pc + 4) = (P, t, f)) (ht : P → Ev G d k n M t ls rest h R) (hf : ¬ P → Ev G d k n M f ls rest h R) : Ev G d k n M pc ls (.long y :: .long x :: rest) h R := by
  refine Ev.one (i := .lcmp) (pc' := pc + 1) (ls' := ls) (st' := .int (lg_cmp x y) :: rest) hd rfl ?_
  have e3 : ((pc + 1 : Nat) : Int) + 3 = ((pc + 4 : Nat) : Int) := by omega
  cases c <;> simp only [ev_cnl, Prod.mk.injEq] at hs <;> obtain ⟨rfl, rfl, rfl⟩ := hs
  · exact Ev.br (P := lg_cmp x y = 0) (r := rest) hd2 (by simp only [ev_cnd, ht1, e3]) (fun q => ht ((ev_cmp0 x y).mp q)) (fun q => hf fun z => q ((ev_cmp0 x y).mpr z))
  · exact Ev.br (P := lg_cmp x y = 0) (r := rest) hd2 (by simp only [ev_cnd, ht1, e3]) (fun q => ht ((ev_cmp0 x y).mp q)) (fun q => hf fun z => q ((ev_cmp0 x y).mpr z))
  · exact Ev.br (P := lg_cmp x y < 0) (r := rest) hd2 (by simp only [ev_cnd, ht1, e3]) (fun q => ht ((ev_cmpL x y).mp q)) (fun q => hf fun z => q ((ev_cmpL x y).mpr z))
  · exact Ev.br (P := lg_cmp x y < 0) (r := rest) hd2 (by simp only [ev_cnd, ht1, e3]) (fun q => ht ((ev_cmpL x y).mp q)) (fun q => hf fun z => q ((ev_cmpL x y).mpr z))
  · exact Ev.br (P := 0 < lg_cmp x y) (r := rest) hd2 (by simp only [ev_cnd, ht1, e3]) (fun q => ht ((ev_cmpG x y).mp q)) (fun q => hf fun z => q ((ev_cmpG x y).mpr z))
  · exact Ev.br (P := 0 < lg_cmp x y) (r := rest) hd2 (by simp only [ev_cnd, ht1, e3]) (fun q => ht ((ev_cmpG x y).mp q)) (fun q => hf fun z => q ((ev_cmpG x y).mpr z))
theorem ev_words_cp : nativeFrameWords "java/lang/System" "arraycopy" 5 + 11 ≤ 50 := by decide
/-- System.arraycopy between two int rows -/
theorem Ev.acpyI {a0 a1 n0 n1 : Nat} {f g : Nat → Int32} {sp dp cn : Nat} {spI dpI cnI : Int32} (hL : Cond.methodLink M.1.cls idx arraycopyName ∈ ev_ws) (hnat : Cond.native arraycopyName ∈ ev_ws) (hst : Cond.static arraycopyName ∈ ev_ws) (hini : Cond.initialized "java/lang/System" ∈ ev_ws) (hd : decode M.2.1 pc = .ok (.invokestatic idx, 3)) (h0 : hat h a0 (aI n0 f)) (h1 : hat h a1 (aI n1 g)) (es : spI = nI sp) (ed : dpI = nI dp) (ec : cnI = nI cn) (hs : sp + cn ≤ n0) (hdp : dp + cn ≤ n1) (hn0 : n0 < 2147483648) (hn1 : n1 < 2147483648) (hr : (rest.map fun v => v.category).sum ≤ 8)
    (hE : Ev G (d + 1) k n M (pc + 3) ls rest (hset h a1 (aI n1 (va_cpy f g sp dp cn))) R) : Ev G (d + 1) k n M pc ls (.int cnI :: .int dpI :: .ref a1 :: .int spI :: .ref a0 :: rest) h R := by
  intro p e Rm s m args below meth c Q hx h1' h2' hkk H locs cells slots A g1 g2 g3 g4 g5
  subst es; subst ed; subst ec
  have hts := hx.2.2.2.2.1
  have hK := hx.2.2.2.2.2.2.2.2.1
  have hc0 := g1.at h0.1
  rw [h0.2] at hc0
  have hc0 : H[ev_ad G a0]? = some (vp_cell (G.2.2.2.1 0) (n0, .inl f)) := hc0
  have hc1 := g1.at h1.1
  rw [h1.2] at hc1
  have hc1 : H[ev_ad G a1]? = some (vp_cell (G.2.2.2.1 0) (n1, .inl g)) := hc1
  have c1 : (nI sp).toNatClampNeg = sp := nI_clamp (by omega)
  have c2 : (nI dp).toNatClampNeg = dp := nI_clamp (by omega)
  have c3 : (nI cn).toNatClampNeg = cn := nI_clamp (by omega)
  intro T hT X
  obtain ⟨-, k0, hk0, cm0, hkk0⟩ := (hK.2 0 _ rfl).1 n0 (fun j => .int (f j))
  obtain ⟨-, k1, hk1, cm1, hkk1⟩ := (hK.2 0 _ rfl).1 n1 (fun j => .int (g j))
  obtain ⟨vm', X', step⟩ := X.arraycopy hx.1 hx.2.2.2.1 (hts _ hL) (hts _ hnat) (hts _ hst) (hts _ hini) (src := ev_ad G a0) (dst := ev_ad G a1) (cs := vp_cell (G.2.2.2.1 0) (n0, .inl f)) (cd := vp_cell (G.2.2.2.1 0) (n1, .inl g)) (srcPos := nI sp) (destPos := nI dp) (n := nI cn) (by rw [hT]; exact hc0) (by rw [hT]; exact hc1)
    (fun _ h => by cases h) (fun _ h => by cases h) (fun h => by cases h) (fun h => by cases h) hk0 hk1 hkk0 hkk1 (by simp [refKind]) (nI_pos (by omega)) (nI_pos (by omega)) (nI_pos (by omega))
    (by rw [nI_toInt (by omega), nI_toInt (by omega)]; show ¬ _ > ((arrV _ n0 (fun j => .int (f j))).slots.size : Int); rw [arrV_size]; omega)
    (by rw [nI_toInt (by omega), nI_toInt (by omega)]; show ¬ _ > ((arrV _ n1 (fun j => .int (g j))).slots.size : Int); rw [arrV_size]; omega)
    (fun vm₁ _ i hi => by
      rw [c3] at hi
      have e : (vp_cell (G.2.2.2.1 0) (n0, .inl f)).slots.getD ((nI sp).toNatClampNeg + i) .null = .int (f (sp + i)) := by
        show (arrV _ n0 (fun j => .int (f j))).slots.getD _ _ = _
        rw [Array.getD_eq_getD_getElem?, c1, arrV_read _ _ (by omega)]
        rfl
      refine ⟨?_, ?_⟩
      · rw [e]; rfl
      · rw [e]; exact trivial)
    (g := F0 m pc A (.int (nI cn) :: .int (nI dp) :: .ref (ev_ad G a1) :: .int (nI sp) :: .ref (ev_ad G a0) :: rest.map (ev_tr G))) rfl (g5.1.trans hx.2.2.1.symm) (rest := rest.map (ev_tr G)) rfl (by rw [hx.2.1]; exact hd) (by omega) (by show 2 * 0 + _ + _ ≤ _; rw [ev_sum]; have := ev_words_cp; omega)
  have e1 : copied (vp_cell (G.2.2.2.1 0) (n0, .inl f)) (vp_cell (G.2.2.2.1 0) (n1, .inl g)) (nI sp) (nI dp) (nI cn) = vp_cell (G.2.2.2.1 0) (n1, .inl (va_cpy f g sp dp cn)) := by
    have := va_copied (sp := (nI sp).toNatClampNeg) (dp := (nI dp).toNatClampNeg) (n := (nI cn).toNatClampNeg) (fun z => Value.int z) (G.2.2.2.1 0) (G.2.2.2.1 0) f g (n0 := n0) (n1 := n1) (by rw [c1, c3]; exact hs)
    refine this.trans ?_
    rw [c1, c2, c3]
    rfl
  rw [e1] at X' step
  have hl : ev_ad G a1 < H.size := (Array.getElem?_eq_some_iff.mp hc1).1
  have hheap : ((T.setVm vm').setCell (ev_ad G a1) (vp_cell (G.2.2.2.1 0) (n1, .inl (va_cpy f g sp dp cn)))).heap = H.setIfInBounds (ev_ad G a1) (vp_cell (G.2.2.2.1 0) (n1, .inl (va_cpy f g sp dp cn))) := by rw [← hT]; rfl
  have oq : ∀ q : Nat, q ≠ ev_ad G a1 → (H.setIfInBounds (ev_ad G a1) (vp_cell (G.2.2.2.1 0) (n1, .inl (va_cpy f g sp dp cn))))[q]? = H[q]? := fun q hq => by simp [Array.getElem?_setIfInBounds, Ne.symm hq]
  obtain ⟨t, a2, b2⟩ := hE p e Rm s m args below meth c Q hx h1' h2' hkk _ _ cells slots A (g1.put h1.1 (c := aI n1 (va_cpy f g sp dp cn)) (show (H.setIfInBounds (ev_ad G a1) _)[ev_ad G a1]? = some _ by simp [Array.getElem?_setIfInBounds, hl]) (by simp) oq) (fun q hq => by
      rcases List.mem_append.mp hq with h | h
      · exact g2 q h
      · obtain ⟨z, -, hz⟩ := List.mem_map.mp h
        rw [← hz]
        exact ev_ad_ge h1.1 g1.2.1) g3 g4 g5 _ hheap X'
  exact ⟨t, step t a2, b2⟩
theorem Ev.acpyL {a0 a1 n0 n1 : Nat} {f g : Nat → Int64} {sp dp cn : Nat} {spI dpI cnI : Int32} (hL : Cond.methodLink M.1.cls idx arraycopyName ∈ ev_ws) (hnat : Cond.native arraycopyName ∈ ev_ws) (hst : Cond.static arraycopyName ∈ ev_ws) (hini : Cond.initialized "java/lang/System" ∈ ev_ws) (hd : decode M.2.1 pc = .ok (.invokestatic idx, 3)) (h0 : hat h a0 (aL n0 f)) (h1 : hat h a1 (aL n1 g)) (es : spI = nI sp) (ed : dpI = nI dp) (ec : cnI = nI cn) (hs : sp + cn ≤ n0) (hdp : dp + cn ≤ n1) (hn0 : n0 < 2147483648) (hn1 : n1 < 2147483648) (hr : (rest.map fun v => v.category).sum ≤ 8)
    (hE : Ev G (d + 1) k n M (pc + 3) ls rest (hset h a1 (aL n1 (va_cpy f g sp dp cn))) R) : Ev G (d + 1) k n M pc ls (.int cnI :: .int dpI :: .ref a1 :: .int spI :: .ref a0 :: rest) h R := by
  intro p e Rm s m args below meth c Q hx h1' h2' hkk H locs cells slots A g1 g2 g3 g4 g5
  subst es; subst ed; subst ec
  have hts := hx.2.2.2.2.1
  have hK := hx.2.2.2.2.2.2.2.2.1
  have hc0 := g1.at h0.1
  rw [h0.2] at hc0
  have hc0 : H[ev_ad G a0]? = some (vp_cell (G.2.2.2.1 1) (n0, .inr (.inl f))) := hc0
  have hc1 := g1.at h1.1
  rw [h1.2] at hc1
  have hc1 : H[ev_ad G a1]? = some (vp_cell (G.2.2.2.1 1) (n1, .inr (.inl g))) := hc1
  have c1 : (nI sp).toNatClampNeg = sp := nI_clamp (by omega)
  have c2 : (nI dp).toNatClampNeg = dp := nI_clamp (by omega)
  have c3 : (nI cn).toNatClampNeg = cn := nI_clamp (by omega)
  intro T hT X
  obtain ⟨-, k0, hk0, cm0, hkk0⟩ := (hK.2 1 _ rfl).1 n0 (fun j => .long (f j))
  obtain ⟨-, k1, hk1, cm1, hkk1⟩ := (hK.2 1 _ rfl).1 n1 (fun j => .long (g j))
  obtain ⟨vm', X', step⟩ := X.arraycopy hx.1 hx.2.2.2.1 (hts _ hL) (hts _ hnat) (hts _ hst) (hts _ hini) (src := ev_ad G a0) (dst := ev_ad G a1) (cs := vp_cell (G.2.2.2.1 1) (n0, .inr (.inl f))) (cd := vp_cell (G.2.2.2.1 1) (n1, .inr (.inl g))) (srcPos := nI sp) (destPos := nI dp) (n := nI cn) (by rw [hT]; exact hc0) (by rw [hT]; exact hc1)
    (fun _ h => by cases h) (fun _ h => by cases h) (fun h => by cases h) (fun h => by cases h) hk0 hk1 hkk0 hkk1 (by simp [refKind]) (nI_pos (by omega)) (nI_pos (by omega)) (nI_pos (by omega))
    (by rw [nI_toInt (by omega), nI_toInt (by omega)]; show ¬ _ > ((arrV _ n0 (fun j => .long (f j))).slots.size : Int); rw [arrV_size]; omega)
    (by rw [nI_toInt (by omega), nI_toInt (by omega)]; show ¬ _ > ((arrV _ n1 (fun j => .long (g j))).slots.size : Int); rw [arrV_size]; omega)
    (fun vm₁ _ i hi => by
      rw [c3] at hi
      have e : (vp_cell (G.2.2.2.1 1) (n0, .inr (.inl f))).slots.getD ((nI sp).toNatClampNeg + i) .null = .long (f (sp + i)) := by
        show (arrV _ n0 (fun j => .long (f j))).slots.getD _ _ = _
        rw [Array.getD_eq_getD_getElem?, c1, arrV_read _ _ (by omega)]
        rfl
      refine ⟨?_, ?_⟩
      · rw [e]; rfl
      · rw [e]; exact trivial)
    (g := F0 m pc A (.int (nI cn) :: .int (nI dp) :: .ref (ev_ad G a1) :: .int (nI sp) :: .ref (ev_ad G a0) :: rest.map (ev_tr G))) rfl (g5.1.trans hx.2.2.1.symm) (rest := rest.map (ev_tr G)) rfl (by rw [hx.2.1]; exact hd) (by omega) (by show 2 * 0 + _ + _ ≤ _; rw [ev_sum]; have := ev_words_cp; omega)
  have e1 : copied (vp_cell (G.2.2.2.1 1) (n0, .inr (.inl f))) (vp_cell (G.2.2.2.1 1) (n1, .inr (.inl g))) (nI sp) (nI dp) (nI cn) = vp_cell (G.2.2.2.1 1) (n1, .inr (.inl (va_cpy f g sp dp cn))) := by
    have := va_copied (sp := (nI sp).toNatClampNeg) (dp := (nI dp).toNatClampNeg) (n := (nI cn).toNatClampNeg) (fun z => Value.long z) (G.2.2.2.1 1) (G.2.2.2.1 1) f g (n0 := n0) (n1 := n1) (by rw [c1, c3]; exact hs)
    refine this.trans ?_
    rw [c1, c2, c3]
    rfl
  rw [e1] at X' step
  have hl : ev_ad G a1 < H.size := (Array.getElem?_eq_some_iff.mp hc1).1
  have hheap : ((T.setVm vm').setCell (ev_ad G a1) (vp_cell (G.2.2.2.1 1) (n1, .inr (.inl (va_cpy f g sp dp cn))))).heap = H.setIfInBounds (ev_ad G a1) (vp_cell (G.2.2.2.1 1) (n1, .inr (.inl (va_cpy f g sp dp cn)))) := by rw [← hT]; rfl
  have oq : ∀ q : Nat, q ≠ ev_ad G a1 → (H.setIfInBounds (ev_ad G a1) (vp_cell (G.2.2.2.1 1) (n1, .inr (.inl (va_cpy f g sp dp cn)))))[q]? = H[q]? := fun q hq => by simp [Array.getElem?_setIfInBounds, Ne.symm hq]
  obtain ⟨t, a2, b2⟩ := hE p e Rm s m args below meth c Q hx h1' h2' hkk _ _ cells slots A (g1.put h1.1 (c := aL n1 (va_cpy f g sp dp cn)) (show (H.setIfInBounds (ev_ad G a1) _)[ev_ad G a1]? = some _ by simp [Array.getElem?_setIfInBounds, hl]) (by simp) oq) (fun q hq => by
      rcases List.mem_append.mp hq with h | h
      · exact g2 q h
      · obtain ⟨z, -, hz⟩ := List.mem_map.mp h
        rw [← hz]
        exact ev_ad_ge h1.1 g1.2.1) g3 g4 g5 _ hheap X'
  exact ⟨t, step t a2, b2⟩
/-- new int[N][K]: the outer row, then the inner ones -/
def hgrid (h : ev_H) (N K : Nat) : ev_H := (h.1 + 1 + N, fun j => if j = h.1 then aG N (fun i => if i < N then some (h.1 + 1 + i) else none) else if h.1 < j ∧ j < h.1 + 1 + N then aI K (fun _ => 0) else h.2 j)
theorem ev_outer (c : ClassId) (N h0 : Nat) : ∀ i : Nat, Jvm.Free.Multi.outerC c N h0 i = arrV c N (fun j => va_rf (if j < i then some (h0 + 1 + j) else none))
  | 0 => by
    show ({ cls := c, slots := Array.replicate N .null, vm := .none } : Cell) = _
    rw [arrV_new]
    refine congrArg (arrV c N) (funext fun j => ?_)
    simp [va_rf]
  | i + 1 => by
    show (Jvm.Free.Multi.outerC c N h0 i).setSlot i (.ref (h0 + 1 + i)) = _
    rw [ev_outer c N h0 i, arrV_store]
    refine congrArg (arrV c N) (funext fun j => ?_)
    by_cases e : j = i
    · subst e
      simp [updV, va_rf]
    · by_cases h : j < i
      · simp [updV, e, h, Nat.lt_succ_of_lt h]
      · simp [updV, e, h, show ¬ j < i + 1 by omega]
theorem Ev.mna {N K : Nat} {nN nK : Int32} (hL : Cond.classLink M.1.cls idx "[[I" ∈ ev_ws) (hA : Cond.arrayClass .int ∈ ev_ws) (hd : decode M.2.1 pc = .ok (.multianewarray idx 2, 4)) (hb : h.1 + 1 + N ≤ ev_big) (eN : nN = nI N) (eK : nK = nI K) (hN : N < 10000) (hK : K < 10000)
    (hE : Ev G d k n M (pc + 4) ls (.ref h.1 :: rest) (hgrid h N K) R) : Ev G d (k + (1 + N)) (n + (N + N * K)) M pc ls (.int nK :: .int nN :: rest) h R := by
  intro p e Rm s m args below meth c Q hx h1 h2 hkk H locs cells slots A g1 g2 g3 g4 g5
  subst eN; subst eK
  have c1 : (nI N).toNatClampNeg = N := nI_clamp (by omega)
  have c2 : (nI K).toNatClampNeg = K := nI_clamp (by omega)
  have hts := hx.2.2.2.2.1
  have hKK := hx.2.2.2.2.2.2.2.2
  intro T hT Xs
  obtain ⟨vm₁, cA, comp, -, fA, fC, hO, -, X', step⟩ := Xs.multianewarray2F (ty := .int) hx.1 hx.2.2.2.1 (hts _ hL) (show (Cond.arrayOver (.array .int)).before args s = true from hKK.2.2.1.2) (hts _ hA) (g := F0 m pc A (.int (nI K) :: .int (nI N) :: rest.map (ev_tr G))) rfl (by rw [hx.2.1]; exact hd) rfl (nI_pos (by omega)) (nI_pos (by omega)) (by rw [c1]; omega) (by rw [c2]; show K * 4 ≤ _; omega) (by rw [c2]; omega) rfl rfl (by rw [c1]; omega) (by rw [c1, c2]; omega)
  rw [c1, c2] at X' step
  have eA : cA = G.2.2.2.1 3 := ev_known_arr (t := 3) (ty := .array .int) hKK rfl (fun C q => by cases q) fA
  have eC : comp = G.2.2.2.1 0 := ev_known_arr (t := 0) (ty := .int) hKK rfl (fun C q => by cases q) fC
  subst eA; subst eC
  generalize hF : Jvm.Free.Multi.fill (T.setVm vm₁) (G.2.2.2.1 3) (G.2.2.2.1 0) N K (defaultValue .int) N = F at X' step
  have hTh : (T.setVm vm₁).heap = H := hT
  obtain ⟨f1, f2, -, -⟩ := Jvm.Free.Multi.fill_facts (T.setVm vm₁) (G.2.2.2.1 3) (G.2.2.2.1 0) N K (defaultValue .int) N
  rw [hF, hTh] at f1 f2
  have hold : ∀ x : Nat, x < H.size → F.heap[x]? = H[x]? := fun x hx => by
    have := Jvm.Free.Multi.fill_old (T.setVm vm₁) (G.2.2.2.1 3) (G.2.2.2.1 0) N K (defaultValue .int) (a := x) (by rw [hTh]; exact hx) N
    rw [hF, hTh] at this
    exact this
  have hrow : ∀ j : Nat, j < N → F.heap[H.size + 1 + j]? = some (Jvm.Free.Multi.innerC (G.2.2.2.1 0) K (defaultValue .int)) := fun j hj => by
    have := Jvm.Free.Multi.fill_inner (T.setVm vm₁) (G.2.2.2.1 3) (G.2.2.2.1 0) N K (defaultValue .int) N j hj
    rw [hF, hTh] at this
    exact this
  rw [ev_outer] at f2
  have hsz := g1.1
  have hrel : ev_Rel G (hgrid h N K) F.heap := by
    refine ⟨by rw [f1, hsz]; show _ = _ + (h.1 + 1 + N); omega, hb, fun q hq => (hold q (by omega)).trans (g1.2.2.1 q hq), fun j hj => ?_⟩
    have hj : j < h.1 + 1 + N := hj
    by_cases e1 : j = h.1
    · subst e1
      have e9 : (hgrid h N K).2 h.1 = aG N (fun i => if i < N then some (h.1 + 1 + i) else none) := by simp [hgrid]
      rw [e9]
      show F.heap[G.2.1.size + h.1]? = some (vp_cell _ _)
      rw [← hsz, f2, vp_cell_q]
      refine congrArg some (congrArg (arrV _ N) (funext fun i => ?_))
      by_cases hi : i < N
      · simp only [if_pos hi, Option.map_some, va_rf]
        rw [show ev_ad G (h.1 + 1 + i) = G.2.1.size + (h.1 + 1 + i) from if_pos (by omega), hsz]
        exact congrArg Value.ref (by simp only [Nat.add_assoc])
      · simp only [if_neg hi, Option.map_none, va_rf]
    · by_cases e2 : h.1 < j
      · have e9 : (hgrid h N K).2 j = aI K (fun _ => 0) := by simp [hgrid, e1, e2, hj]
        rw [e9]
        show F.heap[G.2.1.size + j]? = some (vp_cell _ _)
        have := hrow (j - h.1 - 1) (by omega)
        rw [show H.size + 1 + (j - h.1 - 1) = G.2.1.size + j by omega] at this
        rw [this, vp_cell_i]
        exact congrArg some (arrV_new _ _ _)
      · have e9 : (hgrid h N K).2 j = h.2 j := by simp [hgrid, e1, e2]
        rw [e9]
        exact (g1.2.2.2 j (by omega)).kept (hold _ (by show G.2.1.size + j < _; omega))
  have := hE p e Rm s m args below meth c Q hx h1 h2 hkk F.heap locs (cells + 1 + N) (slots + N + N * K) A hrel g2 (by omega) (by omega) g5 F rfl X'
  rw [List.map_cons] at this
  simp only [ev_tr] at this
  rw [show ev_ad G h.1 = G.2.1.size + h.1 from if_pos (by omega), ← hsz] at this
  obtain ⟨t, a1, b1⟩ := this
  refine ⟨t, step t ?_, b1⟩
  have e8 : T.heap.size = H.size := by rw [hT]
  rw [e8]
  exact a1
end EVB
end
section
/-! calls of methods whose answer is known, and of others: the callee's contract first -/
section EVX
variable {G : ev_G} {d k n k1 n1 : Nat} {M M' : ev_M} {pc idx na : Nat} {ls rest as st : List Value} {h : ev_H} {R : Option Value → ev_H → Prop}
theorem Ev.cV {a ci : Nat} (hL : Cond.methodLink M.1.cls idx M'.1 ∈ ev_ws) (hok : ev_ok M' na) (hin : Cond.instanceMethod M'.1 ∈ ev_ws) (hse : Cond.selects M'.1.cls M'.1 M'.1 ∈ ev_ws) (hd : decode M.2.1 pc = .ok (.invokevirtual idx, 3)) (hc : ∃ fs, hat h a (oC ci fs)) (hcl : (vwCl[ci]?).map (fun r => r.1) = some M'.1.cls)
    (hst : st = as.reverse ++ .ref a :: rest) (hn : as.length = na) (hr : (rest.map fun v => v.category).sum ≤ 8) (hf : (ev_flat (.ref a :: as)).length ≤ M'.2.2.1) (hE : Ev G d k1 n1 M' 0 (ev_ent M'.2.2.1 (.ref a :: as)) [] h (fun r h' => Ev G (d + 1) k n M (pc + 3) ls (r.toList ++ rest) h' R)) : Ev G (d + 1) (k1 + k) (n1 + n) M pc ls st h R := by
  obtain ⟨fs, hc⟩ := hc
  exact Ev.callV hL hok hin hse hd hc hcl hst hn hr hf hE (fun r h' q => q)
theorem Ev.cS (hL : Cond.methodLink M.1.cls idx M'.1 ∈ ev_ws) (hok : ev_ok M' na) (hstat : Cond.static M'.1 ∈ ev_ws) (hd : decode M.2.1 pc = .ok (.invokestatic idx, 3))
    (hst : st = as.reverse ++ rest) (hn : as.length = na) (hr : (rest.map fun v => v.category).sum ≤ 8) (hf : (ev_flat as).length ≤ M'.2.2.1) (hE : Ev G d k1 n1 M' 0 (ev_ent M'.2.2.1 as) [] h (fun r h' => Ev G (d + 1) k n M (pc + 3) ls (r.toList ++ rest) h' R)) : Ev G (d + 1) (k1 + k) (n1 + n) M pc ls st h R :=
  Ev.callS hL hok hstat hd hst hn hr hf hE (fun r h' q => q)
theorem Ev.cSN {host : String} (hL : Cond.methodLinkNest M.1.cls idx M'.1 host ∈ ev_nest) (hok : ev_ok M' na) (hstat : Cond.static M'.1 ∈ ev_ws) (hd : decode M.2.1 pc = .ok (.invokestatic idx, 3))
    (hst : st = as.reverse ++ rest) (hn : as.length = na) (hr : (rest.map fun v => v.category).sum ≤ 8) (hf : (ev_flat as).length ≤ M'.2.2.1) (hE : Ev G d k1 n1 M' 0 (ev_ent M'.2.2.1 as) [] h (fun r h' => Ev G (d + 1) k n M (pc + 3) ls (r.toList ++ rest) h' R)) : Ev G (d + 1) (k1 + k) (n1 + n) M pc ls st h R :=
  Ev.callSN hL hok hstat hd hst hn hr hf hE (fun r h' q => q)
theorem Ev.cI {a : Nat} (hL : Cond.methodLink M.1.cls idx M'.1 ∈ ev_ws) (hok : ev_ok M' na) (hin : Cond.instanceMethod M'.1 ∈ ev_ws) (hi : M'.1.name = "<init>") (hret : M'.2.2.2 = none) (hd : decode M.2.1 pc = .ok (.invokespecial idx, 3))
    (hst : st = as.reverse ++ .ref a :: rest) (hn : as.length = na) (hr : (rest.map fun v => v.category).sum ≤ 8) (hf : (ev_flat (.ref a :: as)).length ≤ M'.2.2.1) (hE : Ev G d k1 n1 M' 0 (ev_ent M'.2.2.1 (.ref a :: as)) [] h (fun r h' => Ev G (d + 1) k n M (pc + 3) ls (r.toList ++ rest) h' R)) : Ev G (d + 1) (k1 + k) (n1 + n) M pc ls st h R :=
  Ev.callI hL hok hin hi hret hd hst hn hr hf hE (fun r h' q => q)
theorem Ev.cIN {host : String} {a : Nat} (hL : Cond.methodLinkNest M.1.cls idx M'.1 host ∈ ev_nest) (hok : ev_ok M' na) (hin : Cond.instanceMethod M'.1 ∈ ev_ws) (hi : M'.1.name = "<init>") (hret : M'.2.2.2 = none) (hd : decode M.2.1 pc = .ok (.invokespecial idx, 3))
    (hst : st = as.reverse ++ .ref a :: rest) (hn : as.length = na) (hr : (rest.map fun v => v.category).sum ≤ 8) (hf : (ev_flat (.ref a :: as)).length ≤ M'.2.2.1) (hE : Ev G d k1 n1 M' 0 (ev_ent M'.2.2.1 (.ref a :: as)) [] h (fun r h' => Ev G (d + 1) k n M (pc + 3) ls (r.toList ++ rest) h' R)) : Ev G (d + 1) (k1 + k) (n1 + n) M pc ls st h R :=
  Ev.callIN hL hok hin hi hret hd hst hn hr hf hE (fun r h' q => q)
/-- new, with the number of cells known -/
theorem Ev.new' {ci a : Nat} {r : vw_C} {tyf : Nat → FieldType} {fs : List Value} (hcl : ev_cls ci r tyf) (hL : Cond.classLink M.1.cls idx r.1 ∈ ev_ws) (hi : Cond.instantiable r.1 r.2.2 ∈ ev_ws) (hini : Cond.initialized r.1 ∈ ev_ws) (hd : decode M.2.1 pc = .ok (.new idx, 3)) (ha : h.1 = a) (hb : a < ev_big) (hfs : ∀ j, j < r.2.2 → defaultValue (tyf j) = vp_V fs j) (hfr : ∀ v ∈ fs, ∀ a, v ≠ .ref a)
    (hE : Ev G d k n M (pc + 3) ls (.ref a :: rest) (hpush h (oC ci fs)) R) : Ev G d (k + 1) (n + r.2.2) M pc ls rest h R := by
  subst ha; exact Ev.new hcl hL hi hini hd hb hfs hfr hE
theorem Ev.newI' {N a : Nat} (hd : decode M.2.1 pc = .ok (.newarray .int, 2)) (hA : Cond.arrayClass .int ∈ ev_ws) (ha : h.1 = a) (hb : a < ev_big) {i : Int32} (hi : i = nI N) (hN : N < 100000) (hE : Ev G d k n M (pc + 2) ls (.ref a :: rest) (hpush h (aI N (fun _ => 0))) R) : Ev G d (k + 1) (n + N) M pc ls (.int i :: rest) h R := by
  subst ha; exact Ev.newI hA hd hb hi hN hE
theorem Ev.newL' {N a : Nat} (hd : decode M.2.1 pc = .ok (.newarray .long, 2)) (hA : Cond.arrayClass .long ∈ ev_ws) (ha : h.1 = a) (hb : a < ev_big) {i : Int32} (hi : i = nI N) (hN : N < 100000) (hE : Ev G d k n M (pc + 2) ls (.ref a :: rest) (hpush h (aL N (fun _ => 0))) R) : Ev G d (k + 1) (n + N) M pc ls (.int i :: rest) h R := by
  subst ha; exact Ev.newL hA hd hb hi hN hE
theorem Ev.newB' {N a : Nat} (hd : decode M.2.1 pc = .ok (.newarray .byte, 2)) (hA : Cond.arrayClass .byte ∈ ev_ws) (ha : h.1 = a) (hb : a < ev_big) {i : Int32} (hi : i = nI N) (hN : N < 100000) (hE : Ev G d k n M (pc + 2) ls (.ref a :: rest) (hpush h (aB N (fun _ => 0))) R) : Ev G d (k + 1) (n + N) M pc ls (.int i :: rest) h R := by
  subst ha; exact Ev.newB hA hd hb hi hN hE
theorem Ev.newS' {N a : Nat} (hd : decode M.2.1 pc = .ok (.anewarray idx, 3)) (hL : Cond.classLink M.1.cls idx "AlikeStore$Store" ∈ ev_ws) (ha : h.1 = a) (hb : a < ev_big) {i : Int32} (hi : i = nI N) (hN : N < 100000) (hE : Ev G d k n M (pc + 3) ls (.ref a :: rest) (hpush h (aS N (fun _ => none))) R) : Ev G d (k + 1) (n + N) M pc ls (.int i :: rest) h R := by
  subst ha; exact Ev.newS hL hd hb hi hN hE
theorem Ev.mna' {N K a : Nat} {nN nK : Int32} (hd : decode M.2.1 pc = .ok (.multianewarray idx 2, 4)) (hL : Cond.classLink M.1.cls idx "[[I" ∈ ev_ws) (hA : Cond.arrayClass .int ∈ ev_ws) (ha : h.1 = a) (hb : a + 1 + N ≤ ev_big) (eN : nN = nI N) (eK : nK = nI K) (hN : N < 10000) (hK : K < 10000)
    (hE : Ev G d k n M (pc + 4) ls (.ref a :: rest) (hgrid h N K) R) : Ev G d (k + (1 + N)) (n + (N + N * K)) M pc ls (.int nK :: .int nN :: rest) h R := by
  subst ha; exact Ev.mna hL hA hd hb eN eK hN hK hE
end EVX
/-- what a boolean method answers -/
def b2i (b : Bool) : Int32 := if b then 1 else 0
theorem b2i_nb (b : Bool) : narrow .boolean (.int (b2i b)) = .int (b2i b) := by cases b <;> rfl
theorem b2i_0 (b : Bool) : b2i b = 0 ↔ b = false := by cases b <;> decide
theorem b2i_1 (b : Bool) : b2i b = 1 ↔ b = true := by cases b <;> decide
theorem b2i_t : b2i true = 1 := rfl
theorem b2i_f : b2i false = 0 := rfl
theorem ne_i {x : Int32} {v : Int} (w : Int32) (hw : w.toInt = v) (h : ¬ x = w) : x.toInt ≠ v := fun q => h (Int32.toInt_inj.mp (q.trans hw.symm))
theorem no_ref {l : List Value} (h : l.all (fun v => match v with | .ref _ => false | _ => true) = true) : ∀ v ∈ l, ∀ a, v ≠ .ref a := by
  intro v hv a e
  have := List.all_eq_true.mp h v hv
  subst e
  cases this
section EVX0
variable {G : ev_G} {d k n : Nat} {M M' : ev_M} {pc idx na : Nat} {ls rest as st : List Value} {h : ev_H} {R : Option Value → ev_H → Prop}
theorem ev_00 {pc : Nat} {ls st : List Value} (h1 : Ev G d (0 + k) (0 + n) M pc ls st h R) : Ev G d k n M pc ls st h R := by simpa only [Nat.zero_add] using h1
theorem Ev.cV0 {a ci : Nat} (hL : Cond.methodLink M.1.cls idx M'.1 ∈ ev_ws) (hok : ev_ok M' na) (hin : Cond.instanceMethod M'.1 ∈ ev_ws) (hse : Cond.selects M'.1.cls M'.1 M'.1 ∈ ev_ws) (hd : decode M.2.1 pc = .ok (.invokevirtual idx, 3)) (hc : ∃ fs, hat h a (oC ci fs)) (hcl : (vwCl[ci]?).map (fun r => r.1) = some M'.1.cls)
    (hst : st = as.reverse ++ .ref a :: rest) (hn : as.length = na) (hr : (rest.map fun v => v.category).sum ≤ 8) (hf : (ev_flat (.ref a :: as)).length ≤ M'.2.2.1) (hE : Ev G d 0 0 M' 0 (ev_ent M'.2.2.1 (.ref a :: as)) [] h (fun r h' => Ev G (d + 1) k n M (pc + 3) ls (r.toList ++ rest) h' R)) : Ev G (d + 1) k n M pc ls st h R :=
  ev_00 (Ev.cV hL hok hin hse hd hc hcl hst hn hr hf hE)
theorem Ev.cS0 (hL : Cond.methodLink M.1.cls idx M'.1 ∈ ev_ws) (hok : ev_ok M' na) (hstat : Cond.static M'.1 ∈ ev_ws) (hd : decode M.2.1 pc = .ok (.invokestatic idx, 3))
    (hst : st = as.reverse ++ rest) (hn : as.length = na) (hr : (rest.map fun v => v.category).sum ≤ 8) (hf : (ev_flat as).length ≤ M'.2.2.1) (hE : Ev G d 0 0 M' 0 (ev_ent M'.2.2.1 as) [] h (fun r h' => Ev G (d + 1) k n M (pc + 3) ls (r.toList ++ rest) h' R)) : Ev G (d + 1) k n M pc ls st h R :=
  ev_00 (Ev.cS hL hok hstat hd hst hn hr hf hE)
theorem Ev.cSN0 {host : String} (hL : Cond.methodLinkNest M.1.cls idx M'.1 host ∈ ev_nest) (hok : ev_ok M' na) (hstat : Cond.static M'.1 ∈ ev_ws) (hd : decode M.2.1 pc = .ok (.invokestatic idx, 3))
    (hst : st = as.reverse ++ rest) (hn : as.length = na) (hr : (rest.map fun v => v.category).sum ≤ 8) (hf : (ev_flat as).length ≤ M'.2.2.1) (hE : Ev G d 0 0 M' 0 (ev_ent M'.2.2.1 as) [] h (fun r h' => Ev G (d + 1) k n M (pc + 3) ls (r.toList ++ rest) h' R)) : Ev G (d + 1) k n M pc ls st h R :=
  ev_00 (Ev.cSN hL hok hstat hd hst hn hr hf hE)
end EVX0
end
section
def bt (x : Int32) (i : Nat) : Bool := x.toBitVec.getLsbD i
theorem b_ext {x y : Int32} (h : ∀ i, i < 32 → bt x i = bt y i) : x = y := Int32.toBitVec_inj.mp (BitVec.eq_of_getLsbD_eq (fun i hi => h i hi))
theorem b_or (x y : Int32) (i : Nat) : bt (x ||| y) i = (bt x i || bt y i) := by unfold bt; rw [Int32.toBitVec_or, BitVec.getLsbD_or]
theorem b_and (x y : Int32) (i : Nat) : bt (x &&& y) i = (bt x i && bt y i) := by unfold bt; rw [Int32.toBitVec_and, BitVec.getLsbD_and]
theorem b_xor (x y : Int32) (i : Nat) : bt (x ^^^ y) i = (bt x i ^^ bt y i) := by unfold bt; rw [Int32.toBitVec_xor, BitVec.getLsbD_xor]
theorem b_big {x : Int32} {i : Nat} (h : 32 ≤ i) : bt x i = false := BitVec.getLsbD_of_ge _ _ h
theorem b_m1 : ∀ i, i < 32 → bt (-1) i = true := by decide +kernel
theorem b_0 (i : Nat) : bt 0 i = false := BitVec.getLsbD_zero
theorem s_l : ∀ n, n < 32 → ((nI n &&& 31).toBitVec.smod 32).toNat = n := by decide +kernel
theorem s_u : ∀ n, n < 32 → (((nI n).toUInt32 &&& Int32.toUInt32 31).toBitVec % 32).toNat = n := by decide +kernel
theorem b_shl (n : Nat) (hn : n < 32) (x : Int32) {i : Nat} (hi : i < 32) : bt (x <<< (nI n &&& 31)) i = (decide (n ≤ i) && bt x (i - n)) := by
  unfold bt
  rw [Int32.toBitVec_shiftLeft]
  show (x.toBitVec <<< ((nI n &&& 31).toBitVec.smod 32).toNat).getLsbD i = _
  rw [s_l n hn, BitVec.getLsbD_shiftLeft]
  rcases Nat.lt_or_ge i n with h | h
  · simp [h, Nat.not_le.mpr h]
  · simp [hi, h, Nat.not_lt.mpr h]
theorem b_ushr (n : Nat) (hn : n < 32) (x : Int32) (i : Nat) : bt ((x.toUInt32 >>> ((nI n).toUInt32 &&& Int32.toUInt32 31)).toInt32) i = bt x (n + i) := by
  show (x.toUInt32 >>> ((nI n).toUInt32 &&& Int32.toUInt32 31)).toBitVec.getLsbD i = x.toUInt32.toBitVec.getLsbD (n + i)
  rw [UInt32.toBitVec_shiftRight]
  show (x.toUInt32.toBitVec >>> (((nI n).toUInt32 &&& Int32.toUInt32 31).toBitVec % 32).toNat).getLsbD i = _
  rw [s_u n hn, BitVec.getLsbD_ushiftRight]
theorem b_sshr (n : Nat) (hn : n < 32) (x : Int32) {i : Nat} (hi : i < 32) : bt (x >>> (nI n &&& 31)) i = if n + i < 32 then bt x (n + i) else bt x 31 := by
  unfold bt
  rw [Int32.toBitVec_shiftRight]
  show (x.toBitVec.sshiftRight ((nI n &&& 31).toBitVec.smod 32).toNat).getLsbD i = _
  rw [s_l n hn, BitVec.getLsbD_sshiftRight, BitVec.msb_eq_getLsbD_last]
  simp [hi]
/-! longs by their bits -/
def lt (x : Int64) (i : Nat) : Bool := x.toBitVec.getLsbD i
theorem l_ext {x y : Int64} (h : ∀ i, i < 64 → lt x i = lt y i) : x = y := Int64.toBitVec_inj.mp (BitVec.eq_of_getLsbD_eq (fun i hi => h i hi))
theorem l_or (x y : Int64) (i : Nat) : lt (x ||| y) i = (lt x i || lt y i) := by unfold lt; rw [Int64.toBitVec_or, BitVec.getLsbD_or]
theorem l_and (x y : Int64) (i : Nat) : lt (x &&& y) i = (lt x i && lt y i) := by unfold lt; rw [Int64.toBitVec_and, BitVec.getLsbD_and]
theorem l_xor (x y : Int64) (i : Nat) : lt (x ^^^ y) i = (lt x i ^^ lt y i) := by unfold lt; rw [Int64.toBitVec_xor, BitVec.getLsbD_xor]
theorem l_big {x : Int64} {i : Nat} (h : 64 ≤ i) : lt x i = false := BitVec.getLsbD_of_ge _ _ h
theorem l_m1 : ∀ i, i < 64 → lt (-1) i = true := by decide +kernel
theorem l_0 (i : Nat) : lt 0 i = false := BitVec.getLsbD_zero
theorem l_sl : ∀ n, n < 64 → (((nI n).toInt64 &&& 63).toBitVec.smod 64).toNat = n := by decide +kernel
theorem l_su : ∀ n, n < 64 → (((nI n).toInt64.toUInt64 &&& Int64.toUInt64 63).toBitVec % 64).toNat = n := by decide +kernel
theorem l_shl (n : Nat) (hn : n < 64) (x : Int64) {i : Nat} (hi : i < 64) : lt (x <<< ((nI n).toInt64 &&& 63)) i = (decide (n ≤ i) && lt x (i - n)) := by
  unfold lt
  rw [Int64.toBitVec_shiftLeft]
  show (x.toBitVec <<< (((nI n).toInt64 &&& 63).toBitVec.smod 64).toNat).getLsbD i = _
  rw [l_sl n hn, BitVec.getLsbD_shiftLeft]
  rcases Nat.lt_or_ge i n with h | h
  · simp [h, Nat.not_le.mpr h]
  · simp [hi, h, Nat.not_lt.mpr h]
theorem l_ushr (n : Nat) (hn : n < 64) (x : Int64) (i : Nat) : lt ((x.toUInt64 >>> ((nI n).toInt64.toUInt64 &&& Int64.toUInt64 63)).toInt64) i = lt x (n + i) := by
  show (x.toUInt64 >>> ((nI n).toInt64.toUInt64 &&& Int64.toUInt64 63)).toBitVec.getLsbD i = x.toUInt64.toBitVec.getLsbD (n + i)
  rw [UInt64.toBitVec_shiftRight]
  show (x.toUInt64.toBitVec >>> (((nI n).toInt64.toUInt64 &&& Int64.toUInt64 63).toBitVec % 64).toNat).getLsbD i = _
  rw [l_su n hn, BitVec.getLsbD_ushiftRight]
theorem l_sshr (n : Nat) (hn : n < 64) (x : Int64) {i : Nat} (hi : i < 64) : lt (x >>> ((nI n).toInt64 &&& 63)) i = if n + i < 64 then lt x (n + i) else lt x 63 := by
  unfold lt
  rw [Int64.toBitVec_shiftRight]
  show (x.toBitVec.sshiftRight (((nI n).toInt64 &&& 63).toBitVec.smod 64).toNat).getLsbD i = _
  rw [l_sl n hn, BitVec.getLsbD_sshiftRight, BitVec.msb_eq_getLsbD_last]
  simp [hi]
theorem bit1I (j : Nat) (hj : j < 32) : bt 1 j = decide (j = 0) := (by decide +kernel : ∀ j, j < 32 → bt 1 j = decide (j = 0)) j hj
theorem bit1L (j : Nat) (hj : j < 64) : lt 1 j = decide (j = 0) := (by decide +kernel : ∀ j, j < 64 → lt 1 j = decide (j = 0)) j hj
/-! how many of the first hold -/
def cnt (p : Nat → Bool) : Nat → Nat
  | 0 => 0
  | n + 1 => cnt p n + if p n then 1 else 0
theorem cnt_le (p : Nat → Bool) : ∀ n, cnt p n ≤ n
  | 0 => Nat.le_refl _
  | n + 1 => by have := cnt_le p n; unfold cnt; split <;> omega
theorem cnt_congr {p q : Nat → Bool} : ∀ {n : Nat}, (∀ k, k < n → p k = q k) → cnt p n = cnt q n
  | 0, _ => rfl
  | n + 1, h => by unfold cnt; rw [cnt_congr (fun k hk => h k (Nat.lt_succ_of_lt hk)), h n (Nat.lt_succ_self n)]
theorem cnt_split (p : Nat → Bool) (m : Nat) : ∀ n, cnt p (m + n) = cnt p m + cnt (fun j => p (m + j)) n
  | 0 => rfl
  | n + 1 => by
    show cnt p (m + n) + (if p (m + n) then 1 else 0) = cnt p m + (cnt (fun j => p (m + j)) n + (if p (m + n) then 1 else 0))
    rw [cnt_split p m n, Nat.add_assoc]
theorem cnt_zero {p : Nat → Bool} : ∀ {n : Nat}, (∀ k, k < n → p k = false) → cnt p n = 0
  | 0, _ => rfl
  | n + 1, h => by unfold cnt; rw [cnt_zero (fun k hk => h k (Nat.lt_succ_of_lt hk)), h n (Nat.lt_succ_self n)]; rfl
theorem cnt_mono {p q : Nat → Bool} : ∀ {n : Nat}, (∀ k, k < n → p k = true → q k = true) → cnt p n ≤ cnt q n
  | 0, _ => Nat.le_refl _
  | n + 1, h => by
    have := cnt_mono (fun k hk => h k (Nat.lt_succ_of_lt hk))
    have h2 := h n (Nat.lt_succ_self n)
    unfold cnt
    by_cases hp : p n = true
    · rw [if_pos hp, if_pos (h2 hp)]; omega
    · rw [if_neg hp]; split <;> omega
def pop (x : Int64) : Nat := cnt (lt x) 64
def pop32 (x : Int32) : Nat := cnt (bt x) 32
theorem pop_le (x : Int64) : pop x ≤ 64 := cnt_le _ _
theorem pop32_le (x : Int32) : pop32 x ≤ 32 := cnt_le _ _
/-! a number whose bits are those that hold -/
def setN (p : Nat → Bool) : Nat → Nat
  | 0 => 0
  | n + 1 => setN p n + if p n then 2 ^ n else 0
theorem setN_lt (p : Nat → Bool) : ∀ n, setN p n < 2 ^ n
  | 0 => Nat.one_pos
  | n + 1 => by have := setN_lt p n; unfold setN; rw [Nat.pow_succ]; split <;> omega
theorem setN_bit (p : Nat → Bool) : ∀ (n j : Nat), (setN p n).testBit j = (decide (j < n) && p j)
  | 0, j => by simp [setN]
  | n + 1, j => by
    have h1 := setN_lt p n
    have ih := setN_bit p n
    unfold setN
    by_cases hp : p n = true
    · rw [if_pos hp, Nat.add_comm, show 2 ^ n + setN p n = 2 ^ n * 1 + setN p n by omega, Nat.testBit_two_pow_mul_add _ h1]
      by_cases hj : j < n
      · rw [if_pos hj, ih]; simp [hj, Nat.lt_succ_of_lt hj]
      · rw [if_neg hj]
        by_cases e : j = n
        · subst e; simp [hp]
        · have : 0 < j - n := by omega
          rw [show Nat.testBit 1 (j - n) = false by rw [Nat.testBit_eq_decide_div_mod_eq]; have : 2 ^ (j - n) > 1 := Nat.one_lt_two_pow (by omega); rw [Nat.div_eq_of_lt this]; rfl]
          rw [decide_eq_false (by omega), Bool.false_and]
    · rw [if_neg hp, Nat.add_zero, ih]
      by_cases hj : j < n
      · simp [hj, Nat.lt_succ_of_lt hj]
      · by_cases e : j = n
        · subst e; simp [hp]
        · rw [decide_eq_false hj, decide_eq_false (by omega)]
def setI (p : Nat → Bool) : Int32 := nI (setN p 32)
def setL (p : Nat → Bool) : Int64 := lN (setN p 32)
theorem bt_nI (n j : Nat) (h : n < 2 ^ 32) : bt (nI n) j = n.testBit j := by
  show (BitVec.ofNat 32 n).getLsbD j = _
  rw [BitVec.getLsbD_ofNat]
  by_cases hj : j < 32
  · simp [hj]
  · rw [Nat.testBit_lt_two_pow (Nat.lt_of_lt_of_le h (Nat.pow_le_pow_right (by decide) (by omega)))]; simp [hj]
theorem lt_lN (n j : Nat) (h : n < 2 ^ 64) : lt (lN n) j = n.testBit j := by
  show (BitVec.ofNat 64 n).getLsbD j = _
  rw [BitVec.getLsbD_ofNat]
  by_cases hj : j < 64
  · simp [hj]
  · rw [Nat.testBit_lt_two_pow (Nat.lt_of_lt_of_le h (Nat.pow_le_pow_right (by decide) (by omega)))]; simp [hj]
theorem bt_setI (p : Nat → Bool) (j : Nat) : bt (setI p) j = (decide (j < 32) && p j) := by rw [setI, bt_nI _ _ (setN_lt p 32), setN_bit]
theorem lt_setL (p : Nat → Bool) (j : Nat) : lt (setL p) j = (decide (j < 32) && p j) := by rw [setL, lt_lN _ _ (Nat.lt_of_lt_of_le (setN_lt p 32) (by decide)), setN_bit]
theorem setI_of (x : Int32) : x = setI (bt x) := b_ext fun i hi => by rw [bt_setI, decide_eq_true hi, Bool.true_and]
theorem setI_congr {p q : Nat → Bool} (h : ∀ j, j < 32 → p j = q j) : setI p = setI q := b_ext fun i hi => by rw [bt_setI, bt_setI, h i hi]
theorem setL_congr {p q : Nat → Bool} (h : ∀ j, j < 32 → p j = q j) : setL p = setL q := l_ext fun i _ => by
  rw [lt_setL, lt_setL]
  by_cases hi : i < 32
  · rw [h i hi]
  · rw [decide_eq_false hi, Bool.false_and, Bool.false_and]
theorem setI_and (p q : Nat → Bool) : setI p &&& setI q = setI (fun j => p j && q j) := b_ext fun i hi => by rw [b_and, bt_setI, bt_setI, bt_setI]; simp [hi]
theorem setI_or (p q : Nat → Bool) : setI p ||| setI q = setI (fun j => p j || q j) := b_ext fun i hi => by rw [b_or, bt_setI, bt_setI, bt_setI]; simp [hi]
theorem setI_not (p : Nat → Bool) : setI p ^^^ (-1) = setI (fun j => !p j) := b_ext fun i hi => by rw [b_xor, bt_setI, bt_setI, b_m1 i hi]; simp [hi]
theorem setL_or (p q : Nat → Bool) : setL p ||| setL q = setL (fun j => p j || q j) := l_ext fun i hi => by
  rw [l_or, lt_setL, lt_setL, lt_setL]
  by_cases h : i < 32 <;> simp [h]
theorem setI_one {k : Nat} (hk : k < 32) : (1 : Int32) <<< (nI k &&& 31) = setI (fun j => decide (j = k)) := b_ext fun i hi => by
  rw [b_shl k hk _ hi, bt_setI, decide_eq_true hi, Bool.true_and]
  by_cases e : i = k
  · subst e; simp; decide
  · by_cases h : k ≤ i
    · simp [e, h]
      exact (bit1I (i - k) (by omega)).trans (decide_eq_false (by omega))
    · simp [e, h]
theorem setL_one {k : Nat} (hk : k < 32) : (1 : Int64) <<< ((nI k).toInt64 &&& 63) = setL (fun j => decide (j = k)) := l_ext fun i hi => by
  rw [l_shl k (by omega) _ hi, lt_setL]
  by_cases e : i = k
  · subst e; simp [hk]; decide
  · by_cases h : k ≤ i
    · simp [e, h]
      exact (bit1L (i - k) (by omega)).trans (decide_eq_false (by omega))
    · simp [e, h]
theorem setI_0 : (0 : Int32) = setI (fun _ => false) := by decide +kernel
theorem setL_0 : (0 : Int64) = setL (fun _ => false) := by decide +kernel
theorem pop32_setI (p : Nat → Bool) : pop32 (setI p) = cnt p 32 := cnt_congr fun k hk => by rw [bt_setI, decide_eq_true hk, Bool.true_and]
theorem pop_setL (p : Nat → Bool) : pop (setL p) = cnt p 32 := by
  show cnt _ (32 + 32) = _
  rw [cnt_split, cnt_zero (p := fun j => lt (setL p) (32 + j)) (fun k _ => by rw [lt_setL, decide_eq_false (by omega), Bool.false_and])]
  exact cnt_congr fun k hk => by rw [lt_setL, decide_eq_true hk, Bool.true_and]
theorem setL_i (p : Nat → Bool) : (setL p).toInt32 = setI p := lN_i _
/-! one bit -/
def inI (s i : Int32) : Bool := bt s (i.toBitVec.toNat % 32)
def tbL (x : Int64) (i : Int32) : Bool := lt x (i.toBitVec.toNat % 64)
theorem nI_bv {n : Nat} (h : n < 2 ^ 32) : (nI n).toBitVec.toNat = n := Nat.mod_eq_of_lt h
theorem inI_n {s : Int32} {j : Nat} (h : j < 32) : inI s (nI j) = bt s j := by unfold inI; rw [nI_bv (by omega), Nat.mod_eq_of_lt h]
theorem tbL_n {x : Int64} {j : Nat} (h : j < 64) : tbL x (nI j) = lt x j := by unfold tbL; rw [nI_bv (by omega), Nat.mod_eq_of_lt h]
theorem sh_u (i : Int32) : ((i.toUInt32 &&& Int32.toUInt32 31).toBitVec % 32).toNat = i.toBitVec.toNat % 32 := by
  show ((i.toBitVec &&& 31#32) % 32#32).toNat = _
  rw [BitVec.toNat_umod, BitVec.toNat_and]
  show (i.toBitVec.toNat &&& 31) % 32 = _
  rw [show (31 : Nat) = 2 ^ 5 - 1 from rfl, Nat.and_two_pow_sub_one_eq_mod]
  omega
theorem isIn_eq (s i : Int32) : ((s.toUInt32 >>> (i.toUInt32 &&& Int32.toUInt32 31)).toInt32 &&& 1) = b2i (inI s i) := by
  apply b_ext
  intro j hj
  rw [b_and]
  have h1 : bt ((s.toUInt32 >>> (i.toUInt32 &&& Int32.toUInt32 31)).toInt32) j = bt s (i.toBitVec.toNat % 32 + j) := by
    show (s.toUInt32 >>> (i.toUInt32 &&& Int32.toUInt32 31)).toBitVec.getLsbD j = s.toUInt32.toBitVec.getLsbD _
    rw [UInt32.toBitVec_shiftRight]
    show (s.toUInt32.toBitVec >>> ((i.toUInt32 &&& Int32.toUInt32 31).toBitVec % 32).toNat).getLsbD j = _
    rw [sh_u, BitVec.getLsbD_ushiftRight]
  rw [h1]
  have h2 : bt 1 j = decide (j = 0) := (by decide +kernel : ∀ j, j < 32 → bt 1 j = decide (j = 0)) j hj
  rw [h2]
  by_cases e : j = 0
  · subst e
    simp only [Nat.add_zero, decide_true, Bool.and_true]
    show _ = bt (b2i (inI s i)) 0
    unfold inI
    generalize bt s (i.toBitVec.toNat % 32) = b
    cases b <;> decide
  · simp only [e, decide_false, Bool.and_false]
    cases inI s i
    · exact (b_0 j).symm
    · show false = bt 1 j
      rw [h2, decide_eq_false e]
theorem sh_v (i : Int32) : ((i.toInt64.toUInt64 &&& Int64.toUInt64 63).toBitVec % 64).toNat = i.toBitVec.toNat % 64 := by
  show ((i.toInt64.toBitVec &&& 63#64) % 64#64).toNat = _
  rw [BitVec.toNat_umod, BitVec.toNat_and]
  show (i.toInt64.toBitVec.toNat &&& 63) % 64 = _
  rw [show (63 : Nat) = 2 ^ 6 - 1 from rfl, Nat.and_two_pow_sub_one_eq_mod]
  have : i.toInt64.toBitVec = i.toBitVec.signExtend 64 := rfl
  rw [this, BitVec.toNat_signExtend, BitVec.toNat_setWidth]
  have := i.toBitVec.isLt
  split <;> omega
theorem b2l_lt (b : Bool) (j : Nat) (hj : j < 64) : lt (b2i b).toInt64 j = (b && decide (j = 0)) := by
  cases b
  · rw [show (b2i false).toInt64 = 0 from by decide, l_0]; rfl
  · rw [show (b2i true).toInt64 = 1 from by decide, Bool.true_and]
    exact (by decide +kernel : ∀ j, j < 64 → lt 1 j = decide (j = 0)) j hj
theorem bitOf_eqL (x : Int64) (i : Int32) : ((x.toUInt64 >>> (i.toInt64.toUInt64 &&& Int64.toUInt64 63)).toInt64 &&& 1) = (b2i (tbL x i)).toInt64 := by
  apply l_ext
  intro j hj
  rw [l_and, b2l_lt _ _ hj, bit1L j hj]
  have h1 : lt ((x.toUInt64 >>> (i.toInt64.toUInt64 &&& Int64.toUInt64 63)).toInt64) j = lt x (i.toBitVec.toNat % 64 + j) := by
    show (x.toUInt64 >>> (i.toInt64.toUInt64 &&& Int64.toUInt64 63)).toBitVec.getLsbD j = x.toUInt64.toBitVec.getLsbD _
    rw [UInt64.toBitVec_shiftRight]
    show (x.toUInt64.toBitVec >>> ((i.toInt64.toUInt64 &&& Int64.toUInt64 63).toBitVec % 64).toNat).getLsbD j = _
    rw [sh_v, BitVec.getLsbD_ushiftRight]
  rw [h1]
  by_cases e : j = 0
  · subst e; rfl
  · simp [e]
theorem b2l_i (b : Bool) : (b2i b).toInt64.toInt32 = b2i b := by cases b <;> decide
theorem bitOf_eq (x : Int64) (i : Int32) : ((x.toUInt64 >>> (i.toInt64.toUInt64 &&& Int64.toUInt64 63)).toInt64 &&& 1).toInt32 = b2i (tbL x i) := by rw [bitOf_eqL, b2l_i]
theorem sh_w (i : Int32) : ((i.toInt64 &&& 63).toBitVec.smod 64).toNat = i.toBitVec.toNat % 64 := by
  have e : (i.toInt64 &&& 63).toBitVec = BitVec.ofNat 64 (i.toBitVec.toNat % 64) := by
    apply BitVec.eq_of_toNat_eq
    have hr : (BitVec.ofNat 64 (i.toBitVec.toNat % 64)).toNat = i.toBitVec.toNat % 64 := by rw [BitVec.toNat_ofNat]; omega
    rw [hr]
    show (i.toInt64.toBitVec &&& 63#64).toNat = _
    rw [BitVec.toNat_and]
    show i.toInt64.toBitVec.toNat &&& 63 = _
    rw [show (63 : Nat) = 2 ^ 6 - 1 from rfl, Nat.and_two_pow_sub_one_eq_mod]
    have : i.toInt64.toBitVec = i.toBitVec.signExtend 64 := rfl
    rw [this, BitVec.toNat_signExtend, BitVec.toNat_setWidth]
    have := i.toBitVec.isLt
    split <;> omega
  rw [e]
  exact (by decide +kernel : ∀ n, n < 64 → ((BitVec.ofNat 64 n).smod 64).toNat = n) _ (Nat.mod_lt _ (by decide))
/-- the model's: >> and & 1 -/
theorem has_eqL (x : Int64) (i : Int32) : (x >>> (i.toInt64 &&& 63) &&& 1) = (b2i (tbL x i)).toInt64 := by
  apply l_ext
  intro j hj
  rw [l_and, b2l_lt _ _ hj, bit1L j hj]
  by_cases e : j = 0
  · subst e
    simp only [decide_true, Bool.and_true]
    unfold lt tbL
    rw [Int64.toBitVec_shiftRight]
    show (x.toBitVec.sshiftRight ((i.toInt64 &&& 63).toBitVec.smod 64).toNat).getLsbD 0 = lt x _
    rw [sh_w, BitVec.getLsbD_sshiftRight]
    have := Nat.mod_lt i.toBitVec.toNat (show 0 < 64 by decide)
    simp [this]
    rfl
  · simp [e]
end
section
/-! counting bits: the JDK's way, and the other way -/
theorem bit_byte {s Y d M m : Nat} (hd : d < 256) (hs : s ≤ 8) (hm : m < 2 ^ (8 - s)) : ((256 * Y + d) / 2 ^ s) &&& (256 * M + m) = 256 * ((Y / 2 ^ s) &&& M) + ((d / 2 ^ s) &&& m) := by
  have hm8 : m < 2 ^ 8 := Nat.lt_of_lt_of_le hm (Nat.pow_le_pow_right (by decide) (by omega))
  have hx : ((d / 2 ^ s) &&& m) < 2 ^ 8 := Nat.lt_of_le_of_lt Nat.and_le_right hm8
  apply Nat.eq_of_testBit_eq
  intro j
  rw [Nat.testBit_and, ← Nat.shiftRight_eq_div_pow, Nat.testBit_shiftRight, show (256 : Nat) = 2 ^ 8 from rfl, Nat.testBit_two_pow_mul_add _ hm8, Nat.testBit_two_pow_mul_add _ (show d < 2 ^ 8 from hd), Nat.testBit_two_pow_mul_add _ hx]
  by_cases hj : j < 8
  · rw [if_pos hj, if_pos hj, Nat.testBit_and, ← Nat.shiftRight_eq_div_pow, Nat.testBit_shiftRight]
    by_cases h2 : s + j < 8
    · rw [if_pos h2]
    · have : m.testBit j = false := Nat.testBit_lt_two_pow (Nat.lt_of_lt_of_le hm (Nat.pow_le_pow_right (by decide) (by omega)))
      rw [this, Bool.and_false, Bool.and_false]
  · rw [if_neg hj, if_neg hj, if_neg (by omega), Nat.testBit_and, ← Nat.shiftRight_eq_div_pow, Nat.testBit_shiftRight, show s + (j - 8) = s + j - 8 by omega]
def by8 (f : Nat → Nat) : Nat → Nat → Nat
  | 0, _ => 0
  | k + 1, n => 256 * by8 f k (n / 256) + f (n % 256)
def rep8 (m : Nat) : Nat → Nat
  | 0 => 0
  | k + 1 => 256 * rep8 m k + m
theorem by8_and {g : Nat → Nat} (s m : Nat) (hg : ∀ d, d < 256 → g d < 256) (hs : s ≤ 8) (hm : m < 2 ^ (8 - s)) : ∀ k n, (by8 g k n / 2 ^ s) &&& rep8 m k = by8 (fun d => (g d / 2 ^ s) &&& m) k n
  | 0, n => by simp [by8, rep8]
  | k + 1, n => by
    show ((256 * by8 g k (n / 256) + g (n % 256)) / 2 ^ s) &&& (256 * rep8 m k + m) = _
    rw [bit_byte (hg _ (Nat.mod_lt _ (by decide))) hs hm, by8_and s m hg hs hm k]
    rfl
theorem by8_id : ∀ k n, n < 256 ^ k → by8 (fun d => d) k n = n
  | 0, n, h => by have : n = 0 := by simpa using h
                  subst this; rfl
  | k + 1, n, h => by
    show 256 * by8 (fun d => d) k (n / 256) + n % 256 = n
    rw [by8_id k (n / 256) (Nat.div_lt_of_lt_mul (by rw [Nat.pow_succ] at h; omega))]
    omega
theorem by8_add (f g : Nat → Nat) : ∀ k n, by8 f k n + by8 g k n = by8 (fun d => f d + g d) k n
  | 0, n => rfl
  | k + 1, n => by
    show 256 * by8 f k (n / 256) + f (n % 256) + (256 * by8 g k (n / 256) + g (n % 256)) = 256 * by8 _ k (n / 256) + (f (n % 256) + g (n % 256))
    rw [← by8_add f g k]; omega
theorem by8_sub {f g : Nat → Nat} (h : ∀ d, d < 256 → g d ≤ f d) : ∀ k n, by8 g k n ≤ by8 f k n ∧ by8 f k n - by8 g k n = by8 (fun d => f d - g d) k n
  | 0, n => ⟨Nat.le_refl _, rfl⟩
  | k + 1, n => by
    obtain ⟨h1, h2⟩ := by8_sub h k (n / 256)
    have h3 := h (n % 256) (Nat.mod_lt _ (by decide))
    show 256 * by8 g k (n / 256) + g (n % 256) ≤ 256 * by8 f k (n / 256) + f (n % 256) ∧ 256 * by8 f k (n / 256) + f (n % 256) - (256 * by8 g k (n / 256) + g (n % 256)) = 256 * by8 _ k (n / 256) + (f (n % 256) - g (n % 256))
    rw [← h2]
    omega
theorem by8_cong {f g : Nat → Nat} (h : ∀ d, d < 256 → f d = g d) : ∀ k n, by8 f k n = by8 g k n
  | 0, n => rfl
  | k + 1, n => by
    show 256 * by8 f k (n / 256) + f (n % 256) = 256 * by8 g k (n / 256) + g (n % 256)
    rw [by8_cong h k, h _ (Nat.mod_lt _ (by decide))]
theorem by8_mod {g : Nat → Nat} (h : ∀ d, d < 256 → g d % 16 ≤ 4 ∧ g d < 256) : ∀ k n, by8 g k n % 16 ≤ 4
  | 0, n => by show 0 % 16 ≤ 4; decide
  | k + 1, n => by
    have := (h (n % 256) (Nat.mod_lt _ (by decide))).1
    show (256 * by8 g k (n / 256) + g (n % 256)) % 16 ≤ 4
    omega
theorem by8_nib {g : Nat → Nat} (h : ∀ d, d < 256 → g d % 16 ≤ 4 ∧ g d / 16 ≤ 4) : ∀ k n, (by8 g k n + by8 g k n / 16) &&& rep8 15 k = by8 (fun d => (g d + g d / 16) % 16) k n
  | 0, n => by simp [by8, rep8]
  | k + 1, n => by
    have h1 := h (n % 256) (Nat.mod_lt _ (by decide))
    have h2 := by8_mod (g := g) (fun d hd => ⟨(h d hd).1, by have := h d hd; omega⟩) k (n / 256)
    have ih := by8_nib h k (n / 256)
    show (256 * by8 g k (n / 256) + g (n % 256) + (256 * by8 g k (n / 256) + g (n % 256)) / 16) &&& (256 * rep8 15 k + 15) = 256 * by8 _ k (n / 256) + (g (n % 256) + g (n % 256) / 16) % 16
    generalize by8 g k (n / 256) = Y at h2 ih ⊢
    generalize g (n % 256) = b at h1 ⊢
    have e : 256 * Y + b + (256 * Y + b) / 16 = (256 * (Y + Y / 16) + (b + b / 16 + 16 * (Y % 16))) / 2 ^ 0 := by simp; omega
    rw [e, bit_byte (by omega) (by decide) (by decide), Nat.pow_zero, Nat.div_one, Nat.div_one, ih, show (15 : Nat) = 2 ^ 4 - 1 from rfl, Nat.and_two_pow_sub_one_eq_mod]
    omega
def sw1 (n M : Nat) : Nat := n - ((n / 2) &&& M)
def sw2 (n M : Nat) : Nat := (n &&& M) + ((n / 4) &&& M)
def sw3 (n M : Nat) : Nat := (n + n / 16) &&& M
def swF (d : Nat) : Nat := (sw2 (sw1 d 85) 51 + sw2 (sw1 d 85) 51 / 16) % 16
theorem swF_ok : ∀ d, d < 256 → swF d = cnt d.testBit 8 := by decide +kernel
theorem sw_by (k n : Nat) (h : n < 256 ^ k) : sw3 (sw2 (sw1 n (rep8 85 k)) (rep8 51 k)) (rep8 15 k) = by8 swF k n := by
  have e1 : sw1 n (rep8 85 k) = by8 (fun d => sw1 d 85) k n := by
    have a1 := by8_and (g := fun d => d) 1 85 (fun d hd => hd) (by decide) (by decide) k n
    rw [by8_id k n h] at a1
    have a2 := (by8_sub (f := fun d => d) (g := fun d => (d / 2 ^ 1) &&& 85) (fun d _ => Nat.le_trans Nat.and_le_left (Nat.div_le_self _ _)) k n).2
    rw [by8_id k n h, ← a1] at a2
    exact a2
  have q1 : ∀ d, d < 256 → sw1 d 85 < 256 := by decide +kernel
  have e2 : sw2 (sw1 n (rep8 85 k)) (rep8 51 k) = by8 (fun d => sw2 (sw1 d 85) 51) k n := by
    rw [e1]
    have a1 := by8_and (g := fun d => sw1 d 85) 0 51 q1 (by decide) (by decide) k n
    have a2 := by8_and (g := fun d => sw1 d 85) 2 51 q1 (by decide) (by decide) k n
    rw [Nat.pow_zero, Nat.div_one] at a1
    unfold sw2
    rw [a1, show (4 : Nat) = 2 ^ 2 from rfl, a2, by8_add]
    exact by8_cong (fun d _ => by rw [Nat.div_one]) k n
  rw [e2]
  exact by8_nib (g := fun d => sw2 (sw1 d 85) 51) (by decide +kernel) k n
theorem cnt_by8 : ∀ k n, cnt n.testBit (8 * k) = match k with
    | 0 => 0
    | k + 1 => cnt (n % 256).testBit 8 + cnt (n / 256).testBit (8 * k)
  | 0, n => rfl
  | k + 1, n => by
    show cnt n.testBit (8 * k + 8) = _
    rw [Nat.add_comm, cnt_split]
    refine congr (congrArg _ (cnt_congr fun j hj => ?_)) (cnt_congr fun j _ => ?_)
    · rw [show (256 : Nat) = 2 ^ 8 from rfl, Nat.testBit_mod_two_pow]; simp [hj]
    · rw [show (256 : Nat) = 2 ^ 8 from rfl, ← Nat.shiftRight_eq_div_pow, Nat.testBit_shiftRight]
theorem swF_le {d : Nat} : swF d < 16 := Nat.mod_lt _ (by decide)
theorem sw_i0 (A3 p0 p1 p2 : Nat) : 256 * (256 * (256 * A3 + p2) + p1) + p0 + (256 * (256 * A3 + p2) + p1) = 65536 * (256 * A3 + p2 + A3) + (256 * (p1 + p2) + (p0 + p1)) := by omega
theorem sw_i1 (A6 p2 p3 p4 p5 : Nat) : 256 * (256 * (256 * (256 * A6 + p5) + p4) + p3) + p2 + (256 * (256 * (256 * A6 + p5) + p4) + p3) = 65536 * (256 * (256 * A6 + p5) + p4 + (256 * A6 + p5)) + (256 * (p3 + p4) + (p2 + p3)) := by omega
theorem sw_i2 (X Y A6 p7 p0 p1 p2 p3 p4 p5 : Nat) (hX : X = 65536 * (256 * (256 * A6 + p5) + p4 + (256 * A6 + p5)) + (256 * (p3 + p4) + (p2 + p3))) (h6 : A6 = 256 * p7 + Y) : 65536 * X + (256 * (p1 + p2) + (p0 + p1)) + X = 4294967296 * (256 * (256 * A6 + p5) + p4 + (256 * A6 + p5) + A6 + p7) + (16777216 * (p3 + p4 + p5 + Y) + (65536 * (p2 + p3 + p4 + p5) + (256 * (p1 + p2 + p3 + p4) + (p0 + p1 + p2 + p3)))) := by
  subst hX; subst h6; omega
theorem sw_i3 (A6 p7 p0 p1 p2 p3 p4 p5 p6 : Nat) (h6 : A6 = 256 * p7 + p6) : 4294967296 * (256 * (256 * A6 + p5) + p4 + (256 * A6 + p5) + A6 + p7) + (16777216 * (p3 + p4 + p5 + p6) + (65536 * (p2 + p3 + p4 + p5) + (256 * (p1 + p2 + p3 + p4) + (p0 + p1 + p2 + p3)))) + (256 * (256 * A6 + p5) + p4 + (256 * A6 + p5) + A6 + p7) = 128 * (33554432 * (256 * (256 * A6 + p5) + p4 + (256 * A6 + p5) + A6 + p7) + (131072 * (p3 + p4 + p5 + p6) + (512 * (p2 + p3 + p4 + p5) + 2 * (p1 + p2 + p3 + p4))) + (2 * (256 * A6 + p5) + 2 * A6 + 2 * p7)) + (p0 + p1 + p2 + p3 + p4 + p5 + p6 + p7) := by
  subst h6; omega
theorem dv_lt {M Y lo : Nat} (hM : 0 < M) (h : lo < M) : (M * Y + lo) / M = Y := by rw [Nat.mul_add_div hM, Nat.div_eq_of_lt h, Nat.add_zero]
theorem sw_sum8 (p0 p1 p2 p3 p4 p5 p6 p7 A6 : Nat) (b0 : p0 ≤ 8) (b1 : p1 ≤ 8) (b2 : p2 ≤ 8) (b3 : p3 ≤ 8) (b4 : p4 ≤ 8) (b5 : p5 ≤ 8) (b6 : p6 ≤ 8) (b7 : p7 ≤ 8) (h6 : A6 = 256 * p7 + p6) (a A1 X : Nat) (ea : a = 256 * A1 + p0) (e1 : A1 = 256 * (256 * (256 * (256 * (256 * A6 + p5) + p4) + p3) + p2) + p1) (eX : X = 65536 * (256 * (256 * A6 + p5) + p4 + (256 * A6 + p5)) + (256 * (p3 + p4) + (p2 + p3))) :
    (a + a / 256 + (a + a / 256) / 65536 + (a + a / 256 + (a + a / 256) / 65536) / 4294967296) % 128 = p0 + p1 + p2 + p3 + p4 + p5 + p6 + p7 := by
  have r0 : p0 < 256 := by clear e1 eX h6 ea; omega
  have r1 : 256 * (p1 + p2) + (p0 + p1) < 65536 := by clear e1 eX h6 ea; omega
  have r2 : 16777216 * (p3 + p4 + p5 + p6) + (65536 * (p2 + p3 + p4 + p5) + (256 * (p1 + p2 + p3 + p4) + (p0 + p1 + p2 + p3))) < 4294967296 := by clear e1 eX h6 ea; omega
  have r3 : p0 + p1 + p2 + p3 + p4 + p5 + p6 + p7 < 128 := by clear e1 eX h6 ea; omega
  have h1 : a / 256 = A1 := by rw [ea]; exact dv_lt (by decide) r0
  have h2 : a + A1 = 65536 * X + (256 * (p1 + p2) + (p0 + p1)) := by
    rw [ea, e1, sw_i0, sw_i1, ← eX]
  have h3 : (a + A1) / 65536 = X := by rw [h2]; exact dv_lt (by decide) r1
  rw [h1, h3, h2, sw_i2 X p6 A6 p7 p0 p1 p2 p3 p4 p5 eX h6, dv_lt (by decide) r2, sw_i3 A6 p7 p0 p1 p2 p3 p4 p5 p6 h6, Nat.mul_add_mod]
  exact Nat.mod_eq_of_lt r3
theorem swar64 {n : Nat} (h : n < 2 ^ 64) : (let a := sw3 (sw2 (sw1 n 6148914691236517205) 3689348814741910323) 1085102592571150095
    let b := a + a / 256
    let c := b + b / 65536
    (c + c / 4294967296) % 128) = cnt n.testBit 64 := by
  have e := sw_by 8 n h
  rw [show rep8 85 8 = 6148914691236517205 from rfl, show rep8 51 8 = 3689348814741910323 from rfl, show rep8 15 8 = 1085102592571150095 from rfl] at e
  rw [e]
  show _ = cnt n.testBit (8 * 8)
  simp only [cnt_by8, by8]
  have b : ∀ m : Nat, swF (m % 256) = cnt (m % 256).testBit 8 := fun m => swF_ok _ (Nat.mod_lt _ (by decide))
  have q : ∀ m : Nat, cnt (m % 256).testBit 8 ≤ 8 := fun m => cnt_le _ _
  simp only [b]
  have q0 := q (n)
  have q1 := q (n / 256)
  have q2 := q (n / 256 / 256)
  have q3 := q (n / 256 / 256 / 256)
  have q4 := q (n / 256 / 256 / 256 / 256)
  have q5 := q (n / 256 / 256 / 256 / 256 / 256)
  have q6 := q (n / 256 / 256 / 256 / 256 / 256 / 256)
  have q7 := q (n / 256 / 256 / 256 / 256 / 256 / 256 / 256)
  generalize cnt (n % 256).testBit 8 = p0 at q0 ⊢
  generalize cnt (n / 256 % 256).testBit 8 = p1 at q1 ⊢
  generalize cnt (n / 256 / 256 % 256).testBit 8 = p2 at q2 ⊢
  generalize cnt (n / 256 / 256 / 256 % 256).testBit 8 = p3 at q3 ⊢
  generalize cnt (n / 256 / 256 / 256 / 256 % 256).testBit 8 = p4 at q4 ⊢
  generalize cnt (n / 256 / 256 / 256 / 256 / 256 % 256).testBit 8 = p5 at q5 ⊢
  generalize cnt (n / 256 / 256 / 256 / 256 / 256 / 256 % 256).testBit 8 = p6 at q6 ⊢
  generalize cnt (n / 256 / 256 / 256 / 256 / 256 / 256 / 256 % 256).testBit 8 = p7 at q7 ⊢
  clear b q e h
  have e6 : 256 * (256 * 0 + p7) + p6 = 256 * p7 + p6 := by omega
  rw [e6]
  refine (sw_sum8 p0 p1 p2 p3 p4 p5 p6 p7 _ q0 q1 q2 q3 q4 q5 q6 q7 rfl _ _ _ rfl rfl rfl).trans ?_
  omega
theorem sw_sum4 (p0 p1 p2 p3 : Nat) (b0 : p0 ≤ 8) (b1 : p1 ≤ 8) (b2 : p2 ≤ 8) (b3 : p3 ≤ 8) (a A1 : Nat) (ea : a = 256 * A1 + p0) (e1 : A1 = 256 * (256 * p3 + p2) + p1) :
    (a + a / 256 + (a + a / 256) / 65536) % 64 = p0 + p1 + p2 + p3 := by
  have r0 : p0 < 256 := by clear e1 ea; omega
  have r1 : 256 * (p1 + p2) + (p0 + p1) < 65536 := by clear e1 ea; omega
  have r3 : p0 + p1 + p2 + p3 < 64 := by clear e1 ea; omega
  have h1 : a / 256 = A1 := by rw [ea]; exact dv_lt (by decide) r0
  have h2 : a + A1 = 65536 * (256 * p3 + p2 + p3) + (256 * (p1 + p2) + (p0 + p1)) := by
    rw [ea, e1, sw_i0]
  have h3 : (a + A1) / 65536 = 256 * p3 + p2 + p3 := by rw [h2]; exact dv_lt (by decide) r1
  have h4 : 65536 * (256 * p3 + p2 + p3) + (256 * (p1 + p2) + (p0 + p1)) + (256 * p3 + p2 + p3) = 64 * (1024 * (256 * p3 + p2 + p3) + 4 * (p1 + p2) + 4 * p3) + (p0 + p1 + p2 + p3) := by clear h3 h2 h1 e1 ea r0 r1 r3; omega
  rw [h1, h3, h2, h4, Nat.mul_add_mod]
  exact Nat.mod_eq_of_lt r3
theorem swar32 {n : Nat} (h : n < 2 ^ 32) : (let a := sw3 (sw2 (sw1 n 1431655765) 858993459) 252645135
    let b := a + a / 256
    (b + b / 65536) % 64) = cnt n.testBit 32 := by
  have e := sw_by 4 n h
  rw [show rep8 85 4 = 1431655765 from rfl, show rep8 51 4 = 858993459 from rfl, show rep8 15 4 = 252645135 from rfl] at e
  rw [e]
  show _ = cnt n.testBit (8 * 4)
  simp only [cnt_by8, by8]
  have b : ∀ m : Nat, swF (m % 256) = cnt (m % 256).testBit 8 := fun m => swF_ok _ (Nat.mod_lt _ (by decide))
  have q : ∀ m : Nat, cnt (m % 256).testBit 8 ≤ 8 := fun m => cnt_le _ _
  simp only [b]
  have q0 := q (n)
  have q1 := q (n / 256)
  have q2 := q (n / 256 / 256)
  have q3 := q (n / 256 / 256 / 256)
  generalize cnt (n % 256).testBit 8 = p0 at q0 ⊢
  generalize cnt (n / 256 % 256).testBit 8 = p1 at q1 ⊢
  generalize cnt (n / 256 / 256 % 256).testBit 8 = p2 at q2 ⊢
  generalize cnt (n / 256 / 256 / 256 % 256).testBit 8 = p3 at q3 ⊢
  clear b q e h
  have e6 : 256 * (256 * 0 + p3) + p2 = 256 * p3 + p2 := by omega
  rw [e6]
  refine (sw_sum4 p0 p1 p2 p3 q0 q1 q2 q3 _ _ rfl rfl).trans ?_
  omega
/-- n without its lowest one -/
theorem cnt_low : ∀ (w n : Nat), 0 < n → n < 2 ^ w → cnt (n &&& (n - 1)).testBit w + 1 = cnt n.testBit w
  | 0, n, h0, h => by simp at h; omega
  | w + 1, n, h0, h => by
    have sp : ∀ m : Nat, cnt m.testBit (w + 1) = m % 2 + cnt (m / 2).testBit w := fun m => by
      rw [Nat.add_comm, cnt_split]
      refine congr (congrArg _ ?_) (cnt_congr fun j _ => ?_)
      · show 0 + (if m.testBit 0 then 1 else 0) = m % 2
        rw [Nat.testBit_zero]; by_cases q : m % 2 = 1 <;> simp [q]; omega
      · rw [Nat.testBit_div_two, Nat.add_comm]
    rw [sp, sp n]
    have ed : (n &&& (n - 1)) / 2 = (n / 2) &&& ((n - 1) / 2) := by
      apply Nat.eq_of_testBit_eq; intro j
      rw [Nat.testBit_div_two, Nat.testBit_and, Nat.testBit_and, Nat.testBit_div_two, Nat.testBit_div_two]
    have em : (n &&& (n - 1)) % 2 = 0 := by
      have := Nat.testBit_and n (n - 1) 0
      rw [Nat.testBit_zero, Nat.testBit_zero, Nat.testBit_zero] at this
      by_cases q : n % 2 = 1
      · have q2 : ¬ (n - 1) % 2 = 1 := by omega
        simp only [q, q2, decide_true, decide_false, Bool.and_false, decide_eq_false_iff_not] at this
        omega
      · simp only [q, decide_false, Bool.false_and, decide_eq_false_iff_not] at this
        omega
    rw [ed, em]
    by_cases q : n % 2 = 1
    · rw [show (n - 1) / 2 = n / 2 by omega, Nat.and_self]; omega
    · have := cnt_low w (n / 2) (by omega) (by rw [Nat.pow_succ] at h; omega)
      rw [show (n - 1) / 2 = n / 2 - 1 by omega]
      omega
end
