section
-- ===== PART A: goes FIRST, ahead of the names: the tables' words, and 'selects' of the private methods out of them =====
/-- a private method of a class that the tables say can be made, by its rows of tables_1 -/
def lw_okq (q : MethodName × Nat) : Prop := (q.1.cls ≠ "java/lang/invoke/MethodHandle" ∧ q.1.cls ≠ "java/lang/invoke/VarHandle") ∧ Cond.instantiable q.1.cls q.2 ∈ tables_1 ∧ Cond.privateMethod q.1 ∈ tables_1 ∧ Cond.instanceMethod q.1 ∈ tables_1
theorem lw_p0 : lw_okq (⟨"LaidQuarrel$Cellar", "readClause", "()Z"⟩, 5) := ⟨⟨by decide +kernel, by decide +kernel⟩, List.mem_of_getElem? (i := 63) (by decide +kernel), List.mem_of_getElem? (i := 191) (by decide +kernel), List.mem_of_getElem? (i := 192) (by decide +kernel)⟩
theorem lw_p1 : lw_okq (⟨"LaidQuarrel$Cellar", "takes", "(I)Z"⟩, 5) := ⟨⟨by decide +kernel, by decide +kernel⟩, List.mem_of_getElem? (i := 63) (by decide +kernel), List.mem_of_getElem? (i := 195) (by decide +kernel), List.mem_of_getElem? (i := 196) (by decide +kernel)⟩
theorem lw_p2 : lw_okq (⟨"LaidQuarrel$Cellar", "takesAll", "(Ljava/lang/String;)Z"⟩, 5) := ⟨⟨by decide +kernel, by decide +kernel⟩, List.mem_of_getElem? (i := 63) (by decide +kernel), List.mem_of_getElem? (i := 204) (by decide +kernel), List.mem_of_getElem? (i := 205) (by decide +kernel)⟩
theorem lw_p3 : lw_okq (⟨"LaidQuarrel$Cellar", "readNumber", "()Z"⟩, 5) := ⟨⟨by decide +kernel, by decide +kernel⟩, List.mem_of_getElem? (i := 63) (by decide +kernel), List.mem_of_getElem? (i := 256) (by decide +kernel), List.mem_of_getElem? (i := 257) (by decide +kernel)⟩
theorem lw_p4 : lw_okq (⟨"LaidQuarrel$Cellar", "addClause", "(II)Z"⟩, 5) := ⟨⟨by decide +kernel, by decide +kernel⟩, List.mem_of_getElem? (i := 63) (by decide +kernel), List.mem_of_getElem? (i := 261) (by decide +kernel), List.mem_of_getElem? (i := 262) (by decide +kernel)⟩
theorem lw_p5 : lw_okq (⟨"LaidQuarrel$Cellar", "readEither", "(I)Z"⟩, 5) := ⟨⟨by decide +kernel, by decide +kernel⟩, List.mem_of_getElem? (i := 63) (by decide +kernel), List.mem_of_getElem? (i := 269) (by decide +kernel), List.mem_of_getElem? (i := 270) (by decide +kernel)⟩
theorem lw_p6 : lw_okq (⟨"LaidQuarrel$Cellar", "readFactor", "(I)Z"⟩, 5) := ⟨⟨by decide +kernel, by decide +kernel⟩, List.mem_of_getElem? (i := 63) (by decide +kernel), List.mem_of_getElem? (i := 273) (by decide +kernel), List.mem_of_getElem? (i := 274) (by decide +kernel)⟩
theorem lw_p7 : lw_okq (⟨"LaidQuarrel$Cellar", "readBracket", "(I)Z"⟩, 5) := ⟨⟨by decide +kernel, by decide +kernel⟩, List.mem_of_getElem? (i := 63) (by decide +kernel), List.mem_of_getElem? (i := 277) (by decide +kernel), List.mem_of_getElem? (i := 278) (by decide +kernel)⟩
theorem lw_p8 : lw_okq (⟨"LaidQuarrel$Cellar", "readTest", "()Z"⟩, 5) := ⟨⟨by decide +kernel, by decide +kernel⟩, List.mem_of_getElem? (i := 63) (by decide +kernel), List.mem_of_getElem? (i := 281) (by decide +kernel), List.mem_of_getElem? (i := 282) (by decide +kernel)⟩
theorem lw_p9 : lw_okq (⟨"LaidQuarrel", "madeOf", "(I)LLaidQuarrel$Bottle;"⟩, 17) := ⟨⟨by decide +kernel, by decide +kernel⟩, List.mem_of_getElem? (i := 27) (by decide +kernel), List.mem_of_getElem? (i := 315) (by decide +kernel), List.mem_of_getElem? (i := 316) (by decide +kernel)⟩
theorem lw_p10 : lw_okq (⟨"java/util/ArrayList", "add", "(Ljava/lang/Object;[Ljava/lang/Object;I)V"⟩, 3) := ⟨⟨by decide +kernel, by decide +kernel⟩, List.mem_of_getElem? (i := 87) (by decide +kernel), List.mem_of_getElem? (i := 498) (by decide +kernel), List.mem_of_getElem? (i := 499) (by decide +kernel)⟩
theorem lw_p11 : lw_okq (⟨"java/util/ArrayList", "grow", "()[Ljava/lang/Object;"⟩, 3) := ⟨⟨by decide +kernel, by decide +kernel⟩, List.mem_of_getElem? (i := 87) (by decide +kernel), List.mem_of_getElem? (i := 502) (by decide +kernel), List.mem_of_getElem? (i := 503) (by decide +kernel)⟩
theorem lw_p12 : lw_okq (⟨"java/util/ArrayList", "grow", "(I)[Ljava/lang/Object;"⟩, 3) := ⟨⟨by decide +kernel, by decide +kernel⟩, List.mem_of_getElem? (i := 87) (by decide +kernel), List.mem_of_getElem? (i := 506) (by decide +kernel), List.mem_of_getElem? (i := 507) (by decide +kernel)⟩
theorem lw_p13 : lw_okq (⟨"LaidQuarrel", "bottleAt", "(I)LLaidQuarrel$Bottle;"⟩, 17) := ⟨⟨by decide +kernel, by decide +kernel⟩, List.mem_of_getElem? (i := 27) (by decide +kernel), List.mem_of_getElem? (i := 560) (by decide +kernel), List.mem_of_getElem? (i := 561) (by decide +kernel)⟩
theorem lw_p14 : lw_okq (⟨"LaidQuarrel$Cellar", "holds", "(IILLaidQuarrel$Bottle;LLaidQuarrel$Laid;)Z"⟩, 5) := ⟨⟨by decide +kernel, by decide +kernel⟩, List.mem_of_getElem? (i := 63) (by decide +kernel), List.mem_of_getElem? (i := 585) (by decide +kernel), List.mem_of_getElem? (i := 586) (by decide +kernel)⟩
theorem lw_p15 : lw_okq (⟨"LaidQuarrel$Cellar", "testHolds", "(ILLaidQuarrel$Bottle;LLaidQuarrel$Laid;)Z"⟩, 5) := ⟨⟨by decide +kernel, by decide +kernel⟩, List.mem_of_getElem? (i := 63) (by decide +kernel), List.mem_of_getElem? (i := 589) (by decide +kernel), List.mem_of_getElem? (i := 590) (by decide +kernel)⟩
def lw_privs_1 : List (MethodName × Nat) := [(⟨"LaidQuarrel$Cellar", "readClause", "()Z"⟩, 5), (⟨"LaidQuarrel$Cellar", "takes", "(I)Z"⟩, 5), (⟨"LaidQuarrel$Cellar", "takesAll", "(Ljava/lang/String;)Z"⟩, 5), (⟨"LaidQuarrel$Cellar", "readNumber", "()Z"⟩, 5), (⟨"LaidQuarrel$Cellar", "addClause", "(II)Z"⟩, 5), (⟨"LaidQuarrel$Cellar", "readEither", "(I)Z"⟩, 5), (⟨"LaidQuarrel$Cellar", "readFactor", "(I)Z"⟩, 5), (⟨"LaidQuarrel$Cellar", "readBracket", "(I)Z"⟩, 5), (⟨"LaidQuarrel$Cellar", "readTest", "()Z"⟩, 5), (⟨"LaidQuarrel", "madeOf", "(I)LLaidQuarrel$Bottle;"⟩, 17), (⟨"java/util/ArrayList", "add", "(Ljava/lang/Object;[Ljava/lang/Object;I)V"⟩, 3), (⟨"java/util/ArrayList", "grow", "()[Ljava/lang/Object;"⟩, 3), (⟨"java/util/ArrayList", "grow", "(I)[Ljava/lang/Object;"⟩, 3), (⟨"LaidQuarrel", "bottleAt", "(I)LLaidQuarrel$Bottle;"⟩, 17), (⟨"LaidQuarrel$Cellar", "holds", "(IILLaidQuarrel$Bottle;LLaidQuarrel$Laid;)Z"⟩, 5), (⟨"LaidQuarrel$Cellar", "testHolds", "(ILLaidQuarrel$Bottle;LLaidQuarrel$Laid;)Z"⟩, 5)]
theorem lw_r1 : ∀ q ∈ lw_privs_1, lw_okq q := List.forall_mem_cons.mpr ⟨lw_p0, List.forall_mem_cons.mpr ⟨lw_p1, List.forall_mem_cons.mpr ⟨lw_p2, List.forall_mem_cons.mpr ⟨lw_p3, List.forall_mem_cons.mpr ⟨lw_p4, List.forall_mem_cons.mpr ⟨lw_p5, List.forall_mem_cons.mpr ⟨lw_p6, List.forall_mem_cons.mpr ⟨lw_p7, List.forall_mem_cons.mpr ⟨lw_p8, List.forall_mem_cons.mpr ⟨lw_p9, List.forall_mem_cons.mpr ⟨lw_p10, List.forall_mem_cons.mpr ⟨lw_p11, List.forall_mem_cons.mpr ⟨lw_p12, List.forall_mem_cons.mpr ⟨lw_p13, List.forall_mem_cons.mpr ⟨lw_p14, List.forall_mem_cons.mpr ⟨lw_p15, fun _ h => absurd h List.not_mem_nil⟩⟩⟩⟩⟩⟩⟩⟩⟩⟩⟩⟩⟩⟩⟩⟩
theorem lw_p16 : lw_okq (⟨"LaidQuarrel", "says", "(LLaidQuarrel$Bottle;LLaidQuarrel$Laid;)I"⟩, 17) := ⟨⟨by decide +kernel, by decide +kernel⟩, List.mem_of_getElem? (i := 27) (by decide +kernel), List.mem_of_getElem? (i := 600) (by decide +kernel), List.mem_of_getElem? (i := 601) (by decide +kernel)⟩
theorem lw_p17 : lw_okq (⟨"LaidQuarrel", "isGuest", "(I)Z"⟩, 17) := ⟨⟨by decide +kernel, by decide +kernel⟩, List.mem_of_getElem? (i := 27) (by decide +kernel), List.mem_of_getElem? (i := 658) (by decide +kernel), List.mem_of_getElem? (i := 659) (by decide +kernel)⟩
theorem lw_p18 : lw_okq (⟨"LaidQuarrel$Cellar", "lastOf", "(II)I"⟩, 5) := ⟨⟨by decide +kernel, by decide +kernel⟩, List.mem_of_getElem? (i := 63) (by decide +kernel), List.mem_of_getElem? (i := 671) (by decide +kernel), List.mem_of_getElem? (i := 672) (by decide +kernel)⟩
theorem lw_p19 : lw_okq (⟨"LaidQuarrel", "fullOnes", "()I"⟩, 17) := ⟨⟨by decide +kernel, by decide +kernel⟩, List.mem_of_getElem? (i := 27) (by decide +kernel), List.mem_of_getElem? (i := 679) (by decide +kernel), List.mem_of_getElem? (i := 680) (by decide +kernel)⟩
theorem lw_p20 : lw_okq (⟨"LaidQuarrel", "allSay", "(I)I"⟩, 17) := ⟨⟨by decide +kernel, by decide +kernel⟩, List.mem_of_getElem? (i := 27) (by decide +kernel), List.mem_of_getElem? (i := 683) (by decide +kernel), List.mem_of_getElem? (i := 684) (by decide +kernel)⟩
theorem lw_p21 : lw_okq (⟨"LaidQuarrel", "calmDown", "(LLaidQuarrel$Shelf;I)V"⟩, 17) := ⟨⟨by decide +kernel, by decide +kernel⟩, List.mem_of_getElem? (i := 27) (by decide +kernel), List.mem_of_getElem? (i := 734) (by decide +kernel), List.mem_of_getElem? (i := 735) (by decide +kernel)⟩
theorem lw_p22 : lw_okq (⟨"LaidQuarrel", "hearAll", "()V"⟩, 17) := ⟨⟨by decide +kernel, by decide +kernel⟩, List.mem_of_getElem? (i := 27) (by decide +kernel), List.mem_of_getElem? (i := 771) (by decide +kernel), List.mem_of_getElem? (i := 772) (by decide +kernel)⟩
theorem lw_p23 : lw_okq (⟨"LaidQuarrel", "saidBy", "(I)I"⟩, 17) := ⟨⟨by decide +kernel, by decide +kernel⟩, List.mem_of_getElem? (i := 27) (by decide +kernel), List.mem_of_getElem? (i := 781) (by decide +kernel), List.mem_of_getElem? (i := 782) (by decide +kernel)⟩
theorem lw_p24 : lw_okq (⟨"LaidQuarrel", "countPairs", "(I)V"⟩, 17) := ⟨⟨by decide +kernel, by decide +kernel⟩, List.mem_of_getElem? (i := 27) (by decide +kernel), List.mem_of_getElem? (i := 807) (by decide +kernel), List.mem_of_getElem? (i := 808) (by decide +kernel)⟩
theorem lw_p25 : lw_okq (⟨"LaidQuarrel", "makesPeace", "(II)Z"⟩, 17) := ⟨⟨by decide +kernel, by decide +kernel⟩, List.mem_of_getElem? (i := 27) (by decide +kernel), List.mem_of_getElem? (i := 815) (by decide +kernel), List.mem_of_getElem? (i := 816) (by decide +kernel)⟩
theorem lw_p26 : lw_okq (⟨"LaidQuarrel", "partnerOf", "(II)I"⟩, 17) := ⟨⟨by decide +kernel, by decide +kernel⟩, List.mem_of_getElem? (i := 27) (by decide +kernel), List.mem_of_getElem? (i := 819) (by decide +kernel), List.mem_of_getElem? (i := 820) (by decide +kernel)⟩
theorem lw_p27 : lw_okq (⟨"LaidQuarrel", "leastPartner", "(II)I"⟩, 17) := ⟨⟨by decide +kernel, by decide +kernel⟩, List.mem_of_getElem? (i := 27) (by decide +kernel), List.mem_of_getElem? (i := 823) (by decide +kernel), List.mem_of_getElem? (i := 824) (by decide +kernel)⟩
theorem lw_p28 : lw_okq (⟨"LaidQuarrel", "allSeenIsSo", "(III)Z"⟩, 17) := ⟨⟨by decide +kernel, by decide +kernel⟩, List.mem_of_getElem? (i := 27) (by decide +kernel), List.mem_of_getElem? (i := 839) (by decide +kernel), List.mem_of_getElem? (i := 840) (by decide +kernel)⟩
theorem lw_p29 : lw_okq (⟨"LaidQuarrel", "tryRow", "(ILLaidQuarrel$Bottle;I)V"⟩, 17) := ⟨⟨by decide +kernel, by decide +kernel⟩, List.mem_of_getElem? (i := 27) (by decide +kernel), List.mem_of_getElem? (i := 871) (by decide +kernel), List.mem_of_getElem? (i := 872) (by decide +kernel)⟩
theorem lw_p30 : lw_okq (⟨"LaidQuarrel", "allSayAsTried", "()I"⟩, 17) := ⟨⟨by decide +kernel, by decide +kernel⟩, List.mem_of_getElem? (i := 27) (by decide +kernel), List.mem_of_getElem? (i := 875) (by decide +kernel), List.mem_of_getElem? (i := 876) (by decide +kernel)⟩
theorem lw_p31 : lw_okq (⟨"java/util/ArrayList", "fastRemove", "([Ljava/lang/Object;I)V"⟩, 3) := ⟨⟨by decide +kernel, by decide +kernel⟩, List.mem_of_getElem? (i := 87) (by decide +kernel), List.mem_of_getElem? (i := 1018) (by decide +kernel), List.mem_of_getElem? (i := 1019) (by decide +kernel)⟩
def lw_privs_2 : List (MethodName × Nat) := [(⟨"LaidQuarrel", "says", "(LLaidQuarrel$Bottle;LLaidQuarrel$Laid;)I"⟩, 17), (⟨"LaidQuarrel", "isGuest", "(I)Z"⟩, 17), (⟨"LaidQuarrel$Cellar", "lastOf", "(II)I"⟩, 5), (⟨"LaidQuarrel", "fullOnes", "()I"⟩, 17), (⟨"LaidQuarrel", "allSay", "(I)I"⟩, 17), (⟨"LaidQuarrel", "calmDown", "(LLaidQuarrel$Shelf;I)V"⟩, 17), (⟨"LaidQuarrel", "hearAll", "()V"⟩, 17), (⟨"LaidQuarrel", "saidBy", "(I)I"⟩, 17), (⟨"LaidQuarrel", "countPairs", "(I)V"⟩, 17), (⟨"LaidQuarrel", "makesPeace", "(II)Z"⟩, 17), (⟨"LaidQuarrel", "partnerOf", "(II)I"⟩, 17), (⟨"LaidQuarrel", "leastPartner", "(II)I"⟩, 17), (⟨"LaidQuarrel", "allSeenIsSo", "(III)Z"⟩, 17), (⟨"LaidQuarrel", "tryRow", "(ILLaidQuarrel$Bottle;I)V"⟩, 17), (⟨"LaidQuarrel", "allSayAsTried", "()I"⟩, 17), (⟨"java/util/ArrayList", "fastRemove", "([Ljava/lang/Object;I)V"⟩, 3)]
theorem lw_r2 : ∀ q ∈ lw_privs_2, lw_okq q := List.forall_mem_cons.mpr ⟨lw_p16, List.forall_mem_cons.mpr ⟨lw_p17, List.forall_mem_cons.mpr ⟨lw_p18, List.forall_mem_cons.mpr ⟨lw_p19, List.forall_mem_cons.mpr ⟨lw_p20, List.forall_mem_cons.mpr ⟨lw_p21, List.forall_mem_cons.mpr ⟨lw_p22, List.forall_mem_cons.mpr ⟨lw_p23, List.forall_mem_cons.mpr ⟨lw_p24, List.forall_mem_cons.mpr ⟨lw_p25, List.forall_mem_cons.mpr ⟨lw_p26, List.forall_mem_cons.mpr ⟨lw_p27, List.forall_mem_cons.mpr ⟨lw_p28, List.forall_mem_cons.mpr ⟨lw_p29, List.forall_mem_cons.mpr ⟨lw_p30, List.forall_mem_cons.mpr ⟨lw_p31, fun _ h => absurd h List.not_mem_nil⟩⟩⟩⟩⟩⟩⟩⟩⟩⟩⟩⟩⟩⟩⟩⟩
theorem lw_p32 : lw_okq (⟨"LaidQuarrelModel", "clauseHere", "()V"⟩, 24) := ⟨⟨by decide +kernel, by decide +kernel⟩, List.mem_of_getElem? (i := 1038) (by decide +kernel), List.mem_of_getElem? (i := 1128) (by decide +kernel), List.mem_of_getElem? (i := 1129) (by decide +kernel)⟩
theorem lw_p33 : lw_okq (⟨"LaidQuarrelModel", "here", "()I"⟩, 24) := ⟨⟨by decide +kernel, by decide +kernel⟩, List.mem_of_getElem? (i := 1038) (by decide +kernel), List.mem_of_getElem? (i := 1132) (by decide +kernel), List.mem_of_getElem? (i := 1133) (by decide +kernel)⟩
theorem lw_p34 : lw_okq (⟨"LaidQuarrelModel", "tellsHere", "(ILjava/lang/String;)V"⟩, 24) := ⟨⟨by decide +kernel, by decide +kernel⟩, List.mem_of_getElem? (i := 1038) (by decide +kernel), List.mem_of_getElem? (i := 1137) (by decide +kernel), List.mem_of_getElem? (i := 1138) (by decide +kernel)⟩
theorem lw_p35 : lw_okq (⟨"LaidQuarrelModel", "spells", "(Ljava/lang/String;)V"⟩, 24) := ⟨⟨by decide +kernel, by decide +kernel⟩, List.mem_of_getElem? (i := 1038) (by decide +kernel), List.mem_of_getElem? (i := 1141) (by decide +kernel), List.mem_of_getElem? (i := 1142) (by decide +kernel)⟩
theorem lw_p36 : lw_okq (⟨"LaidQuarrelModel", "must", "(I)V"⟩, 24) := ⟨⟨by decide +kernel, by decide +kernel⟩, List.mem_of_getElem? (i := 1038) (by decide +kernel), List.mem_of_getElem? (i := 1147) (by decide +kernel), List.mem_of_getElem? (i := 1148) (by decide +kernel)⟩
theorem lw_p37 : lw_okq (⟨"LaidQuarrelModel", "figures", "()I"⟩, 24) := ⟨⟨by decide +kernel, by decide +kernel⟩, List.mem_of_getElem? (i := 1038) (by decide +kernel), List.mem_of_getElem? (i := 1151) (by decide +kernel), List.mem_of_getElem? (i := 1152) (by decide +kernel)⟩
theorem lw_p38 : lw_okq (⟨"LaidQuarrelModel", "wordOfS", "()V"⟩, 24) := ⟨⟨by decide +kernel, by decide +kernel⟩, List.mem_of_getElem? (i := 1038) (by decide +kernel), List.mem_of_getElem? (i := 1156) (by decide +kernel), List.mem_of_getElem? (i := 1157) (by decide +kernel)⟩
theorem lw_p39 : lw_okq (⟨"LaidQuarrelModel", "much", "(ILjava/lang/String;)V"⟩, 24) := ⟨⟨by decide +kernel, by decide +kernel⟩, List.mem_of_getElem? (i := 1038) (by decide +kernel), List.mem_of_getElem? (i := 1161) (by decide +kernel), List.mem_of_getElem? (i := 1162) (by decide +kernel)⟩
theorem lw_p40 : lw_okq (⟨"LaidQuarrelModel", "some", "()V"⟩, 24) := ⟨⟨by decide +kernel, by decide +kernel⟩, List.mem_of_getElem? (i := 1038) (by decide +kernel), List.mem_of_getElem? (i := 1165) (by decide +kernel), List.mem_of_getElem? (i := 1166) (by decide +kernel)⟩
theorem lw_p41 : lw_okq (⟨"LaidQuarrelModel", "every", "()V"⟩, 24) := ⟨⟨by decide +kernel, by decide +kernel⟩, List.mem_of_getElem? (i := 1038) (by decide +kernel), List.mem_of_getElem? (i := 1169) (by decide +kernel), List.mem_of_getElem? (i := 1170) (by decide +kernel)⟩
theorem lw_p42 : lw_okq (⟨"LaidQuarrelModel", "factor", "()V"⟩, 24) := ⟨⟨by decide +kernel, by decide +kernel⟩, List.mem_of_getElem? (i := 1038) (by decide +kernel), List.mem_of_getElem? (i := 1173) (by decide +kernel), List.mem_of_getElem? (i := 1174) (by decide +kernel)⟩
theorem lw_p43 : lw_okq (⟨"LaidQuarrelModel", "emits", "(I)V"⟩, 24) := ⟨⟨by decide +kernel, by decide +kernel⟩, List.mem_of_getElem? (i := 1038) (by decide +kernel), List.mem_of_getElem? (i := 1177) (by decide +kernel), List.mem_of_getElem? (i := 1178) (by decide +kernel)⟩
theorem lw_p44 : lw_okq (⟨"LaidQuarrelModel", "among", "(Ljava/lang/String;)I"⟩, 24) := ⟨⟨by decide +kernel, by decide +kernel⟩, List.mem_of_getElem? (i := 1038) (by decide +kernel), List.mem_of_getElem? (i := 1182) (by decide +kernel), List.mem_of_getElem? (i := 1183) (by decide +kernel)⟩
theorem lw_p45 : lw_okq (⟨"LaidQuarrelModel", "isBottle", "(I)Z"⟩, 24) := ⟨⟨by decide +kernel, by decide +kernel⟩, List.mem_of_getElem? (i := 1038) (by decide +kernel), List.mem_of_getElem? (i := 1203) (by decide +kernel), List.mem_of_getElem? (i := 1204) (by decide +kernel)⟩
theorem lw_p46 : lw_okq (⟨"LaidQuarrelModel", "softOf", "(I)I"⟩, 24) := ⟨⟨by decide +kernel, by decide +kernel⟩, List.mem_of_getElem? (i := 1038) (by decide +kernel), List.mem_of_getElem? (i := 1207) (by decide +kernel), List.mem_of_getElem? (i := 1208) (by decide +kernel)⟩
theorem lw_p47 : lw_okq (⟨"LaidQuarrelModel", "looks", "(I)I"⟩, 24) := ⟨⟨by decide +kernel, by decide +kernel⟩, List.mem_of_getElem? (i := 1038) (by decide +kernel), List.mem_of_getElem? (i := 1211) (by decide +kernel), List.mem_of_getElem? (i := 1212) (by decide +kernel)⟩
def lw_privs_3 : List (MethodName × Nat) := [(⟨"LaidQuarrelModel", "clauseHere", "()V"⟩, 24), (⟨"LaidQuarrelModel", "here", "()I"⟩, 24), (⟨"LaidQuarrelModel", "tellsHere", "(ILjava/lang/String;)V"⟩, 24), (⟨"LaidQuarrelModel", "spells", "(Ljava/lang/String;)V"⟩, 24), (⟨"LaidQuarrelModel", "must", "(I)V"⟩, 24), (⟨"LaidQuarrelModel", "figures", "()I"⟩, 24), (⟨"LaidQuarrelModel", "wordOfS", "()V"⟩, 24), (⟨"LaidQuarrelModel", "much", "(ILjava/lang/String;)V"⟩, 24), (⟨"LaidQuarrelModel", "some", "()V"⟩, 24), (⟨"LaidQuarrelModel", "every", "()V"⟩, 24), (⟨"LaidQuarrelModel", "factor", "()V"⟩, 24), (⟨"LaidQuarrelModel", "emits", "(I)V"⟩, 24), (⟨"LaidQuarrelModel", "among", "(Ljava/lang/String;)I"⟩, 24), (⟨"LaidQuarrelModel", "isBottle", "(I)Z"⟩, 24), (⟨"LaidQuarrelModel", "softOf", "(I)I"⟩, 24), (⟨"LaidQuarrelModel", "looks", "(I)I"⟩, 24)]
theorem lw_r3 : ∀ q ∈ lw_privs_3, lw_okq q := List.forall_mem_cons.mpr ⟨lw_p32, List.forall_mem_cons.mpr ⟨lw_p33, List.forall_mem_cons.mpr ⟨lw_p34, List.forall_mem_cons.mpr ⟨lw_p35, List.forall_mem_cons.mpr ⟨lw_p36, List.forall_mem_cons.mpr ⟨lw_p37, List.forall_mem_cons.mpr ⟨lw_p38, List.forall_mem_cons.mpr ⟨lw_p39, List.forall_mem_cons.mpr ⟨lw_p40, List.forall_mem_cons.mpr ⟨lw_p41, List.forall_mem_cons.mpr ⟨lw_p42, List.forall_mem_cons.mpr ⟨lw_p43, List.forall_mem_cons.mpr ⟨lw_p44, List.forall_mem_cons.mpr ⟨lw_p45, List.forall_mem_cons.mpr ⟨lw_p46, List.forall_mem_cons.mpr ⟨lw_p47, fun _ h => absurd h List.not_mem_nil⟩⟩⟩⟩⟩⟩⟩⟩⟩⟩⟩⟩⟩⟩⟩⟩
theorem lw_p48 : lw_okq (⟨"LaidQuarrelModel", "tellsOf", "(II)I"⟩, 24) := ⟨⟨by decide +kernel, by decide +kernel⟩, List.mem_of_getElem? (i := 1038) (by decide +kernel), List.mem_of_getElem? (i := 1218) (by decide +kernel), List.mem_of_getElem? (i := 1219) (by decide +kernel)⟩
theorem lw_p49 : lw_okq (⟨"LaidQuarrelModel", "saysOf", "(I)I"⟩, 24) := ⟨⟨by decide +kernel, by decide +kernel⟩, List.mem_of_getElem? (i := 1038) (by decide +kernel), List.mem_of_getElem? (i := 1222) (by decide +kernel), List.mem_of_getElem? (i := 1223) (by decide +kernel)⟩
theorem lw_p50 : lw_okq (⟨"LaidQuarrelModel", "isGuest", "(I)Z"⟩, 24) := ⟨⟨by decide +kernel, by decide +kernel⟩, List.mem_of_getElem? (i := 1038) (by decide +kernel), List.mem_of_getElem? (i := 1241) (by decide +kernel), List.mem_of_getElem? (i := 1242) (by decide +kernel)⟩
theorem lw_p51 : lw_okq (⟨"LaidQuarrelModel", "fullOnes", "()I"⟩, 24) := ⟨⟨by decide +kernel, by decide +kernel⟩, List.mem_of_getElem? (i := 1038) (by decide +kernel), List.mem_of_getElem? (i := 1249) (by decide +kernel), List.mem_of_getElem? (i := 1250) (by decide +kernel)⟩
theorem lw_p52 : lw_okq (⟨"LaidQuarrelModel", "allSay", "()I"⟩, 24) := ⟨⟨by decide +kernel, by decide +kernel⟩, List.mem_of_getElem? (i := 1038) (by decide +kernel), List.mem_of_getElem? (i := 1253) (by decide +kernel), List.mem_of_getElem? (i := 1254) (by decide +kernel)⟩
theorem lw_p53 : lw_okq (⟨"LaidQuarrelModel", "allMoods", "()I"⟩, 24) := ⟨⟨by decide +kernel, by decide +kernel⟩, List.mem_of_getElem? (i := 1038) (by decide +kernel), List.mem_of_getElem? (i := 1257) (by decide +kernel), List.mem_of_getElem? (i := 1258) (by decide +kernel)⟩
theorem lw_p54 : lw_okq (⟨"LaidQuarrelModel", "pours", "(II)V"⟩, 24) := ⟨⟨by decide +kernel, by decide +kernel⟩, List.mem_of_getElem? (i := 1038) (by decide +kernel), List.mem_of_getElem? (i := 1265) (by decide +kernel), List.mem_of_getElem? (i := 1266) (by decide +kernel)⟩
theorem lw_p55 : lw_okq (⟨"LaidQuarrelModel", "brings", "(II)V"⟩, 24) := ⟨⟨by decide +kernel, by decide +kernel⟩, List.mem_of_getElem? (i := 1038) (by decide +kernel), List.mem_of_getElem? (i := 1269) (by decide +kernel), List.mem_of_getElem? (i := 1270) (by decide +kernel)⟩
theorem lw_p56 : lw_okq (⟨"LaidQuarrelModel", "goesOn", "(I)V"⟩, 24) := ⟨⟨by decide +kernel, by decide +kernel⟩, List.mem_of_getElem? (i := 1038) (by decide +kernel), List.mem_of_getElem? (i := 1284) (by decide +kernel), List.mem_of_getElem? (i := 1285) (by decide +kernel)⟩
theorem lw_p57 : lw_okq (⟨"LaidQuarrelModel", "goes", "()V"⟩, 24) := ⟨⟨by decide +kernel, by decide +kernel⟩, List.mem_of_getElem? (i := 1038) (by decide +kernel), List.mem_of_getElem? (i := 1288) (by decide +kernel), List.mem_of_getElem? (i := 1289) (by decide +kernel)⟩
theorem lw_p58 : lw_okq (⟨"LaidQuarrelModel", "keeps", "()V"⟩, 24) := ⟨⟨by decide +kernel, by decide +kernel⟩, List.mem_of_getElem? (i := 1038) (by decide +kernel), List.mem_of_getElem? (i := 1296) (by decide +kernel), List.mem_of_getElem? (i := 1297) (by decide +kernel)⟩
theorem lw_p59 : lw_okq (⟨"LaidQuarrelModel", "goesBack", "()V"⟩, 24) := ⟨⟨by decide +kernel, by decide +kernel⟩, List.mem_of_getElem? (i := 1038) (by decide +kernel), List.mem_of_getElem? (i := 1300) (by decide +kernel), List.mem_of_getElem? (i := 1301) (by decide +kernel)⟩
theorem lw_p60 : lw_okq (⟨"LaidQuarrelModel", "looksForSayings", "()V"⟩, 24) := ⟨⟨by decide +kernel, by decide +kernel⟩, List.mem_of_getElem? (i := 1038) (by decide +kernel), List.mem_of_getElem? (i := 1321) (by decide +kernel), List.mem_of_getElem? (i := 1322) (by decide +kernel)⟩
theorem lw_p61 : lw_okq (⟨"LaidQuarrelModel", "sumOf", "(I)I"⟩, 24) := ⟨⟨by decide +kernel, by decide +kernel⟩, List.mem_of_getElem? (i := 1038) (by decide +kernel), List.mem_of_getElem? (i := 1325) (by decide +kernel), List.mem_of_getElem? (i := 1326) (by decide +kernel)⟩
theorem lw_p62 : lw_okq (⟨"LaidQuarrelModel", "ordersFrom", "(III)V"⟩, 24) := ⟨⟨by decide +kernel, by decide +kernel⟩, List.mem_of_getElem? (i := 1038) (by decide +kernel), List.mem_of_getElem? (i := 1336) (by decide +kernel), List.mem_of_getElem? (i := 1337) (by decide +kernel)⟩
theorem lw_p63 : lw_okq (⟨"LaidQuarrelModel", "pairsFrom", "(II)V"⟩, 24) := ⟨⟨by decide +kernel, by decide +kernel⟩, List.mem_of_getElem? (i := 1038) (by decide +kernel), List.mem_of_getElem? (i := 1348) (by decide +kernel), List.mem_of_getElem? (i := 1349) (by decide +kernel)⟩
def lw_privs_4 : List (MethodName × Nat) := [(⟨"LaidQuarrelModel", "tellsOf", "(II)I"⟩, 24), (⟨"LaidQuarrelModel", "saysOf", "(I)I"⟩, 24), (⟨"LaidQuarrelModel", "isGuest", "(I)Z"⟩, 24), (⟨"LaidQuarrelModel", "fullOnes", "()I"⟩, 24), (⟨"LaidQuarrelModel", "allSay", "()I"⟩, 24), (⟨"LaidQuarrelModel", "allMoods", "()I"⟩, 24), (⟨"LaidQuarrelModel", "pours", "(II)V"⟩, 24), (⟨"LaidQuarrelModel", "brings", "(II)V"⟩, 24), (⟨"LaidQuarrelModel", "goesOn", "(I)V"⟩, 24), (⟨"LaidQuarrelModel", "goes", "()V"⟩, 24), (⟨"LaidQuarrelModel", "keeps", "()V"⟩, 24), (⟨"LaidQuarrelModel", "goesBack", "()V"⟩, 24), (⟨"LaidQuarrelModel", "looksForSayings", "()V"⟩, 24), (⟨"LaidQuarrelModel", "sumOf", "(I)I"⟩, 24), (⟨"LaidQuarrelModel", "ordersFrom", "(III)V"⟩, 24), (⟨"LaidQuarrelModel", "pairsFrom", "(II)V"⟩, 24)]
theorem lw_r4 : ∀ q ∈ lw_privs_4, lw_okq q := List.forall_mem_cons.mpr ⟨lw_p48, List.forall_mem_cons.mpr ⟨lw_p49, List.forall_mem_cons.mpr ⟨lw_p50, List.forall_mem_cons.mpr ⟨lw_p51, List.forall_mem_cons.mpr ⟨lw_p52, List.forall_mem_cons.mpr ⟨lw_p53, List.forall_mem_cons.mpr ⟨lw_p54, List.forall_mem_cons.mpr ⟨lw_p55, List.forall_mem_cons.mpr ⟨lw_p56, List.forall_mem_cons.mpr ⟨lw_p57, List.forall_mem_cons.mpr ⟨lw_p58, List.forall_mem_cons.mpr ⟨lw_p59, List.forall_mem_cons.mpr ⟨lw_p60, List.forall_mem_cons.mpr ⟨lw_p61, List.forall_mem_cons.mpr ⟨lw_p62, List.forall_mem_cons.mpr ⟨lw_p63, fun _ h => absurd h List.not_mem_nil⟩⟩⟩⟩⟩⟩⟩⟩⟩⟩⟩⟩⟩⟩⟩⟩
theorem lw_p64 : lw_okq (⟨"LaidQuarrelModel", "areAsSeen", "()Z"⟩, 24) := ⟨⟨by decide +kernel, by decide +kernel⟩, List.mem_of_getElem? (i := 1038) (by decide +kernel), List.mem_of_getElem? (i := 1367) (by decide +kernel), List.mem_of_getElem? (i := 1368) (by decide +kernel)⟩
theorem lw_p65 : lw_okq (⟨"LaidQuarrelModel", "isAsSeen", "(I)Z"⟩, 24) := ⟨⟨by decide +kernel, by decide +kernel⟩, List.mem_of_getElem? (i := 1038) (by decide +kernel), List.mem_of_getElem? (i := 1371) (by decide +kernel), List.mem_of_getElem? (i := 1372) (by decide +kernel)⟩
theorem lw_p66 : lw_okq (⟨"LaidQuarrelModel", "does", "(III)V"⟩, 24) := ⟨⟨by decide +kernel, by decide +kernel⟩, List.mem_of_getElem? (i := 1038) (by decide +kernel), List.mem_of_getElem? (i := 1403) (by decide +kernel), List.mem_of_getElem? (i := 1404) (by decide +kernel)⟩
theorem lw_p67 : lw_okq (⟨"LaidQuarrelModel", "uttersActs", "(I)I"⟩, 24) := ⟨⟨by decide +kernel, by decide +kernel⟩, List.mem_of_getElem? (i := 1038) (by decide +kernel), List.mem_of_getElem? (i := 1419) (by decide +kernel), List.mem_of_getElem? (i := 1420) (by decide +kernel)⟩
theorem lw_p68 : lw_okq (⟨"LaidQuarrelModel", "ranBody", "(I)V"⟩, 24) := ⟨⟨by decide +kernel, by decide +kernel⟩, List.mem_of_getElem? (i := 1038) (by decide +kernel), List.mem_of_getElem? (i := 1426) (by decide +kernel), List.mem_of_getElem? (i := 1427) (by decide +kernel)⟩
theorem lw_p69 : lw_okq (⟨"LaidQuarrelModel", "plainUtters", "(I)I"⟩, 24) := ⟨⟨by decide +kernel, by decide +kernel⟩, List.mem_of_getElem? (i := 1038) (by decide +kernel), List.mem_of_getElem? (i := 1430) (by decide +kernel), List.mem_of_getElem? (i := 1431) (by decide +kernel)⟩
theorem lw_p70 : lw_okq (⟨"LaidQuarrelModel", "keepsActs", "(I)I"⟩, 24) := ⟨⟨by decide +kernel, by decide +kernel⟩, List.mem_of_getElem? (i := 1038) (by decide +kernel), List.mem_of_getElem? (i := 1434) (by decide +kernel), List.mem_of_getElem? (i := 1435) (by decide +kernel)⟩
theorem lw_p71 : lw_okq (⟨"LaidQuarrelModel", "plainKeeping", "(I)I"⟩, 24) := ⟨⟨by decide +kernel, by decide +kernel⟩, List.mem_of_getElem? (i := 1038) (by decide +kernel), List.mem_of_getElem? (i := 1438) (by decide +kernel), List.mem_of_getElem? (i := 1439) (by decide +kernel)⟩
theorem lw_p72 : lw_okq (⟨"LaidQuarrelModel", "tellsActs", "(I)I"⟩, 24) := ⟨⟨by decide +kernel, by decide +kernel⟩, List.mem_of_getElem? (i := 1038) (by decide +kernel), List.mem_of_getElem? (i := 1442) (by decide +kernel), List.mem_of_getElem? (i := 1443) (by decide +kernel)⟩
theorem lw_p73 : lw_okq (⟨"LaidQuarrelModel", "plainTelling", "(I)I"⟩, 24) := ⟨⟨by decide +kernel, by decide +kernel⟩, List.mem_of_getElem? (i := 1038) (by decide +kernel), List.mem_of_getElem? (i := 1446) (by decide +kernel), List.mem_of_getElem? (i := 1447) (by decide +kernel)⟩
def lw_privs_5 : List (MethodName × Nat) := [(⟨"LaidQuarrelModel", "areAsSeen", "()Z"⟩, 24), (⟨"LaidQuarrelModel", "isAsSeen", "(I)Z"⟩, 24), (⟨"LaidQuarrelModel", "does", "(III)V"⟩, 24), (⟨"LaidQuarrelModel", "uttersActs", "(I)I"⟩, 24), (⟨"LaidQuarrelModel", "ranBody", "(I)V"⟩, 24), (⟨"LaidQuarrelModel", "plainUtters", "(I)I"⟩, 24), (⟨"LaidQuarrelModel", "keepsActs", "(I)I"⟩, 24), (⟨"LaidQuarrelModel", "plainKeeping", "(I)I"⟩, 24), (⟨"LaidQuarrelModel", "tellsActs", "(I)I"⟩, 24), (⟨"LaidQuarrelModel", "plainTelling", "(I)I"⟩, 24)]
theorem lw_r5 : ∀ q ∈ lw_privs_5, lw_okq q := List.forall_mem_cons.mpr ⟨lw_p64, List.forall_mem_cons.mpr ⟨lw_p65, List.forall_mem_cons.mpr ⟨lw_p66, List.forall_mem_cons.mpr ⟨lw_p67, List.forall_mem_cons.mpr ⟨lw_p68, List.forall_mem_cons.mpr ⟨lw_p69, List.forall_mem_cons.mpr ⟨lw_p70, List.forall_mem_cons.mpr ⟨lw_p71, List.forall_mem_cons.mpr ⟨lw_p72, List.forall_mem_cons.mpr ⟨lw_p73, fun _ h => absurd h List.not_mem_nil⟩⟩⟩⟩⟩⟩⟩⟩⟩⟩
def lw_privs : List (MethodName × Nat) := lw_privs_1 ++ (lw_privs_2 ++ (lw_privs_3 ++ (lw_privs_4 ++ (lw_privs_5))))
def lw_tbl : List Cond := k2_sels lw_privs ++ tables_1
theorem lw_privs_ok : ∀ q ∈ lw_privs, lw_okq q := by
  show ∀ q ∈ lw_privs_1 ++ (lw_privs_2 ++ (lw_privs_3 ++ (lw_privs_4 ++ (lw_privs_5)))), lw_okq q
  exact List.forall_mem_append.mpr ⟨lw_r1, List.forall_mem_append.mpr ⟨lw_r2, List.forall_mem_append.mpr ⟨lw_r3, List.forall_mem_append.mpr ⟨lw_r4, lw_r5⟩⟩⟩⟩
end
section
/-! ===== BEGIN words of one list among another's, by their places ===== -/
theorem goodIn_r {big : List Cond} (ws : List Cond) (ps : List Nat) (hp : ws = ps.filterMap (fun i => big[i]?)) (h : ws.all goodWord = true) : GoodIn big ws := by
  intro w hw
  have h1 := List.all_eq_true.mp h w hw
  rw [hp] at hw
  obtain ⟨i, -, hi⟩ := List.mem_filterMap.mp hw
  have hm : w ∈ big := by first | exact List.mem_of_getElem? hi | exact List.getElem?_mem hi
  exact ⟨hm, good_of_word h1⟩
theorem goodIn_app {big a b : List Cond} (ha : GoodIn big a) (hb : GoodIn big b) : GoodIn big (a ++ b) := fun w h => (List.mem_append.mp h).elim (ha w) (hb w)
theorem goodIn_ca {big a b : List Cond} {c : Cond} (ha : GoodIn big (c :: a)) (hb : GoodIn big b) : GoodIn big (c :: (a ++ b)) := fun w h => (List.mem_cons.mp h).elim (fun e => ha w (List.mem_cons.mpr (Or.inl e))) (fun h => (List.mem_append.mp h).elim (fun h => ha w (List.mem_cons.mpr (Or.inr h))) (hb w))
theorem goodIn_sub {big ws : List Cond} (hm : ∀ w ∈ ws, w ∈ big) (h : ws.all goodWord = true) : GoodIn big ws := fun w hw => ⟨hm w hw, good_of_word (List.all_eq_true.mp h w hw)⟩
/-! ===== END ===== -/

/-! ===== BEGIN printed: names, fields, word lists, decode rows ===== -/
def RX0 : String := "LaidQuarrel$Bottle"
def TX0 : u_T := fun k => match k with
  | 0 => ("LaidQuarrel$Bottle", "kind", "I", true)
  | 1 => ("LaidQuarrel$Bottle", "number", "I", true)
  | 2 => ("LaidQuarrel$Bottle", "bodies", "LLaidQuarrel$Shelf;", true)
  | 3 => ("LaidQuarrel$Bottle", "now", "LLaidQuarrel$Laid;", true)
  | 4 => ("LaidQuarrel$Bottle", "kept", "LLaidQuarrel$Laid;", true)
  | _ => ("LaidQuarrel$Bottle", "tried", "LLaidQuarrel$Laid;", true)
def tyX0 : Nat → FieldType := fun k => match k with
  | 0 => .int
  | 1 => .int
  | 2 => .object "LaidQuarrel$Shelf"
  | 3 => .object "LaidQuarrel$Laid"
  | 4 => .object "LaidQuarrel$Laid"
  | _ => .object "LaidQuarrel$Laid"
abbrev wsX00 : List Cond := u_ws RX0 TX0 6
theorem nmX0 : ∀ a, a < 6 → ∀ b, b < 6 → a ≠ b → (TX0 a).2.1 ≠ (TX0 b).2.1 := by decide +kernel
theorem tyX0_ok : ∀ k, k < 6 → parseFieldDescriptor (TX0 k).2.2.1 = some (tyX0 k) := by decide +kernel
abbrev cX0_init : ByteArray := prog_2_method_1_code
def yX0_init : MethodName := ⟨RX0, "<init>", "(IILLaidQuarrel$Shelf;)V"⟩
abbrev cX0_keep : ByteArray := prog_2_method_2_code
def yX0_keep : MethodName := ⟨RX0, "keep", "()V"⟩
abbrev cX0_restore : ByteArray := prog_2_method_3_code
def yX0_restore : MethodName := ⟨RX0, "restore", "()V"⟩
abbrev cX0_tryNow : ByteArray := prog_2_method_4_code
def yX0_tryNow : MethodName := ⟨RX0, "tryNow", "()LLaidQuarrel$Laid;"⟩
abbrev cX0_tryBehind : ByteArray := prog_2_method_5_code
def yX0_tryBehind : MethodName := ⟨RX0, "tryBehind", "(I)LLaidQuarrel$Laid;"⟩
abbrev cX0_spoken : ByteArray := prog_2_method_6_code
def yX0_spoken : MethodName := ⟨RX0, "spoken", "(LLaidQuarrel$Laid;I)I"⟩
abbrev cX0_utters : ByteArray := prog_2_method_7_code
def yX0_utters : MethodName := ⟨RX0, "utters", "(I)I"⟩
abbrev cX0_keeps : ByteArray := prog_2_method_8_code
def yX0_keeps : MethodName := ⟨RX0, "keeps", "(I)I"⟩
abbrev cX0_tells : ByteArray := prog_2_method_9_code
def yX0_tells : MethodName := ⟨RX0, "tells", "(I)I"⟩
def RX1 : String := "LaidQuarrel$Cellar"
def TX1 : u_T := fun k => match k with
  | 0 => ("LaidQuarrel$Cellar", "text", "LLaidQuarrel$Shelf;", true)
  | 1 => ("LaidQuarrel$Cellar", "clauses", "LLaidQuarrel$Shelf;", true)
  | 2 => ("LaidQuarrel$Cellar", "parts", "LLaidQuarrel$Shelf;", true)
  | 3 => ("LaidQuarrel$Cellar", "place", "I", false)
  | _ => ("LaidQuarrel$Cellar", "number", "I", false)
def tyX1 : Nat → FieldType := fun k => match k with
  | 0 => .object "LaidQuarrel$Shelf"
  | 1 => .object "LaidQuarrel$Shelf"
  | 2 => .object "LaidQuarrel$Shelf"
  | 3 => .int
  | _ => .int
abbrev wsX10 : List Cond := u_ws RX1 TX1 5
theorem nmX1 : ∀ a, a < 5 → ∀ b, b < 5 → a ≠ b → (TX1 a).2.1 ≠ (TX1 b).2.1 := by decide +kernel
theorem tyX1_ok : ∀ k, k < 5 → parseFieldDescriptor (TX1 k).2.2.1 = some (tyX1 k) := by decide +kernel
abbrev cX1_init : ByteArray := prog_3_method_1_code
def yX1_init : MethodName := ⟨RX1, "<init>", "(LLaidQuarrel$Shelf;)V"⟩
abbrev cX1_copyFrom : ByteArray := prog_3_method_2_code
def yX1_copyFrom : MethodName := ⟨RX1, "copyFrom", "(LLaidQuarrel$Cellar;)V"⟩
abbrev cX1_keep : ByteArray := prog_3_method_3_code
def yX1_keep : MethodName := ⟨RX1, "keep", "()V"⟩
abbrev cX1_restore : ByteArray := prog_3_method_4_code
def yX1_restore : MethodName := ⟨RX1, "restore", "()V"⟩
abbrev cX1_calm : ByteArray := prog_3_method_5_code
def yX1_calm : MethodName := ⟨RX1, "calm", "()I"⟩
abbrev cX1_peace : ByteArray := prog_3_method_6_code
def yX1_peace : MethodName := ⟨RX1, "peace", "()I"⟩
abbrev cX1_lastOf : ByteArray := prog_3_method_7_code
def yX1_lastOf : MethodName := ⟨RX1, "lastOf", "(II)I"⟩
abbrev cX1_softOf : ByteArray := prog_3_method_8_code
def yX1_softOf : MethodName := ⟨RX1, "softOf", "(LLaidQuarrel$Bottle;LLaidQuarrel$Laid;)I"⟩
abbrev cX1_holds : ByteArray := prog_3_method_9_code
def yX1_holds : MethodName := ⟨RX1, "holds", "(IILLaidQuarrel$Bottle;LLaidQuarrel$Laid;)Z"⟩
abbrev cX1_testHolds : ByteArray := prog_3_method_10_code
def yX1_testHolds : MethodName := ⟨RX1, "testHolds", "(ILLaidQuarrel$Bottle;LLaidQuarrel$Laid;)Z"⟩
abbrev cX1_factOf : ByteArray := prog_3_method_11_code
def yX1_factOf : MethodName := ⟨RX1, "factOf", "(ILLaidQuarrel$Bottle;LLaidQuarrel$Laid;)I"⟩
abbrev cX1_readText : ByteArray := prog_3_method_12_code
def yX1_readText : MethodName := ⟨RX1, "readText", "()I"⟩
abbrev cX1_readClause : ByteArray := prog_3_method_13_code
def yX1_readClause : MethodName := ⟨RX1, "readClause", "()Z"⟩
abbrev cX1_addClause : ByteArray := prog_3_method_14_code
def yX1_addClause : MethodName := ⟨RX1, "addClause", "(II)Z"⟩
abbrev cX1_readEither : ByteArray := prog_3_method_15_code
def yX1_readEither : MethodName := ⟨RX1, "readEither", "(I)Z"⟩
abbrev cX1_readFactor : ByteArray := prog_3_method_16_code
def yX1_readFactor : MethodName := ⟨RX1, "readFactor", "(I)Z"⟩
abbrev cX1_readBracket : ByteArray := prog_3_method_17_code
def yX1_readBracket : MethodName := ⟨RX1, "readBracket", "(I)Z"⟩
abbrev cX1_readTest : ByteArray := prog_3_method_18_code
def yX1_readTest : MethodName := ⟨RX1, "readTest", "()Z"⟩
abbrev cX1_isLetter : ByteArray := prog_3_method_19_code
def yX1_isLetter : MethodName := ⟨RX1, "isLetter", "(I)Z"⟩
abbrev cX1_readNumber : ByteArray := prog_3_method_20_code
def yX1_readNumber : MethodName := ⟨RX1, "readNumber", "()Z"⟩
abbrev cX1_takes : ByteArray := prog_3_method_21_code
def yX1_takes : MethodName := ⟨RX1, "takes", "(I)Z"⟩
abbrev cX1_takesAll : ByteArray := prog_3_method_22_code
def yX1_takesAll : MethodName := ⟨RX1, "takesAll", "(Ljava/lang/String;)Z"⟩
def RX2 : String := "LaidQuarrel$Corked"
def TX2 : u_T := fun k => match k with
  | 0 => ("LaidQuarrel$Bottle", "kind", "I", true)
  | 1 => ("LaidQuarrel$Bottle", "number", "I", true)
  | 2 => ("LaidQuarrel$Bottle", "bodies", "LLaidQuarrel$Shelf;", true)
  | 3 => ("LaidQuarrel$Bottle", "now", "LLaidQuarrel$Laid;", true)
  | 4 => ("LaidQuarrel$Bottle", "kept", "LLaidQuarrel$Laid;", true)
  | _ => ("LaidQuarrel$Bottle", "tried", "LLaidQuarrel$Laid;", true)
def tyX2 : Nat → FieldType := fun k => match k with
  | 0 => .int
  | 1 => .int
  | 2 => .object "LaidQuarrel$Shelf"
  | 3 => .object "LaidQuarrel$Laid"
  | 4 => .object "LaidQuarrel$Laid"
  | _ => .object "LaidQuarrel$Laid"
abbrev wsX20 : List Cond := u_ws RX2 TX2 6
theorem nmX2 : ∀ a, a < 6 → ∀ b, b < 6 → a ≠ b → (TX2 a).2.1 ≠ (TX2 b).2.1 := by decide +kernel
theorem tyX2_ok : ∀ k, k < 6 → parseFieldDescriptor (TX2 k).2.2.1 = some (tyX2 k) := by decide +kernel
abbrev cX2_init : ByteArray := prog_4_method_1_code
def yX2_init : MethodName := ⟨RX2, "<init>", "(IILLaidQuarrel$Shelf;)V"⟩
abbrev cX2_spoken : ByteArray := prog_4_method_2_code
def yX2_spoken : MethodName := ⟨RX2, "spoken", "(LLaidQuarrel$Laid;I)I"⟩
abbrev cX2_tells : ByteArray := prog_4_method_3_code
def yX2_tells : MethodName := ⟨RX2, "tells", "(I)I"⟩
def RX3 : String := "LaidQuarrel$Feud"
def TX3 : u_T := fun k => match k with
  | 0 => ("LaidQuarrel$Bottle", "kind", "I", true)
  | 1 => ("LaidQuarrel$Bottle", "number", "I", true)
  | 2 => ("LaidQuarrel$Bottle", "bodies", "LLaidQuarrel$Shelf;", true)
  | 3 => ("LaidQuarrel$Bottle", "now", "LLaidQuarrel$Laid;", true)
  | 4 => ("LaidQuarrel$Bottle", "kept", "LLaidQuarrel$Laid;", true)
  | _ => ("LaidQuarrel$Bottle", "tried", "LLaidQuarrel$Laid;", true)
def tyX3 : Nat → FieldType := fun k => match k with
  | 0 => .int
  | 1 => .int
  | 2 => .object "LaidQuarrel$Shelf"
  | 3 => .object "LaidQuarrel$Laid"
  | 4 => .object "LaidQuarrel$Laid"
  | _ => .object "LaidQuarrel$Laid"
abbrev wsX30 : List Cond := u_ws RX3 TX3 6
theorem nmX3 : ∀ a, a < 6 → ∀ b, b < 6 → a ≠ b → (TX3 a).2.1 ≠ (TX3 b).2.1 := by decide +kernel
theorem tyX3_ok : ∀ k, k < 6 → parseFieldDescriptor (TX3 k).2.2.1 = some (tyX3 k) := by decide +kernel
abbrev cX3_init : ByteArray := prog_5_method_1_code
def yX3_init : MethodName := ⟨RX3, "<init>", "(IILLaidQuarrel$Shelf;)V"⟩
abbrev cX3_spoken : ByteArray := prog_5_method_2_code
def yX3_spoken : MethodName := ⟨RX3, "spoken", "(LLaidQuarrel$Laid;I)I"⟩
abbrev cX3_tells : ByteArray := prog_5_method_3_code
def yX3_tells : MethodName := ⟨RX3, "tells", "(I)I"⟩
def RX4 : String := "LaidQuarrel$Hard"
def TX4 : u_T := fun k => match k with
  | 0 => ("LaidQuarrel$Bottle", "kind", "I", true)
  | 1 => ("LaidQuarrel$Bottle", "number", "I", true)
  | 2 => ("LaidQuarrel$Bottle", "bodies", "LLaidQuarrel$Shelf;", true)
  | 3 => ("LaidQuarrel$Bottle", "now", "LLaidQuarrel$Laid;", true)
  | 4 => ("LaidQuarrel$Bottle", "kept", "LLaidQuarrel$Laid;", true)
  | _ => ("LaidQuarrel$Bottle", "tried", "LLaidQuarrel$Laid;", true)
def tyX4 : Nat → FieldType := fun k => match k with
  | 0 => .int
  | 1 => .int
  | 2 => .object "LaidQuarrel$Shelf"
  | 3 => .object "LaidQuarrel$Laid"
  | 4 => .object "LaidQuarrel$Laid"
  | _ => .object "LaidQuarrel$Laid"
abbrev wsX40 : List Cond := u_ws RX4 TX4 6
theorem nmX4 : ∀ a, a < 6 → ∀ b, b < 6 → a ≠ b → (TX4 a).2.1 ≠ (TX4 b).2.1 := by decide +kernel
theorem tyX4_ok : ∀ k, k < 6 → parseFieldDescriptor (TX4 k).2.2.1 = some (tyX4 k) := by decide +kernel
abbrev cX4_init : ByteArray := prog_6_method_1_code
def yX4_init : MethodName := ⟨RX4, "<init>", "(IILLaidQuarrel$Shelf;)V"⟩
abbrev cX4_spoken : ByteArray := prog_6_method_2_code
def yX4_spoken : MethodName := ⟨RX4, "spoken", "(LLaidQuarrel$Laid;I)I"⟩
abbrev cX4_utters : ByteArray := prog_6_method_3_code
def yX4_utters : MethodName := ⟨RX4, "utters", "(I)I"⟩
def RX5 : String := "LaidQuarrel$Laid"
def TX5 : u_T := fun k => match k with
  | 0 => ("LaidQuarrel$Laid", "tellings", "[I", true)
  | 1 => ("LaidQuarrel$Laid", "v", "I", false)
  | 2 => ("LaidQuarrel$Laid", "word", "I", false)
  | 3 => ("LaidQuarrel$Laid", "years", "I", false)
  | 4 => ("LaidQuarrel$Laid", "quarter", "I", false)
  | _ => ("LaidQuarrel$Laid", "empty", "Z", false)
def tyX5 : Nat → FieldType := fun k => match k with
  | 0 => .array .int
  | 1 => .int
  | 2 => .int
  | 3 => .int
  | 4 => .int
  | _ => .boolean
abbrev wsX50 : List Cond := u_ws RX5 TX5 6
theorem nmX5 : ∀ a, a < 6 → ∀ b, b < 6 → a ≠ b → (TX5 a).2.1 ≠ (TX5 b).2.1 := by decide +kernel
theorem tyX5_ok : ∀ k, k < 6 → parseFieldDescriptor (TX5 k).2.2.1 = some (tyX5 k) := by decide +kernel
abbrev cX5_init : ByteArray := prog_7_method_1_code
def yX5_init : MethodName := ⟨RX5, "<init>", "()V"⟩
abbrev cX5_copyFrom : ByteArray := prog_7_method_2_code
def yX5_copyFrom : MethodName := ⟨RX5, "copyFrom", "(LLaidQuarrel$Laid;)V"⟩
abbrev cX5_age : ByteArray := prog_7_method_3_code
def yX5_age : MethodName := ⟨RX5, "age", "(I)V"⟩
abbrev cX5_tell : ByteArray := prog_7_method_4_code
def yX5_tell : MethodName := ⟨RX5, "tell", "(II)I"⟩
abbrev cX5_telling : ByteArray := prog_7_method_5_code
def yX5_telling : MethodName := ⟨RX5, "telling", "()I"⟩
def RX6 : String := "LaidQuarrel$Love"
def TX6 : u_T := fun k => match k with
  | 0 => ("LaidQuarrel$Bottle", "kind", "I", true)
  | 1 => ("LaidQuarrel$Bottle", "number", "I", true)
  | 2 => ("LaidQuarrel$Bottle", "bodies", "LLaidQuarrel$Shelf;", true)
  | 3 => ("LaidQuarrel$Bottle", "now", "LLaidQuarrel$Laid;", true)
  | 4 => ("LaidQuarrel$Bottle", "kept", "LLaidQuarrel$Laid;", true)
  | _ => ("LaidQuarrel$Bottle", "tried", "LLaidQuarrel$Laid;", true)
def tyX6 : Nat → FieldType := fun k => match k with
  | 0 => .int
  | 1 => .int
  | 2 => .object "LaidQuarrel$Shelf"
  | 3 => .object "LaidQuarrel$Laid"
  | 4 => .object "LaidQuarrel$Laid"
  | _ => .object "LaidQuarrel$Laid"
abbrev wsX60 : List Cond := u_ws RX6 TX6 6
theorem nmX6 : ∀ a, a < 6 → ∀ b, b < 6 → a ≠ b → (TX6 a).2.1 ≠ (TX6 b).2.1 := by decide +kernel
theorem tyX6_ok : ∀ k, k < 6 → parseFieldDescriptor (TX6 k).2.2.1 = some (tyX6 k) := by decide +kernel
abbrev cX6_init : ByteArray := prog_8_method_1_code
def yX6_init : MethodName := ⟨RX6, "<init>", "(IILLaidQuarrel$Shelf;)V"⟩
abbrev cX6_spoken : ByteArray := prog_8_method_2_code
def yX6_spoken : MethodName := ⟨RX6, "spoken", "(LLaidQuarrel$Laid;I)I"⟩
abbrev cX6_utters : ByteArray := prog_8_method_3_code
def yX6_utters : MethodName := ⟨RX6, "utters", "(I)I"⟩
def RX7 : String := "LaidQuarrel$Shelf"
def TX7 : u_T := fun k => match k with
  | 0 => ("LaidQuarrel$Shelf", "width", "I", true)
  | 1 => ("LaidQuarrel$Shelf", "cells", "[I", true)
  | 2 => ("LaidQuarrel$Shelf", "keptCells", "[I", true)
  | 3 => ("LaidQuarrel$Shelf", "rows", "I", false)
  | _ => ("LaidQuarrel$Shelf", "keptRows", "I", false)
def tyX7 : Nat → FieldType := fun k => match k with
  | 0 => .int
  | 1 => .array .int
  | 2 => .array .int
  | 3 => .int
  | _ => .int
abbrev wsX70 : List Cond := u_ws RX7 TX7 5
theorem nmX7 : ∀ a, a < 5 → ∀ b, b < 5 → a ≠ b → (TX7 a).2.1 ≠ (TX7 b).2.1 := by decide +kernel
theorem tyX7_ok : ∀ k, k < 5 → parseFieldDescriptor (TX7 k).2.2.1 = some (tyX7 k) := by decide +kernel
abbrev cX7_init : ByteArray := prog_9_method_1_code
def yX7_init : MethodName := ⟨RX7, "<init>", "(II)V"⟩
abbrev cX7_add : ByteArray := prog_9_method_2_code
def yX7_add : MethodName := ⟨RX7, "add", "(III)Z"⟩
abbrev cX7_at : ByteArray := prog_9_method_3_code
def yX7_at : MethodName := ⟨RX7, "at", "(II)I"⟩
abbrev cX7_put : ByteArray := prog_9_method_4_code
def yX7_put : MethodName := ⟨RX7, "put", "(II)V"⟩
abbrev cX7_clear : ByteArray := prog_9_method_5_code
def yX7_clear : MethodName := ⟨RX7, "clear", "()V"⟩
abbrev cX7_copyFrom : ByteArray := prog_9_method_6_code
def yX7_copyFrom : MethodName := ⟨RX7, "copyFrom", "(LLaidQuarrel$Shelf;)V"⟩
abbrev cX7_keep : ByteArray := prog_9_method_7_code
def yX7_keep : MethodName := ⟨RX7, "keep", "()V"⟩
abbrev cX7_restore : ByteArray := prog_9_method_8_code
def yX7_restore : MethodName := ⟨RX7, "restore", "()V"⟩
abbrev cX7_copy : ByteArray := prog_9_method_9_code
def yX7_copy : MethodName := ⟨RX7, "copy", "([I[I)V"⟩
def RX8 : String := "LaidQuarrel$Sweet"
def TX8 : u_T := fun k => match k with
  | 0 => ("LaidQuarrel$Bottle", "kind", "I", true)
  | 1 => ("LaidQuarrel$Bottle", "number", "I", true)
  | 2 => ("LaidQuarrel$Bottle", "bodies", "LLaidQuarrel$Shelf;", true)
  | 3 => ("LaidQuarrel$Bottle", "now", "LLaidQuarrel$Laid;", true)
  | 4 => ("LaidQuarrel$Bottle", "kept", "LLaidQuarrel$Laid;", true)
  | _ => ("LaidQuarrel$Bottle", "tried", "LLaidQuarrel$Laid;", true)
def tyX8 : Nat → FieldType := fun k => match k with
  | 0 => .int
  | 1 => .int
  | 2 => .object "LaidQuarrel$Shelf"
  | 3 => .object "LaidQuarrel$Laid"
  | 4 => .object "LaidQuarrel$Laid"
  | _ => .object "LaidQuarrel$Laid"
abbrev wsX80 : List Cond := u_ws RX8 TX8 6
theorem nmX8 : ∀ a, a < 6 → ∀ b, b < 6 → a ≠ b → (TX8 a).2.1 ≠ (TX8 b).2.1 := by decide +kernel
theorem tyX8_ok : ∀ k, k < 6 → parseFieldDescriptor (TX8 k).2.2.1 = some (tyX8 k) := by decide +kernel
abbrev cX8_init : ByteArray := prog_10_method_1_code
def yX8_init : MethodName := ⟨RX8, "<init>", "(IILLaidQuarrel$Shelf;)V"⟩
abbrev cX8_spoken : ByteArray := prog_10_method_2_code
def yX8_spoken : MethodName := ⟨RX8, "spoken", "(LLaidQuarrel$Laid;I)I"⟩
abbrev cX8_keeps : ByteArray := prog_10_method_3_code
def yX8_keeps : MethodName := ⟨RX8, "keeps", "(I)I"⟩
def RX9 : String := "LaidQuarrel$Told"
def TX9 : u_T := fun k => match k with
  | 0 => ("LaidQuarrel$Bottle", "kind", "I", true)
  | 1 => ("LaidQuarrel$Bottle", "number", "I", true)
  | 2 => ("LaidQuarrel$Bottle", "bodies", "LLaidQuarrel$Shelf;", true)
  | 3 => ("LaidQuarrel$Bottle", "now", "LLaidQuarrel$Laid;", true)
  | 4 => ("LaidQuarrel$Bottle", "kept", "LLaidQuarrel$Laid;", true)
  | _ => ("LaidQuarrel$Bottle", "tried", "LLaidQuarrel$Laid;", true)
def tyX9 : Nat → FieldType := fun k => match k with
  | 0 => .int
  | 1 => .int
  | 2 => .object "LaidQuarrel$Shelf"
  | 3 => .object "LaidQuarrel$Laid"
  | 4 => .object "LaidQuarrel$Laid"
  | _ => .object "LaidQuarrel$Laid"
abbrev wsX90 : List Cond := u_ws RX9 TX9 6
theorem nmX9 : ∀ a, a < 6 → ∀ b, b < 6 → a ≠ b → (TX9 a).2.1 ≠ (TX9 b).2.1 := by decide +kernel
theorem tyX9_ok : ∀ k, k < 6 → parseFieldDescriptor (TX9 k).2.2.1 = some (tyX9 k) := by decide +kernel
abbrev cX9_init : ByteArray := prog_11_method_1_code
def yX9_init : MethodName := ⟨RX9, "<init>", "(IILLaidQuarrel$Shelf;)V"⟩
abbrev cX9_spoken : ByteArray := prog_11_method_2_code
def yX9_spoken : MethodName := ⟨RX9, "spoken", "(LLaidQuarrel$Laid;I)I"⟩
abbrev cX9_keeps : ByteArray := prog_11_method_3_code
def yX9_keeps : MethodName := ⟨RX9, "keeps", "(I)I"⟩
def RX10 : String := "LaidQuarrel"
def TX10 : u_T := fun k => match k with
  | 0 => ("LaidQuarrel", "tape", "LLaidQuarrel$Shelf;", true)
  | 1 => ("LaidQuarrel", "moods", "LLaidQuarrel$Shelf;", true)
  | 2 => ("LaidQuarrel", "triedMoods", "LLaidQuarrel$Shelf;", true)
  | 3 => ("LaidQuarrel", "seen", "LLaidQuarrel$Shelf;", true)
  | 4 => ("LaidQuarrel", "evenings", "LLaidQuarrel$Shelf;", true)
  | 5 => ("LaidQuarrel", "books", "LLaidQuarrel$Shelf;", true)
  | 6 => ("LaidQuarrel", "bodies", "LLaidQuarrel$Shelf;", true)
  | 7 => ("LaidQuarrel", "said", "LLaidQuarrel$Shelf;", true)
  | 8 => ("LaidQuarrel", "mostPairs", "LLaidQuarrel$Shelf;", true)
  | 9 => ("LaidQuarrel", "held", "LLaidQuarrel$Cellar;", true)
  | 10 => ("LaidQuarrel", "fresh", "LLaidQuarrel$Cellar;", true)
  | 11 => ("LaidQuarrel", "bottles", "Ljava/util/List;", true)
  | 12 => ("LaidQuarrel", "cellars", "I", false)
  | 13 => ("LaidQuarrel", "year", "I", false)
  | 14 => ("LaidQuarrel", "keptBottles", "I", false)
  | 15 => ("LaidQuarrel", "keptCellars", "I", false)
  | _ => ("LaidQuarrel", "keptYear", "I", false)
def tyX10 : Nat → FieldType := fun k => match k with
  | 0 => .object "LaidQuarrel$Shelf"
  | 1 => .object "LaidQuarrel$Shelf"
  | 2 => .object "LaidQuarrel$Shelf"
  | 3 => .object "LaidQuarrel$Shelf"
  | 4 => .object "LaidQuarrel$Shelf"
  | 5 => .object "LaidQuarrel$Shelf"
  | 6 => .object "LaidQuarrel$Shelf"
  | 7 => .object "LaidQuarrel$Shelf"
  | 8 => .object "LaidQuarrel$Shelf"
  | 9 => .object "LaidQuarrel$Cellar"
  | 10 => .object "LaidQuarrel$Cellar"
  | 11 => .object "java/util/List"
  | 12 => .int
  | 13 => .int
  | 14 => .int
  | 15 => .int
  | _ => .int
abbrev wsX100 : List Cond := u_ws RX10 TX10 17
theorem nmX10 : ∀ a, a < 17 → ∀ b, b < 17 → a ≠ b → (TX10 a).2.1 ≠ (TX10 b).2.1 := by decide +kernel
theorem tyX10_ok : ∀ k, k < 17 → parseFieldDescriptor (TX10 k).2.2.1 = some (tyX10 k) := by decide +kernel
abbrev cX10_init : ByteArray := prog_1_method_1_code
def yX10_init : MethodName := ⟨RX10, "<init>", "()V"⟩
abbrev cX10_feed : ByteArray := prog_1_method_2_code
def yX10_feed : MethodName := ⟨RX10, "feed", "(I)I"⟩
abbrev cX10_cellar : ByteArray := prog_1_method_3_code
def yX10_cellar : MethodName := ⟨RX10, "cellar", "()I"⟩
abbrev cX10_bottle : ByteArray := prog_1_method_4_code
def yX10_bottle : MethodName := ⟨RX10, "bottle", "(III)I"⟩
abbrev cX10_guest : ByteArray := prog_1_method_5_code
def yX10_guest : MethodName := ⟨RX10, "guest", "(I)I"⟩
abbrev cX10_of : ByteArray := prog_1_method_6_code
def yX10_of : MethodName := ⟨RX10, "of", "(II)I"⟩
abbrev cX10_row : ByteArray := prog_1_method_7_code
def yX10_row : MethodName := ⟨RX10, "row", "(III)I"⟩
abbrev cX10_set : ByteArray := prog_1_method_8_code
def yX10_set : MethodName := ⟨RX10, "set", "(III)I"⟩
abbrev cX10_mood : ByteArray := prog_1_method_9_code
def yX10_mood : MethodName := ⟨RX10, "mood", "(I)I"⟩
abbrev cX10_told : ByteArray := prog_1_method_10_code
def yX10_told : MethodName := ⟨RX10, "told", "(I)I"⟩
abbrev cX10_pour : ByteArray := prog_1_method_11_code
def yX10_pour : MethodName := ⟨RX10, "pour", "(II)I"⟩
abbrev cX10_both : ByteArray := prog_1_method_12_code
def yX10_both : MethodName := ⟨RX10, "both", "(III)I"⟩
abbrev cX10_pass : ByteArray := prog_1_method_13_code
def yX10_pass : MethodName := ⟨RX10, "pass", "(I)I"⟩
abbrev cX10_on : ByteArray := prog_1_method_14_code
def yX10_on : MethodName := ⟨RX10, "on", "(II)I"⟩
abbrev cX10_when : ByteArray := prog_1_method_15_code
def yX10_when : MethodName := ⟨RX10, "when", "(II)I"⟩
abbrev cX10_ripe : ByteArray := prog_1_method_16_code
def yX10_ripe : MethodName := ⟨RX10, "ripe", "(I)I"⟩
abbrev cX10_lies : ByteArray := prog_1_method_17_code
def yX10_lies : MethodName := ⟨RX10, "lies", "(I)I"⟩
abbrev cX10_choose : ByteArray := prog_1_method_18_code
def yX10_choose : MethodName := ⟨RX10, "choose", "(II)I"⟩
abbrev cX10_line : ByteArray := prog_1_method_19_code
def yX10_line : MethodName := ⟨RX10, "line", "(II)I"⟩
abbrev cX10_pair : ByteArray := prog_1_method_20_code
def yX10_pair : MethodName := ⟨RX10, "pair", "()I"⟩
abbrev cX10_match : ByteArray := prog_1_method_21_code
def yX10_match : MethodName := ⟨RX10, "match", "(I)I"⟩
abbrev cX10_words : ByteArray := prog_1_method_22_code
def yX10_words : MethodName := ⟨RX10, "words", "(III)I"⟩
abbrev cX10_see : ByteArray := prog_1_method_23_code
def yX10_see : MethodName := ⟨RX10, "see", "(III)I"⟩
abbrev cX10_old : ByteArray := prog_1_method_24_code
def yX10_old : MethodName := ⟨RX10, "old", "(II)I"⟩
abbrev cX10_firm : ByteArray := prog_1_method_25_code
def yX10_firm : MethodName := ⟨RX10, "firm", "(II)I"⟩
abbrev cX10_whose : ByteArray := prog_1_method_26_code
def yX10_whose : MethodName := ⟨RX10, "whose", "(II)I"⟩
abbrev cX10_odds : ByteArray := prog_1_method_27_code
def yX10_odds : MethodName := ⟨RX10, "odds", "(III)J"⟩
abbrev cX10_mean : ByteArray := prog_1_method_28_code
def yX10_mean : MethodName := ⟨RX10, "mean", "(II)J"⟩
abbrev cX10_evening : ByteArray := prog_1_method_29_code
def yX10_evening : MethodName := ⟨RX10, "evening", "(III)I"⟩
abbrev cX10_done : ByteArray := prog_1_method_30_code
def yX10_done : MethodName := ⟨RX10, "done", "(I)I"⟩
abbrev cX10_book : ByteArray := prog_1_method_31_code
def yX10_book : MethodName := ⟨RX10, "book", "(II)I"⟩
abbrev cX10_looked : ByteArray := prog_1_method_32_code
def yX10_looked : MethodName := ⟨RX10, "looked", "()I"⟩
abbrev cX10_act : ByteArray := prog_1_method_33_code
def yX10_act : MethodName := ⟨RX10, "act", "(III)I"⟩
abbrev cX10_trace : ByteArray := prog_1_method_34_code
def yX10_trace : MethodName := ⟨RX10, "trace", "(I)I"⟩
abbrev cX10_as : ByteArray := prog_1_method_35_code
def yX10_as : MethodName := ⟨RX10, "as", "(II)I"⟩
abbrev cX10_image : ByteArray := prog_1_method_36_code
def yX10_image : MethodName := ⟨RX10, "image", "()I"⟩
abbrev cX10_undo : ByteArray := prog_1_method_37_code
def yX10_undo : MethodName := ⟨RX10, "undo", "()I"⟩
abbrev cX10_count : ByteArray := prog_1_method_38_code
def yX10_count : MethodName := ⟨RX10, "count", "(I)I"⟩
abbrev cX10_within : ByteArray := prog_1_method_39_code
def yX10_within : MethodName := ⟨RX10, "within", "(III)Z"⟩
abbrev cX10_isIn : ByteArray := prog_1_method_40_code
def yX10_isIn : MethodName := ⟨RX10, "isIn", "(II)Z"⟩
abbrev cX10_nearer : ByteArray := prog_1_method_41_code
def yX10_nearer : MethodName := ⟨RX10, "nearer", "(II)I"⟩
abbrev cX10_heldMood : ByteArray := prog_1_method_42_code
def yX10_heldMood : MethodName := ⟨RX10, "heldMood", "(I)I"⟩
abbrev cX10_kindAbove : ByteArray := prog_1_method_43_code
def yX10_kindAbove : MethodName := ⟨RX10, "kindAbove", "(I)I"⟩
abbrev cX10_added : ByteArray := prog_1_method_44_code
def yX10_added : MethodName := ⟨RX10, "added", "(LLaidQuarrel$Shelf;III)I"⟩
abbrev cX10_sum : ByteArray := prog_1_method_45_code
def yX10_sum : MethodName := ⟨RX10, "sum", "(LLaidQuarrel$Shelf;)I"⟩
abbrev cX10_fraction : ByteArray := prog_1_method_46_code
def yX10_fraction : MethodName := ⟨RX10, "fraction", "(III)J"⟩
abbrev cX10_isGuest : ByteArray := prog_1_method_47_code
def yX10_isGuest : MethodName := ⟨RX10, "isGuest", "(I)Z"⟩
abbrev cX10_bottleAt : ByteArray := prog_1_method_48_code
def yX10_bottleAt : MethodName := ⟨RX10, "bottleAt", "(I)LLaidQuarrel$Bottle;"⟩
abbrev cX10_madeOf : ByteArray := prog_1_method_49_code
def yX10_madeOf : MethodName := ⟨RX10, "madeOf", "(I)LLaidQuarrel$Bottle;"⟩
abbrev cX10_says : ByteArray := prog_1_method_50_code
def yX10_says : MethodName := ⟨RX10, "says", "(LLaidQuarrel$Bottle;LLaidQuarrel$Laid;)I"⟩
abbrev cX10_allSay : ByteArray := prog_1_method_51_code
def yX10_allSay : MethodName := ⟨RX10, "allSay", "(I)I"⟩
abbrev cX10_fullOnes : ByteArray := prog_1_method_52_code
def yX10_fullOnes : MethodName := ⟨RX10, "fullOnes", "()I"⟩
abbrev cX10_hearAll : ByteArray := prog_1_method_53_code
def yX10_hearAll : MethodName := ⟨RX10, "hearAll", "()V"⟩
abbrev cX10_saidBy : ByteArray := prog_1_method_54_code
def yX10_saidBy : MethodName := ⟨RX10, "saidBy", "(I)I"⟩
abbrev cX10_lift : ByteArray := prog_1_method_55_code
def yX10_lift : MethodName := ⟨RX10, "lift", "(LLaidQuarrel$Shelf;II)I"⟩
abbrev cX10_calmDown : ByteArray := prog_1_method_56_code
def yX10_calmDown : MethodName := ⟨RX10, "calmDown", "(LLaidQuarrel$Shelf;I)V"⟩
abbrev cX10_bestLine : ByteArray := prog_1_method_57_code
def yX10_bestLine : MethodName := ⟨RX10, "bestLine", "(LLaidQuarrel$Shelf;III)I"⟩
abbrev cX10_moodOf : ByteArray := prog_1_method_58_code
def yX10_moodOf : MethodName := ⟨RX10, "moodOf", "(I)I"⟩
abbrev cX10_countPairs : ByteArray := prog_1_method_59_code
def yX10_countPairs : MethodName := ⟨RX10, "countPairs", "(I)V"⟩
abbrev cX10_makesPeace : ByteArray := prog_1_method_60_code
def yX10_makesPeace : MethodName := ⟨RX10, "makesPeace", "(II)Z"⟩
abbrev cX10_partnerOf : ByteArray := prog_1_method_61_code
def yX10_partnerOf : MethodName := ⟨RX10, "partnerOf", "(II)I"⟩
abbrev cX10_leastPartner : ByteArray := prog_1_method_62_code
def yX10_leastPartner : MethodName := ⟨RX10, "leastPartner", "(II)I"⟩
abbrev cX10_allSeenIsSo : ByteArray := prog_1_method_63_code
def yX10_allSeenIsSo : MethodName := ⟨RX10, "allSeenIsSo", "(III)Z"⟩
abbrev cX10_tryRow : ByteArray := prog_1_method_64_code
def yX10_tryRow : MethodName := ⟨RX10, "tryRow", "(ILLaidQuarrel$Bottle;I)V"⟩
abbrev cX10_allSayAsTried : ByteArray := prog_1_method_65_code
def yX10_allSayAsTried : MethodName := ⟨RX10, "allSayAsTried", "()I"⟩
def RX11 : String := "LaidQuarrelModel"
def TX11 : u_T := fun k => match k with
  | 0 => ("LaidQuarrelModel", "thrown", "I", false)
  | 1 => ("LaidQuarrelModel", "s", "[I", true)
  | 2 => ("LaidQuarrelModel", "image", "[I", true)
  | 3 => ("LaidQuarrelModel", "frame", "[I", true)
  | 4 => ("LaidQuarrelModel", "hasImage", "Z", false)
  | 5 => ("LaidQuarrelModel", "act", "I", false)
  | 6 => ("LaidQuarrelModel", "spot", "I", false)
  | 7 => ("LaidQuarrelModel", "end", "I", false)
  | 8 => ("LaidQuarrelModel", "isWrong", "Z", false)
  | 9 => ("LaidQuarrelModel", "open", "I", false)
  | 10 => ("LaidQuarrelModel", "by", "[I", true)
  | 11 => ("LaidQuarrelModel", "truths", "[Z", true)
  | 12 => ("LaidQuarrelModel", "sayings", "[I", true)
  | 13 => ("LaidQuarrelModel", "inLine", "[I", true)
  | 14 => ("LaidQuarrelModel", "bestRow", "[I", true)
  | 15 => ("LaidQuarrelModel", "bestMood", "I", false)
  | 16 => ("LaidQuarrelModel", "partner", "[I", true)
  | 17 => ("LaidQuarrelModel", "bestPartner", "[I", true)
  | 18 => ("LaidQuarrelModel", "mostPairs", "I", false)
  | 19 => ("LaidQuarrelModel", "bodies", "[I", true)
  | 20 => ("LaidQuarrelModel", "ran", "I", false)
  | 21 => ("LaidQuarrelModel", "kind", "I", false)
  | 22 => ("LaidQuarrelModel", "number", "I", false)
  | _ => ("LaidQuarrelModel", "tellsV", "I", false)
def tyX11 : Nat → FieldType := fun k => match k with
  | 0 => .int
  | 1 => .array .int
  | 2 => .array .int
  | 3 => .array .int
  | 4 => .boolean
  | 5 => .int
  | 6 => .int
  | 7 => .int
  | 8 => .boolean
  | 9 => .int
  | 10 => .array .int
  | 11 => .array .boolean
  | 12 => .array .int
  | 13 => .array .int
  | 14 => .array .int
  | 15 => .int
  | 16 => .array .int
  | 17 => .array .int
  | 18 => .int
  | 19 => .array .int
  | 20 => .int
  | 21 => .int
  | 22 => .int
  | _ => .int
abbrev wsX110 : List Cond := u_ws RX11 TX11 24
theorem nmX11 : ∀ a, a < 24 → ∀ b, b < 24 → a ≠ b → (TX11 a).2.1 ≠ (TX11 b).2.1 := by decide +kernel
theorem tyX11_ok : ∀ k, k < 24 → parseFieldDescriptor (TX11 k).2.2.1 = some (tyX11 k) := by decide +kernel
abbrev cX11_init : ByteArray := prog_13_method_1_code
def yX11_init : MethodName := ⟨RX11, "<init>", "()V"⟩
abbrev cX11_in : ByteArray := prog_13_method_3_code
def yX11_in : MethodName := ⟨RX11, "in", "(III)Z"⟩
abbrev cX11_within : ByteArray := prog_13_method_4_code
def yX11_within : MethodName := ⟨RX11, "within", "(III)I"⟩
abbrev cX11_size : ByteArray := prog_13_method_5_code
def yX11_size : MethodName := ⟨RX11, "size", "(I)I"⟩
abbrev cX11_nearer : ByteArray := prog_13_method_6_code
def yX11_nearer : MethodName := ⟨RX11, "nearer", "(II)I"⟩
abbrev cX11_isBottle : ByteArray := prog_13_method_7_code
def yX11_isBottle : MethodName := ⟨RX11, "isBottle", "(I)Z"⟩
abbrev cX11_isGuest : ByteArray := prog_13_method_8_code
def yX11_isGuest : MethodName := ⟨RX11, "isGuest", "(I)Z"⟩
abbrev cX11_isMood : ByteArray := prog_13_method_9_code
def yX11_isMood : MethodName := ⟨RX11, "isMood", "(I)Z"⟩
abbrev cX11_isSaying : ByteArray := prog_13_method_10_code
def yX11_isSaying : MethodName := ⟨RX11, "isSaying", "(I)Z"⟩
abbrev cX11_keeps : ByteArray := prog_13_method_11_code
def yX11_keeps : MethodName := ⟨RX11, "keeps", "()V"⟩
abbrev cX11_goesBack : ByteArray := prog_13_method_12_code
def yX11_goesBack : MethodName := ⟨RX11, "goesBack", "()V"⟩
abbrev cX11_feed : ByteArray := prog_13_method_13_code
def yX11_feed : MethodName := ⟨RX11, "feed", "(I)I"⟩
abbrev cX11_here : ByteArray := prog_13_method_14_code
def yX11_here : MethodName := ⟨RX11, "here", "()I"⟩
abbrev cX11_must : ByteArray := prog_13_method_15_code
def yX11_must : MethodName := ⟨RX11, "must", "(I)V"⟩
abbrev cX11_spells : ByteArray := prog_13_method_16_code
def yX11_spells : MethodName := ⟨RX11, "spells", "(Ljava/lang/String;)V"⟩
abbrev cX11_figures : ByteArray := prog_13_method_17_code
def yX11_figures : MethodName := ⟨RX11, "figures", "()I"⟩
abbrev cX11_among : ByteArray := prog_13_method_18_code
def yX11_among : MethodName := ⟨RX11, "among", "(Ljava/lang/String;)I"⟩
abbrev cX11_emits : ByteArray := prog_13_method_19_code
def yX11_emits : MethodName := ⟨RX11, "emits", "(I)V"⟩
abbrev cX11_factor : ByteArray := prog_13_method_20_code
def yX11_factor : MethodName := ⟨RX11, "factor", "()V"⟩
abbrev cX11_every : ByteArray := prog_13_method_21_code
def yX11_every : MethodName := ⟨RX11, "every", "()V"⟩
abbrev cX11_some : ByteArray := prog_13_method_22_code
def yX11_some : MethodName := ⟨RX11, "some", "()V"⟩
abbrev cX11_much : ByteArray := prog_13_method_23_code
def yX11_much : MethodName := ⟨RX11, "much", "(ILjava/lang/String;)V"⟩
abbrev cX11_tellsHere : ByteArray := prog_13_method_24_code
def yX11_tellsHere : MethodName := ⟨RX11, "tellsHere", "(ILjava/lang/String;)V"⟩
abbrev cX11_wordOfS : ByteArray := prog_13_method_25_code
def yX11_wordOfS : MethodName := ⟨RX11, "wordOfS", "()V"⟩
abbrev cX11_clauseHere : ByteArray := prog_13_method_26_code
def yX11_clauseHere : MethodName := ⟨RX11, "clauseHere", "()V"⟩
abbrev cX11_cellar : ByteArray := prog_13_method_27_code
def yX11_cellar : MethodName := ⟨RX11, "cellar", "()I"⟩
abbrev cX11_tellsOf : ByteArray := prog_13_method_28_code
def yX11_tellsOf : MethodName := ⟨RX11, "tellsOf", "(II)I"⟩
abbrev cX11_looks : ByteArray := prog_13_method_29_code
def yX11_looks : MethodName := ⟨RX11, "looks", "(I)I"⟩
abbrev cX11_softOf : ByteArray := prog_13_method_30_code
def yX11_softOf : MethodName := ⟨RX11, "softOf", "(I)I"⟩
abbrev cX11_saysOf : ByteArray := prog_13_method_31_code
def yX11_saysOf : MethodName := ⟨RX11, "saysOf", "(I)I"⟩
abbrev cX11_bottle : ByteArray := prog_13_method_32_code
def yX11_bottle : MethodName := ⟨RX11, "bottle", "(III)I"⟩
abbrev cX11_guest : ByteArray := prog_13_method_33_code
def yX11_guest : MethodName := ⟨RX11, "guest", "(I)I"⟩
abbrev cX11_of : ByteArray := prog_13_method_34_code
def yX11_of : MethodName := ⟨RX11, "of", "(II)I"⟩
abbrev cX11_row : ByteArray := prog_13_method_35_code
def yX11_row : MethodName := ⟨RX11, "row", "(III)I"⟩
abbrev cX11_set : ByteArray := prog_13_method_36_code
def yX11_set : MethodName := ⟨RX11, "set", "(III)I"⟩
abbrev cX11_mood : ByteArray := prog_13_method_37_code
def yX11_mood : MethodName := ⟨RX11, "mood", "(I)I"⟩
abbrev cX11_fullOnes : ByteArray := prog_13_method_38_code
def yX11_fullOnes : MethodName := ⟨RX11, "fullOnes", "()I"⟩
abbrev cX11_allSay : ByteArray := prog_13_method_39_code
def yX11_allSay : MethodName := ⟨RX11, "allSay", "()I"⟩
abbrev cX11_allMoods : ByteArray := prog_13_method_40_code
def yX11_allMoods : MethodName := ⟨RX11, "allMoods", "()I"⟩
abbrev cX11_told : ByteArray := prog_13_method_41_code
def yX11_told : MethodName := ⟨RX11, "told", "(I)I"⟩
abbrev cX11_brings : ByteArray := prog_13_method_42_code
def yX11_brings : MethodName := ⟨RX11, "brings", "(II)V"⟩
abbrev cX11_pours : ByteArray := prog_13_method_43_code
def yX11_pours : MethodName := ⟨RX11, "pours", "(II)V"⟩
abbrev cX11_pour : ByteArray := prog_13_method_44_code
def yX11_pour : MethodName := ⟨RX11, "pour", "(II)I"⟩
abbrev cX11_both : ByteArray := prog_13_method_45_code
def yX11_both : MethodName := ⟨RX11, "both", "(III)I"⟩
abbrev cX11_goes : ByteArray := prog_13_method_46_code
def yX11_goes : MethodName := ⟨RX11, "goes", "()V"⟩
abbrev cX11_goesOn : ByteArray := prog_13_method_47_code
def yX11_goesOn : MethodName := ⟨RX11, "goesOn", "(I)V"⟩
abbrev cX11_pass : ByteArray := prog_13_method_48_code
def yX11_pass : MethodName := ⟨RX11, "pass", "(I)I"⟩
abbrev cX11_on : ByteArray := prog_13_method_49_code
def yX11_on : MethodName := ⟨RX11, "on", "(II)I"⟩
abbrev cX11_when : ByteArray := prog_13_method_50_code
def yX11_when : MethodName := ⟨RX11, "when", "(II)I"⟩
abbrev cX11_ripe : ByteArray := prog_13_method_51_code
def yX11_ripe : MethodName := ⟨RX11, "ripe", "(I)I"⟩
abbrev cX11_lies : ByteArray := prog_13_method_52_code
def yX11_lies : MethodName := ⟨RX11, "lies", "(I)I"⟩
abbrev cX11_looksForSayings : ByteArray := prog_13_method_53_code
def yX11_looksForSayings : MethodName := ⟨RX11, "looksForSayings", "()V"⟩
abbrev cX11_countOf : ByteArray := prog_13_method_54_code
def yX11_countOf : MethodName := ⟨RX11, "countOf", "(I)I"⟩
abbrev cX11_sumOf : ByteArray := prog_13_method_55_code
def yX11_sumOf : MethodName := ⟨RX11, "sumOf", "(I)I"⟩
abbrev cX11_choose : ByteArray := prog_13_method_56_code
def yX11_choose : MethodName := ⟨RX11, "choose", "(II)I"⟩
abbrev cX11_ordersFrom : ByteArray := prog_13_method_57_code
def yX11_ordersFrom : MethodName := ⟨RX11, "ordersFrom", "(III)V"⟩
abbrev cX11_line : ByteArray := prog_13_method_58_code
def yX11_line : MethodName := ⟨RX11, "line", "(II)I"⟩
abbrev cX11_pair : ByteArray := prog_13_method_59_code
def yX11_pair : MethodName := ⟨RX11, "pair", "()I"⟩
abbrev cX11_pairsFrom : ByteArray := prog_13_method_60_code
def yX11_pairsFrom : MethodName := ⟨RX11, "pairsFrom", "(II)V"⟩
abbrev cX11_match : ByteArray := prog_13_method_61_code
def yX11_match : MethodName := ⟨RX11, "match", "(I)I"⟩
abbrev cX11_words : ByteArray := prog_13_method_62_code
def yX11_words : MethodName := ⟨RX11, "words", "(III)I"⟩
abbrev cX11_see : ByteArray := prog_13_method_63_code
def yX11_see : MethodName := ⟨RX11, "see", "(III)I"⟩
abbrev cX11_isAsSeen : ByteArray := prog_13_method_64_code
def yX11_isAsSeen : MethodName := ⟨RX11, "isAsSeen", "(I)Z"⟩
abbrev cX11_areAsSeen : ByteArray := prog_13_method_65_code
def yX11_areAsSeen : MethodName := ⟨RX11, "areAsSeen", "()Z"⟩
abbrev cX11_old : ByteArray := prog_13_method_66_code
def yX11_old : MethodName := ⟨RX11, "old", "(II)I"⟩
abbrev cX11_firm : ByteArray := prog_13_method_67_code
def yX11_firm : MethodName := ⟨RX11, "firm", "(II)I"⟩
abbrev cX11_whose : ByteArray := prog_13_method_68_code
def yX11_whose : MethodName := ⟨RX11, "whose", "(II)I"⟩
abbrev cX11_lowest : ByteArray := prog_13_method_69_code
def yX11_lowest : MethodName := ⟨RX11, "lowest", "(JJI)J"⟩
abbrev cX11_odds : ByteArray := prog_13_method_70_code
def yX11_odds : MethodName := ⟨RX11, "odds", "(III)J"⟩
abbrev cX11_mean : ByteArray := prog_13_method_71_code
def yX11_mean : MethodName := ⟨RX11, "mean", "(II)J"⟩
abbrev cX11_evening : ByteArray := prog_13_method_72_code
def yX11_evening : MethodName := ⟨RX11, "evening", "(III)I"⟩
abbrev cX11_does : ByteArray := prog_13_method_73_code
def yX11_does : MethodName := ⟨RX11, "does", "(III)V"⟩
abbrev cX11_done : ByteArray := prog_13_method_74_code
def yX11_done : MethodName := ⟨RX11, "done", "(I)I"⟩
abbrev cX11_book : ByteArray := prog_13_method_75_code
def yX11_book : MethodName := ⟨RX11, "book", "(II)I"⟩
abbrev cX11_looked : ByteArray := prog_13_method_76_code
def yX11_looked : MethodName := ⟨RX11, "looked", "()I"⟩
abbrev cX11_ranBody : ByteArray := prog_13_method_77_code
def yX11_ranBody : MethodName := ⟨RX11, "ranBody", "(I)V"⟩
abbrev cX11_isUnder : ByteArray := prog_13_method_78_code
def yX11_isUnder : MethodName := ⟨RX11, "isUnder", "(II)Z"⟩
abbrev cX11_plainUtters : ByteArray := prog_13_method_79_code
def yX11_plainUtters : MethodName := ⟨RX11, "plainUtters", "(I)I"⟩
abbrev cX11_uttersActs : ByteArray := prog_13_method_80_code
def yX11_uttersActs : MethodName := ⟨RX11, "uttersActs", "(I)I"⟩
abbrev cX11_plainKeeping : ByteArray := prog_13_method_81_code
def yX11_plainKeeping : MethodName := ⟨RX11, "plainKeeping", "(I)I"⟩
abbrev cX11_keepsActs : ByteArray := prog_13_method_82_code
def yX11_keepsActs : MethodName := ⟨RX11, "keepsActs", "(I)I"⟩
abbrev cX11_plainTelling : ByteArray := prog_13_method_83_code
def yX11_plainTelling : MethodName := ⟨RX11, "plainTelling", "(I)I"⟩
abbrev cX11_tellsActs : ByteArray := prog_13_method_84_code
def yX11_tellsActs : MethodName := ⟨RX11, "tellsActs", "(I)I"⟩
abbrev cX11_act : ByteArray := prog_13_method_85_code
def yX11_act : MethodName := ⟨RX11, "act", "(III)I"⟩
abbrev cX11_trace : ByteArray := prog_13_method_86_code
def yX11_trace : MethodName := ⟨RX11, "trace", "(I)I"⟩
abbrev cX11_as : ByteArray := prog_13_method_87_code
def yX11_as : MethodName := ⟨RX11, "as", "(II)I"⟩
abbrev cX11_image : ByteArray := prog_13_method_88_code
def yX11_image : MethodName := ⟨RX11, "image", "()I"⟩
abbrev cX11_undo : ByteArray := prog_13_method_89_code
def yX11_undo : MethodName := ⟨RX11, "undo", "()I"⟩
abbrev cX11_count : ByteArray := prog_13_method_90_code
def yX11_count : MethodName := ⟨RX11, "count", "(I)I"⟩
def RJx145de : String := "java/io/Serializable"
def TJx145de : u_T := fun k => match k with
  | _ => ("", "", "", false)
def tyJx145de : Nat → FieldType := fun k => match k with
  | _ => .int
abbrev wsJx145de0 : List Cond := u_ws RJx145de TJx145de 0
theorem nmJx145de : ∀ a, a < 0 → ∀ b, b < 0 → a ≠ b → (TJx145de a).2.1 ≠ (TJx145de b).2.1 := by decide +kernel
theorem tyJx145de_ok : ∀ k, k < 0 → parseFieldDescriptor (TJx145de k).2.2.1 = some (tyJx145de k) := by decide +kernel
def RJx9f9b0 : String := "java/lang/CharSequence"
def TJx9f9b0 : u_T := fun k => match k with
  | _ => ("", "", "", false)
def tyJx9f9b0 : Nat → FieldType := fun k => match k with
  | _ => .int
abbrev wsJx9f9b00 : List Cond := u_ws RJx9f9b0 TJx9f9b0 0
theorem nmJx9f9b0 : ∀ a, a < 0 → ∀ b, b < 0 → a ≠ b → (TJx9f9b0 a).2.1 ≠ (TJx9f9b0 b).2.1 := by decide +kernel
theorem tyJx9f9b0_ok : ∀ k, k < 0 → parseFieldDescriptor (TJx9f9b0 k).2.2.1 = some (tyJx9f9b0 k) := by decide +kernel
def RJx8e188 : String := "java/lang/Cloneable"
def TJx8e188 : u_T := fun k => match k with
  | _ => ("", "", "", false)
def tyJx8e188 : Nat → FieldType := fun k => match k with
  | _ => .int
abbrev wsJx8e1880 : List Cond := u_ws RJx8e188 TJx8e188 0
theorem nmJx8e188 : ∀ a, a < 0 → ∀ b, b < 0 → a ≠ b → (TJx8e188 a).2.1 ≠ (TJx8e188 b).2.1 := by decide +kernel
theorem tyJx8e188_ok : ∀ k, k < 0 → parseFieldDescriptor (TJx8e188 k).2.2.1 = some (tyJx8e188 k) := by decide +kernel
def RJxb160c : String := "java/lang/Comparable"
def TJxb160c : u_T := fun k => match k with
  | _ => ("", "", "", false)
def tyJxb160c : Nat → FieldType := fun k => match k with
  | _ => .int
abbrev wsJxb160c0 : List Cond := u_ws RJxb160c TJxb160c 0
theorem nmJxb160c : ∀ a, a < 0 → ∀ b, b < 0 → a ≠ b → (TJxb160c a).2.1 ≠ (TJxb160c b).2.1 := by decide +kernel
theorem tyJxb160c_ok : ∀ k, k < 0 → parseFieldDescriptor (TJxb160c k).2.2.1 = some (tyJxb160c k) := by decide +kernel
def RJ6 : String := "java/lang/Integer"
def TJ6 : u_T := fun k => match k with
  | _ => ("", "", "", false)
def tyJ6 : Nat → FieldType := fun k => match k with
  | _ => .int
abbrev wsJ60 : List Cond := u_ws RJ6 TJ6 0
theorem nmJ6 : ∀ a, a < 0 → ∀ b, b < 0 → a ≠ b → (TJ6 a).2.1 ≠ (TJ6 b).2.1 := by decide +kernel
theorem tyJ6_ok : ∀ k, k < 0 → parseFieldDescriptor (TJ6 k).2.2.1 = some (tyJ6 k) := by decide +kernel
abbrev cJ6_numberOfTrailingZeros_0f7a4 : ByteArray := prog_18_method_48_code
def yJ6_numberOfTrailingZeros_0f7a4 : MethodName := ⟨RJ6, "numberOfTrailingZeros", "(I)I"⟩
abbrev cJ6_bitCount_0f7a4 : ByteArray := prog_18_method_49_code
def yJ6_bitCount_0f7a4 : MethodName := ⟨RJ6, "bitCount", "(I)I"⟩
def RJxab1ab : String := "java/lang/Iterable"
def TJxab1ab : u_T := fun k => match k with
  | _ => ("", "", "", false)
def tyJxab1ab : Nat → FieldType := fun k => match k with
  | _ => .int
abbrev wsJxab1ab0 : List Cond := u_ws RJxab1ab TJxab1ab 0
theorem nmJxab1ab : ∀ a, a < 0 → ∀ b, b < 0 → a ≠ b → (TJxab1ab a).2.1 ≠ (TJxab1ab b).2.1 := by decide +kernel
theorem tyJxab1ab_ok : ∀ k, k < 0 → parseFieldDescriptor (TJxab1ab k).2.2.1 = some (tyJxab1ab k) := by decide +kernel
def RJ9 : String := "java/lang/Math"
def TJ9 : u_T := fun k => match k with
  | _ => ("", "", "", false)
def tyJ9 : Nat → FieldType := fun k => match k with
  | _ => .int
abbrev wsJ90 : List Cond := u_ws RJ9 TJ9 0
theorem nmJ9 : ∀ a, a < 0 → ∀ b, b < 0 → a ≠ b → (TJ9 a).2.1 ≠ (TJ9 b).2.1 := by decide +kernel
theorem tyJ9_ok : ∀ k, k < 0 → parseFieldDescriptor (TJ9 k).2.2.1 = some (tyJ9 k) := by decide +kernel
abbrev cJ9_abs_0f7a4 : ByteArray := prog_20_method_59_code
def yJ9_abs_0f7a4 : MethodName := ⟨RJ9, "abs", "(I)I"⟩
abbrev cJ9_max_7cf53 : ByteArray := prog_20_method_65_code
def yJ9_max_7cf53 : MethodName := ⟨RJ9, "max", "(II)I"⟩
abbrev cJ9_min_7cf53 : ByteArray := prog_20_method_69_code
def yJ9_min_7cf53 : MethodName := ⟨RJ9, "min", "(II)I"⟩
def RJ0 : String := "java/lang/String"
def TJ0 : u_T := fun k => match k with
  | _ => ("", "", "", false)
def tyJ0 : Nat → FieldType := fun k => match k with
  | _ => .int
abbrev wsJ00 : List Cond := u_ws RJ0 TJ0 0
theorem nmJ0 : ∀ a, a < 0 → ∀ b, b < 0 → a ≠ b → (TJ0 a).2.1 ≠ (TJ0 b).2.1 := by decide +kernel
theorem tyJ0_ok : ∀ k, k < 0 → parseFieldDescriptor (TJ0 k).2.2.1 = some (tyJ0 k) := by decide +kernel
abbrev cJ0_length_8abf5 : ByteArray := prog_21_method_54_code
def yJ0_length_8abf5 : MethodName := ⟨RJ0, "length", "()I"⟩
abbrev cJ0_charAt_5068e : ByteArray := prog_21_method_56_code
def yJ0_charAt_5068e : MethodName := ⟨RJ0, "charAt", "(I)C"⟩
abbrev cJ0_coder_7d493 : ByteArray := prog_21_method_152_code
def yJ0_coder_7d493 : MethodName := ⟨RJ0, "coder", "()B"⟩
abbrev cJ0_isLatin1_aae02 : ByteArray := prog_21_method_154_code
def yJ0_isLatin1_aae02 : MethodName := ⟨RJ0, "isLatin1", "()Z"⟩
abbrev cJ0_checkIndex_df160 : ByteArray := prog_21_method_155_code
def yJ0_checkIndex_df160 : MethodName := ⟨RJ0, "checkIndex", "(II)V"⟩
def RJ1 : String := "java/lang/StringLatin1"
def TJ1 : u_T := fun k => match k with
  | _ => ("", "", "", false)
def tyJ1 : Nat → FieldType := fun k => match k with
  | _ => .int
abbrev wsJ10 : List Cond := u_ws RJ1 TJ1 0
theorem nmJ1 : ∀ a, a < 0 → ∀ b, b < 0 → a ≠ b → (TJ1 a).2.1 ≠ (TJ1 b).2.1 := by decide +kernel
theorem tyJ1_ok : ∀ k, k < 0 → parseFieldDescriptor (TJ1 k).2.2.1 = some (tyJ1 k) := by decide +kernel
abbrev cJ1_charAt_3b067 : ByteArray := prog_22_method_2_code
def yJ1_charAt_3b067 : MethodName := ⟨RJ1, "charAt", "([BI)C"⟩
def RJ2 : String := "java/lang/StringUTF16"
def TJ2 : u_T := fun k => match k with
  | _ => ("", "", "", false)
def tyJ2 : Nat → FieldType := fun k => match k with
  | _ => .int
abbrev wsJ20 : List Cond := u_ws RJ2 TJ2 0
theorem nmJ2 : ∀ a, a < 0 → ∀ b, b < 0 → a ≠ b → (TJ2 a).2.1 ≠ (TJ2 b).2.1 := by decide +kernel
theorem tyJ2_ok : ∀ k, k < 0 → parseFieldDescriptor (TJ2 k).2.2.1 = some (tyJ2 k) := by decide +kernel
abbrev cJ2_getChar_3b067 : ByteArray := prog_23_method_5_code
def yJ2_getChar_3b067 : MethodName := ⟨RJ2, "getChar", "([BI)C"⟩
abbrev cJ2_length_9d52b : ByteArray := prog_23_method_6_code
def yJ2_length_9d52b : MethodName := ⟨RJ2, "length", "([B)I"⟩
abbrev cJ2_charAt_3b067 : ByteArray := prog_23_method_83_code
def yJ2_charAt_3b067 : MethodName := ⟨RJ2, "charAt", "([BI)C"⟩
abbrev cJ2_checkIndex_2214a : ByteArray := prog_23_method_91_code
def yJ2_checkIndex_2214a : MethodName := ⟨RJ2, "checkIndex", "(I[B)V"⟩
def RJ10 : String := "java/lang/System"
def TJ10 : u_T := fun k => match k with
  | _ => ("", "", "", false)
def tyJ10 : Nat → FieldType := fun k => match k with
  | _ => .int
abbrev wsJ100 : List Cond := u_ws RJ10 TJ10 0
theorem nmJ10 : ∀ a, a < 0 → ∀ b, b < 0 → a ≠ b → (TJ10 a).2.1 ≠ (TJ10 b).2.1 := by decide +kernel
theorem tyJ10_ok : ∀ k, k < 0 → parseFieldDescriptor (TJ10 k).2.2.1 = some (tyJ10 k) := by decide +kernel
def RJxfd54e : String := "java/lang/constant/Constable"
def TJxfd54e : u_T := fun k => match k with
  | _ => ("", "", "", false)
def tyJxfd54e : Nat → FieldType := fun k => match k with
  | _ => .int
abbrev wsJxfd54e0 : List Cond := u_ws RJxfd54e TJxfd54e 0
theorem nmJxfd54e : ∀ a, a < 0 → ∀ b, b < 0 → a ≠ b → (TJxfd54e a).2.1 ≠ (TJxfd54e b).2.1 := by decide +kernel
theorem tyJxfd54e_ok : ∀ k, k < 0 → parseFieldDescriptor (TJxfd54e k).2.2.1 = some (tyJxfd54e k) := by decide +kernel
def RJx3cf43 : String := "java/lang/constant/ConstantDesc"
def TJx3cf43 : u_T := fun k => match k with
  | _ => ("", "", "", false)
def tyJx3cf43 : Nat → FieldType := fun k => match k with
  | _ => .int
abbrev wsJx3cf430 : List Cond := u_ws RJx3cf43 TJx3cf43 0
theorem nmJx3cf43 : ∀ a, a < 0 → ∀ b, b < 0 → a ≠ b → (TJx3cf43 a).2.1 ≠ (TJx3cf43 b).2.1 := by decide +kernel
theorem tyJx3cf43_ok : ∀ k, k < 0 → parseFieldDescriptor (TJx3cf43 k).2.2.1 = some (tyJx3cf43 k) := by decide +kernel
def RJxa1e45 : String := "java/util/AbstractCollection"
def TJxa1e45 : u_T := fun k => match k with
  | _ => ("", "", "", false)
def tyJxa1e45 : Nat → FieldType := fun k => match k with
  | _ => .int
abbrev wsJxa1e450 : List Cond := u_ws RJxa1e45 TJxa1e45 0
theorem nmJxa1e45 : ∀ a, a < 0 → ∀ b, b < 0 → a ≠ b → (TJxa1e45 a).2.1 ≠ (TJxa1e45 b).2.1 := by decide +kernel
theorem tyJxa1e45_ok : ∀ k, k < 0 → parseFieldDescriptor (TJxa1e45 k).2.2.1 = some (tyJxa1e45 k) := by decide +kernel
abbrev cJxa1e45_init_da8c8 : ByteArray := prog_27_method_1_code
def yJxa1e45_init_da8c8 : MethodName := ⟨RJxa1e45, "<init>", "()V"⟩
def RJxc12de : String := "java/util/AbstractList"
def TJxc12de : u_T := fun k => match k with
  | _ => ("", "", "", false)
def tyJxc12de : Nat → FieldType := fun k => match k with
  | _ => .int
abbrev wsJxc12de0 : List Cond := u_ws RJxc12de TJxc12de 0
theorem nmJxc12de : ∀ a, a < 0 → ∀ b, b < 0 → a ≠ b → (TJxc12de a).2.1 ≠ (TJxc12de b).2.1 := by decide +kernel
theorem tyJxc12de_ok : ∀ k, k < 0 → parseFieldDescriptor (TJxc12de k).2.2.1 = some (tyJxc12de k) := by decide +kernel
abbrev cJxc12de_init_da8c8 : ByteArray := prog_28_method_1_code
def yJxc12de_init_da8c8 : MethodName := ⟨RJxc12de, "<init>", "()V"⟩
def RJx4a65c : String := "java/util/ArrayList"
def TJx4a65c : u_T := fun k => match k with
  | 0 => ("java/util/AbstractList", "modCount", "I", false)
  | 1 => ("java/util/ArrayList", "elementData", "[Ljava/lang/Object;", false)
  | _ => ("java/util/ArrayList", "size", "I", false)
def tyJx4a65c : Nat → FieldType := fun k => match k with
  | 0 => .int
  | 1 => .array (.object "java/lang/Object")
  | _ => .int
abbrev wsJx4a65c0 : List Cond := u_ws RJx4a65c TJx4a65c 3
theorem nmJx4a65c : ∀ a, a < 3 → ∀ b, b < 3 → a ≠ b → (TJx4a65c a).2.1 ≠ (TJx4a65c b).2.1 := by decide +kernel
theorem tyJx4a65c_ok : ∀ k, k < 3 → parseFieldDescriptor (TJx4a65c k).2.2.1 = some (tyJx4a65c k) := by decide +kernel
abbrev cJx4a65c_init_da8c8 : ByteArray := prog_29_method_2_code
def yJx4a65c_init_da8c8 : MethodName := ⟨RJx4a65c, "<init>", "()V"⟩
abbrev cJx4a65c_grow_92f84 : ByteArray := prog_29_method_6_code
def yJx4a65c_grow_92f84 : MethodName := ⟨RJx4a65c, "grow", "(I)[Ljava/lang/Object;"⟩
abbrev cJx4a65c_grow_d5877 : ByteArray := prog_29_method_7_code
def yJx4a65c_grow_d5877 : MethodName := ⟨RJx4a65c, "grow", "()[Ljava/lang/Object;"⟩
abbrev cJx4a65c_size_8abf5 : ByteArray := prog_29_method_8_code
def yJx4a65c_size_8abf5 : MethodName := ⟨RJx4a65c, "size", "()I"⟩
abbrev cJx4a65c_elementData_915e3 : ByteArray := prog_29_method_18_code
def yJx4a65c_elementData_915e3 : MethodName := ⟨RJx4a65c, "elementData", "(I)Ljava/lang/Object;"⟩
abbrev cJx4a65c_get_915e3 : ByteArray := prog_29_method_20_code
def yJx4a65c_get_915e3 : MethodName := ⟨RJx4a65c, "get", "(I)Ljava/lang/Object;"⟩
abbrev cJx4a65c_add_72be8 : ByteArray := prog_29_method_24_code
def yJx4a65c_add_72be8 : MethodName := ⟨RJx4a65c, "add", "(Ljava/lang/Object;[Ljava/lang/Object;I)V"⟩
abbrev cJx4a65c_add_9ea2d : ByteArray := prog_29_method_25_code
def yJx4a65c_add_9ea2d : MethodName := ⟨RJx4a65c, "add", "(Ljava/lang/Object;)Z"⟩
abbrev cJx4a65c_remove_915e3 : ByteArray := prog_29_method_29_code
def yJx4a65c_remove_915e3 : MethodName := ⟨RJx4a65c, "remove", "(I)Ljava/lang/Object;"⟩
abbrev cJx4a65c_fastRemove_b59b0 : ByteArray := prog_29_method_39_code
def yJx4a65c_fastRemove_b59b0 : MethodName := ⟨RJx4a65c, "fastRemove", "([Ljava/lang/Object;I)V"⟩
def RJ7 : String := "java/util/Arrays"
def TJ7 : u_T := fun k => match k with
  | _ => ("", "", "", false)
def tyJ7 : Nat → FieldType := fun k => match k with
  | _ => .int
abbrev wsJ70 : List Cond := u_ws RJ7 TJ7 0
theorem nmJ7 : ∀ a, a < 0 → ∀ b, b < 0 → a ≠ b → (TJ7 a).2.1 ≠ (TJ7 b).2.1 := by decide +kernel
theorem tyJ7_ok : ∀ k, k < 0 → parseFieldDescriptor (TJ7 k).2.2.1 = some (tyJ7 k) := by decide +kernel
abbrev cJ7_copyOf_1904c : ByteArray := prog_30_method_119_code
def yJ7_copyOf_1904c : MethodName := ⟨RJ7, "copyOf", "([Ljava/lang/Object;I)[Ljava/lang/Object;"⟩
abbrev cJ7_copyOf_6403c : ByteArray := prog_30_method_120_code
def yJ7_copyOf_6403c : MethodName := ⟨RJ7, "copyOf", "([Ljava/lang/Object;ILjava/lang/Class;)[Ljava/lang/Object;"⟩
def RJx5ef63 : String := "java/util/Collection"
def TJx5ef63 : u_T := fun k => match k with
  | _ => ("", "", "", false)
def tyJx5ef63 : Nat → FieldType := fun k => match k with
  | _ => .int
abbrev wsJx5ef630 : List Cond := u_ws RJx5ef63 TJx5ef63 0
theorem nmJx5ef63 : ∀ a, a < 0 → ∀ b, b < 0 → a ≠ b → (TJx5ef63 a).2.1 ≠ (TJx5ef63 b).2.1 := by decide +kernel
theorem tyJx5ef63_ok : ∀ k, k < 0 → parseFieldDescriptor (TJx5ef63 k).2.2.1 = some (tyJx5ef63 k) := by decide +kernel
def RJxbd725 : String := "java/util/List"
def TJxbd725 : u_T := fun k => match k with
  | _ => ("", "", "", false)
def tyJxbd725 : Nat → FieldType := fun k => match k with
  | _ => .int
abbrev wsJxbd7250 : List Cond := u_ws RJxbd725 TJxbd725 0
theorem nmJxbd725 : ∀ a, a < 0 → ∀ b, b < 0 → a ≠ b → (TJxbd725 a).2.1 ≠ (TJxbd725 b).2.1 := by decide +kernel
theorem tyJxbd725_ok : ∀ k, k < 0 → parseFieldDescriptor (TJxbd725 k).2.2.1 = some (tyJxbd725 k) := by decide +kernel
def RJ15 : String := "java/util/Objects"
def TJ15 : u_T := fun k => match k with
  | _ => ("", "", "", false)
def tyJ15 : Nat → FieldType := fun k => match k with
  | _ => .int
abbrev wsJ150 : List Cond := u_ws RJ15 TJ15 0
theorem nmJ15 : ∀ a, a < 0 → ∀ b, b < 0 → a ≠ b → (TJ15 a).2.1 ≠ (TJ15 b).2.1 := by decide +kernel
theorem tyJ15_ok : ∀ k, k < 0 → parseFieldDescriptor (TJ15 k).2.2.1 = some (tyJ15 k) := by decide +kernel
abbrev cJ15_checkIndex_7cf53 : ByteArray := prog_33_method_17_code
def yJ15_checkIndex_7cf53 : MethodName := ⟨RJ15, "checkIndex", "(II)I"⟩
def RJxf0a74 : String := "java/util/RandomAccess"
def TJxf0a74 : u_T := fun k => match k with
  | _ => ("", "", "", false)
def tyJxf0a74 : Nat → FieldType := fun k => match k with
  | _ => .int
abbrev wsJxf0a740 : List Cond := u_ws RJxf0a74 TJxf0a74 0
theorem nmJxf0a74 : ∀ a, a < 0 → ∀ b, b < 0 → a ≠ b → (TJxf0a74 a).2.1 ≠ (TJxf0a74 b).2.1 := by decide +kernel
theorem tyJxf0a74_ok : ∀ k, k < 0 → parseFieldDescriptor (TJxf0a74 k).2.2.1 = some (tyJxf0a74 k) := by decide +kernel
def RJxa66e6 : String := "java/util/SequencedCollection"
def TJxa66e6 : u_T := fun k => match k with
  | _ => ("", "", "", false)
def tyJxa66e6 : Nat → FieldType := fun k => match k with
  | _ => .int
abbrev wsJxa66e60 : List Cond := u_ws RJxa66e6 TJxa66e6 0
theorem nmJxa66e6 : ∀ a, a < 0 → ∀ b, b < 0 → a ≠ b → (TJxa66e6 a).2.1 ≠ (TJxa66e6 b).2.1 := by decide +kernel
theorem tyJxa66e6_ok : ∀ k, k < 0 → parseFieldDescriptor (TJxa66e6 k).2.2.1 = some (tyJxa66e6 k) := by decide +kernel
def RJ8 : String := "jdk/internal/util/ArraysSupport"
def TJ8 : u_T := fun k => match k with
  | _ => ("", "", "", false)
def tyJ8 : Nat → FieldType := fun k => match k with
  | _ => .int
abbrev wsJ80 : List Cond := u_ws RJ8 TJ8 0
theorem nmJ8 : ∀ a, a < 0 → ∀ b, b < 0 → a ≠ b → (TJ8 a).2.1 ≠ (TJ8 b).2.1 := by decide +kernel
theorem tyJ8_ok : ∀ k, k < 0 → parseFieldDescriptor (TJ8 k).2.2.1 = some (tyJ8 k) := by decide +kernel
abbrev cJ8_newLength_cabcc : ByteArray := prog_36_method_27_code
def yJ8_newLength_cabcc : MethodName := ⟨RJ8, "newLength", "(III)I"⟩
abbrev cJ8_hugeLength_7cf53 : ByteArray := prog_36_method_28_code
def yJ8_hugeLength_7cf53 : MethodName := ⟨RJ8, "hugeLength", "(II)I"⟩
def RJ3 : String := "jdk/internal/util/Preconditions"
def TJ3 : u_T := fun k => match k with
  | _ => ("", "", "", false)
def tyJ3 : Nat → FieldType := fun k => match k with
  | _ => .int
abbrev wsJ30 : List Cond := u_ws RJ3 TJ3 0
theorem nmJ3 : ∀ a, a < 0 → ∀ b, b < 0 → a ≠ b → (TJ3 a).2.1 ≠ (TJ3 b).2.1 := by decide +kernel
theorem tyJ3_ok : ∀ k, k < 0 → parseFieldDescriptor (TJ3 k).2.2.1 = some (tyJ3 k) := by decide +kernel
abbrev cJ3_checkIndex_8e157 : ByteArray := prog_37_method_11_code
def yJ3_checkIndex_8e157 : MethodName := ⟨RJ3, "checkIndex", "(IILjava/util/function/BiFunction;)I"⟩
def RL : String := "LaidQuarrelLaw"
abbrev cL_law : ByteArray := code
def yL_law : MethodName := ⟨RL, "law", "([I)Z"⟩
abbrev vwCl : List vw_C := [(RJx4a65c, TJx4a65c, 3), (RX0, TX0, 6), (RX1, TX1, 5), (RX2, TX2, 6), (RX3, TX3, 6), (RX4, TX4, 6), (RX5, TX5, 6), (RX6, TX6, 6), (RX7, TX7, 5), (RX8, TX8, 6), (RX9, TX9, 6), (RX10, TX10, 17), (RX11, TX11, 24)]
end
section
/-! THE SMALL MACHINE: numbers are Int (they wrap only where the JVM's row reads them), a cell is (kind, length, places), a reference is the number of its cell; -1 is null, -2 and below are the few things that stand outside. -/
abbrev AV : Type := Nat × Int
abbrev Hp : Type := Nat × Nat × (Nat → Nat) × (Nat → Nat) × (Nat → Nat → Int)
abbrev ME : Type := Nat × Nat × Nat × Int × Int × List (Int × Int)
def mN (h : Hp) : Nat := h.1
def mS (h : Hp) : Nat := h.2.1
def mK (h : Hp) (a : Nat) : Nat := h.2.2.1 a
def mL (h : Hp) (a : Nat) : Nat := h.2.2.2.1 a
def mC (h : Hp) (a k : Nat) : Int := h.2.2.2.2 a k
def mPut (h : Hp) (a k : Nat) (x : Int) : Hp := (h.1, h.2.1, h.2.2.1, h.2.2.2.1, fun b j => if b = a ∧ j = k then x else h.2.2.2.2 b j)
def mNew (h : Hp) (kd ln : Nat) (v : Nat → Int) : Hp := (h.1 + 1, h.2.1 + ln, fun b => if b = h.1 then kd else h.2.2.1 b, fun b => if b = h.1 then ln else h.2.2.2.1 b, fun b j => if b = h.1 then v j else h.2.2.2.2 b j)
abbrev inR (x : Int) : Prop := -2147483648 ≤ x ∧ x < 2147483648
abbrev inR64 (x : Int) : Prop := -9223372036854775808 ≤ x ∧ x < 9223372036854775808
def mBit (o : Nat) (x y : Int) : Int :=
  if o = 5 then (Int32.ofInt x &&& Int32.ofInt y).toInt
  else if o = 6 then (Int32.ofInt x ||| Int32.ofInt y).toInt
  else if o = 7 then (Int32.ofInt x ^^^ Int32.ofInt y).toInt
  else if o = 8 then (Int32.ofInt x <<< (Int32.ofInt y &&& 31)).toInt
  else if o = 9 then (Int32.ofInt x >>> (Int32.ofInt y &&& 31)).toInt
  else ((Int32.ofInt x).toUInt32 >>> ((Int32.ofInt y).toUInt32 &&& 31)).toInt32.toInt
def mBin (o : Nat) (x y : Int) : Option Int :=
  if o = 0 then some (x + y) else if o = 1 then some (x - y) else if o = 2 then some (x * y)
  else if o = 3 then (if (inR x ∧ inR y) ∧ y ≠ 0 then some ((Int32.ofInt x / Int32.ofInt y).toInt) else none)
  else if o = 4 then (if (inR x ∧ inR y) ∧ y ≠ 0 then some ((Int32.ofInt x - Int32.ofInt x / Int32.ofInt y * Int32.ofInt y).toInt) else none)
  else some (mBit o x y)
def mCmp (o : Nat) (x y : Int) : Bool :=
  if o = 0 then decide (x = y) else if o = 1 then !decide (x = y) else if o = 2 then decide (x < y) else if o = 3 then !decide (x < y)
  else if o = 4 then decide (y < x) else !decide (y < x)
/-- when the machine's comparison is that of the numbers -/
abbrev mCan (o : Nat) (x y : Int) : Prop := (inR x ∧ inR y) ∨ (o < 2 ∧ x = y)
def mCat (v : AV) : Nat := if v.1 = 2 then 2 else 1
def mSet (lv : List AV) (i : Nat) (v : AV) : Option (List AV) :=
  if i < lv.length ∧ (i = 0 ∨ (lv.getD (i - 1) (9, 0)).1 ≠ 2) then
    (if v.1 = 2 then (if i + 1 < lv.length then some ((lv.set i v).set (i + 1) (9, 0)) else none) else some (lv.set i v))
  else none
/-- field kinds: 0 int, 1 reference, 3 boolean -/
def mFt (c : Nat) : List Nat := match c with
  | 0 => [0, 1, 0]
  | 1 => [0, 0, 1, 1, 1, 1]
  | 2 => [1, 1, 1, 0, 0]
  | 3 => [0, 0, 1, 1, 1, 1]
  | 4 => [0, 0, 1, 1, 1, 1]
  | 5 => [0, 0, 1, 1, 1, 1]
  | 6 => [1, 0, 0, 0, 0, 3]
  | 7 => [0, 0, 1, 1, 1, 1]
  | 8 => [0, 1, 1, 0, 0]
  | 9 => [0, 0, 1, 1, 1, 1]
  | 10 => [0, 0, 1, 1, 1, 1]
  | 11 => [1, 1, 1, 1, 1, 1, 1, 1, 1, 1, 1, 1, 0, 0, 0, 0, 0]
  | 12 => [0, 1, 1, 1, 3, 0, 0, 0, 3, 0, 1, 1, 1, 1, 1, 0, 1, 1, 0, 1, 0, 0, 0, 0]
  | _ => []
def mTag (t : Nat) : Nat := if t = 1 then 1 else 0
/-- whether an object of class c may stand where class b is asked -/
def mIsa (c b : Nat) : Bool := c == b || (b == 1 && (c == 3 || c == 4 || c == 5 || c == 7 || c == 9 || c == 10)) || (b == 5 && c == 4) || (b == 9 && c == 7) || (b == 3 && c == 10)
/-- an own cell's number out of a reference -/
def mAd (h : Hp) (x : Int) : Option Nat := if 0 ≤ x ∧ x.toNat < mN h then some x.toNat else none
/-- default places of a new object: 0, or null -/
def mDef (c : Nat) (k : Nat) : Int := if (mFt c).getD k 0 = 1 then -1 else 0
/-- one instruction that is no call and no return; sc: the law's script -/
def mStep (sc : Option (Nat × (Nat → Int))) (op : Nat) (a b : Int) (l : List (Int × Int)) (nx : Nat) (lv st : List AV) (h : Hp) : Option (Nat × List AV × List AV × Hp) :=
  match op with
  | 0 => some (nx, lv, (0, a) :: st, h)
  | 1 => match lv[b.toNat]? with
    | some v => if v.1 = a.toNat then some (nx, lv, v :: st, h) else none
    | none => none
  | 2 => match st with
    | v :: r => if v.1 = a.toNat then (match mSet lv b.toNat v with | some lv' => some (nx, lv', r, h) | none => none) else none
    | _ => none
  | 3 => match lv[a.toNat]? with
    | some (0, x) => match mSet lv a.toNat (0, x + b) with | some lv' => some (nx, lv', st, h) | none => none
    | _ => none
  | 4 => match st with
    | (0, y) :: (0, x) :: r => match mBin a.toNat x y with | some z => some (nx, lv, (0, z) :: r, h) | none => none
    | _ => none
  | 5 => match st with
    | (0, x) :: r => some (nx, lv, (0, -x) :: r, h)
    | _ => none
  | 6 => match st with
    | (0, x) :: r => if mCan b.toNat x 0 then some (if mCmp b.toNat x 0 then a.toNat else nx, lv, r, h) else none
    | _ => none
  | 7 => match st with
    | (0, y) :: (0, x) :: r => if mCan b.toNat x y then some (if mCmp b.toNat x y then a.toNat else nx, lv, r, h) else none
    | _ => none
  | 8 => match st with
    | (1, x) :: r => some (if (decide (x = -1)) == decide (b = 0) then a.toNat else nx, lv, r, h)
    | _ => none
  | 9 => match st with
    | (1, y) :: (1, x) :: r => if (x = -2 ∨ x = -1 ∨ 0 ≤ x) ∧ (y = -2 ∨ y = -1 ∨ 0 ≤ y) then some (if (decide (x = y)) == decide (b = 0) then a.toNat else nx, lv, r, h) else none
    | _ => none
  | 10 => some (a.toNat, lv, st, h)
  | 11 => match st with
    | v :: r => if v.1 < 2 then some (nx, lv, v :: v :: r, h) else none
    | _ => none
  | 12 => match st with
    | v :: r => if v.1 < 2 then some (nx, lv, r, h) else none
    | _ => none
  | 13 => match st with
    | v :: w :: r => if v.1 < 2 ∧ w.1 < 2 then some (nx, lv, v :: w :: v :: r, h) else none
    | _ => none
  | 14 => match st with
    | v :: w :: r => if v.1 < 2 ∧ w.1 < 2 then some (nx, lv, v :: w :: v :: w :: r, h) else none
    | _ => none
  | 15 => some (nx, lv, (1, -1) :: st, h)
  | 16 => match st with
    | (1, x) :: r => match mAd h x with
      | some q => if mK h q < 13 ∧ mIsa (mK h q) b.toNat ∧ a.toNat < (mFt (mK h q)).length then some (nx, lv, (mTag ((mFt (mK h q)).getD a.toNat 0), mC h q a.toNat) :: r, h) else none
      | none => none
    | _ => none
  | 17 => match st with
    | v :: (1, x) :: r => match mAd h x with
      | some q => if mK h q < 13 ∧ mIsa (mK h q) b.toNat ∧ a.toNat < (mFt (mK h q)).length ∧ v.1 = mTag ((mFt (mK h q)).getD a.toNat 0) ∧ ((mFt (mK h q)).getD a.toNat 0 = 3 → v.2 = 0 ∨ v.2 = 1) then some (nx, lv, r, mPut h q a.toNat v.2) else none
      | none => none
    | _ => none
  | 18 => match st with
    | (0, i) :: (1, x) :: r =>
      if x = -5 then (match sc with
        | some (L, xs) => if 0 ≤ i ∧ i.toNat < L ∧ i < 2147483648 then some (nx, lv, (0, xs i.toNat) :: r, h) else none
        | none => none)
      else match mAd h x with
      | some q => if mK h q = 20 ∧ 0 ≤ i ∧ i.toNat < mL h q ∧ i < 2147483648 then some (nx, lv, (0, mC h q i.toNat) :: r, h) else none
      | none => none
    | _ => none
  | 19 => match st with
    | (0, v) :: (0, i) :: (1, x) :: r => match mAd h x with
      | some q => if mK h q = 20 ∧ 0 ≤ i ∧ i.toNat < mL h q ∧ i < 2147483648 then some (nx, lv, r, mPut h q i.toNat v) else none
      | none => none
    | _ => none
  | 20 => match st with
    | (0, i) :: (1, x) :: r => match mAd h x with
      | some q => if mK h q = 21 ∧ 0 ≤ i ∧ i.toNat < mL h q ∧ i < 2147483648 then some (nx, lv, (0, mC h q i.toNat) :: r, h) else none
      | none => none
    | _ => none
  | 21 => match st with
    | (0, v) :: (0, i) :: (1, x) :: r => match mAd h x with
      | some q => if mK h q = 21 ∧ 0 ≤ i ∧ i.toNat < mL h q ∧ i < 2147483648 ∧ (v = 0 ∨ v = 1) then some (nx, lv, r, mPut h q i.toNat v) else none
      | none => none
    | _ => none
  | 22 => match st with
    | (0, i) :: (1, x) :: r => match mAd h x with
      | some q => if mK h q = 22 ∧ 0 ≤ i ∧ i.toNat < mL h q ∧ i < 2147483648 then some (nx, lv, (1, mC h q i.toNat) :: r, h) else none
      | none => none
    | _ => none
  | 23 => match st with
    | (1, v) :: (0, i) :: (1, x) :: r => match mAd h x with
      | some q => if mK h q = 22 ∧ 0 ≤ i ∧ i.toNat < mL h q ∧ i < 2147483648 ∧ (v = -1 ∨ (0 ≤ v ∧ v.toNat < mN h ∧ mK h v.toNat < 13 ∧ mIsa (mK h v.toNat) 1)) then some (nx, lv, r, mPut h q i.toNat v) else none
      | none => none
    | _ => none
  | 24 => match st with
    | (1, x) :: r =>
      if x = -5 then (match sc with
        | some (L, _) => some (nx, lv, (0, (L : Int)) :: r, h)
        | none => none)
      else if x = -2 then some (nx, lv, (0, 0) :: r, h)
      else match mAd h x with
      | some q => if 20 ≤ mK h q ∧ mK h q < 23 then some (nx, lv, (0, (mL h q : Int)) :: r, h) else none
      | none => none
    | _ => none
  | 25 => if a.toNat < 13 then some (nx, lv, (1, (mN h : Int)) :: st, mNew h a.toNat (mFt a.toNat).length (mDef a.toNat)) else none
  | 26 => match st with
    | (0, n) :: r => if 0 ≤ n ∧ n < 100000 ∧ (a = 20 ∨ a = 21) then some (nx, lv, (1, (mN h : Int)) :: r, mNew h a.toNat n.toNat (fun _ => 0)) else none
    | _ => none
  | 27 => match st with
    | (0, n) :: r => if 0 ≤ n ∧ n < 100000 then some (nx, lv, (1, (mN h : Int)) :: r, mNew h 22 n.toNat (fun _ => -1)) else none
    | _ => none
  | 28 => match st with
    | (0, x) :: r => if inR x then some (nx, lv, (2, x) :: r, h) else none
    | _ => none
  | 29 => match st with
    | (2, y) :: (2, x) :: r => some (nx, lv, (2, x + y) :: r, h)
    | _ => none
  | 30 => match st with
    | (2, x) :: r => some (nx, lv, (2, -x) :: r, h)
    | _ => none
  | 31 => match st with
    | (2, y) :: (2, x) :: r => if (inR64 x ∧ inR64 y) ∧ y ≠ 0 then some (nx, lv, (2, (Int64.ofInt x / Int64.ofInt y).toInt) :: r, h) else none
    | _ => none
  | 32 => match st with
    | (2, y) :: (2, x) :: r => if (inR64 x ∧ inR64 y) ∧ y ≠ 0 then some (nx, lv, (2, (Int64.ofInt x - Int64.ofInt x / Int64.ofInt y * Int64.ofInt y).toInt) :: r, h) else none
    | _ => none
  | 33 => match st with
    | (2, y) :: (2, x) :: r => if inR64 x ∧ inR64 y then some (nx, lv, (0, if y < x then 1 else if x = y then 0 else -1) :: r, h) else if x = y then some (nx, lv, (0, 0) :: r, h) else none
    | _ => none
  | 34 => some (nx, lv, (2, a) :: st, h)
  | 35 => some (nx, lv, (1, -10 - a) :: st, h)
  | 36 => some (nx, lv, (1, -2) :: st, h)
  | 37 => match st with
    | (1, x) :: r => match mAd h x with
      | some q => if mK h q < 13 ∧ mIsa (mK h q) a.toNat then some (nx, lv, (1, x) :: r, h) else none
      | none => none
    | _ => none
  | 40 => match st with
    | (0, x) :: r => if inR x then some (((l.lookup x).getD a).toNat, lv, r, h) else none
    | _ => none
  | _ => none
/-- a call's locals: a long takes two places; then nothing, up to n -/
def mArgs : List AV → List AV
  | [] => []
  | v :: vs => if v.1 = 2 then v :: (9, 0) :: mArgs vs else v :: mArgs vs
def mEnt (n : Nat) (as : List AV) : List AV := mArgs as ++ List.replicate (n - (mArgs as).length) (9, 0)
def mCats (st : List AV) : Nat := (st.map mCat).sum
/-- what the JDK's String answers of the claim's constants: length, charAt -/
def mPrim (txt : Nat → List Nat) (id : Nat) (as : List AV) : Option AV :=
  match id, as with
  | 0, [(1, x)] => if x ≤ -10 ∧ -20 < x then some (0, ((txt (-10 - x).toNat).length : Int)) else none
  | 1, [(1, x), (0, i)] => if x ≤ -10 ∧ -20 < x ∧ 0 ≤ i ∧ i.toNat < (txt (-10 - x).toNat).length then some (0, (((txt (-10 - x).toNat).getD i.toNat 0 : Nat) : Int)) else none
  | _, _ => none
/-- what is known of a method: table, places, arguments, whether it answers a boolean -/
abbrev MT : Type := Nat → List ME × Nat × Nat × Nat
def mAt (t : List ME) (pc : Nat) : Option (Nat × Nat × Int × Int × List (Int × Int)) := t.lookup pc
/-- a return: what is answered -/
def mRet (op rk : Nat) (st : List AV) : Option (Option AV) := match op with
  | 60 => match st with
    | [(0, x)] => if rk = 3 → x = 0 ∨ x = 1 then some (some (0, x)) else none
    | _ => none
  | 61 => match st with
    | [(1, x)] => some (some (1, x))
    | _ => none
  | 62 => match st with
    | [(2, x)] => some (some (2, x))
    | _ => none
  | 63 => match st with
    | [] => some none
    | _ => none
  | _ => none
/-- a call: the method, and how many of the stack it takes -/
def mTgt (mt : MT) (vt : Nat → List (Nat × Nat)) (op a b : Nat) (st : List AV) (h : Hp) : Option (Nat × Nat) := match op with
  | 50 => if (mt a).2.2.1 ≤ st.length ∧ mCats (st.drop (mt a).2.2.1) ≤ 8 ∧ (mArgs (st.take (mt a).2.2.1).reverse).length ≤ (mt a).2.1 then some (a, (mt a).2.2.1) else none
  | 51 => match st[b]? with
    | some (1, x) => match mAd h x with
      | some q => match (vt a).lookup (mK h q) with
        | some y => if (mt y).2.2.1 = b + 1 ∧ mCats (st.drop (b + 1)) ≤ 8 ∧ (mArgs (st.take (b + 1)).reverse).length ≤ (mt y).2.1 then some (y, b + 1) else none
        | none => none
      | none => none
    | _ => none
  | _ => none
/-- Object's constructor, and the texts' methods: the stack behind them -/
def mPri (txt : Nat → List Nat) (op a b : Nat) (st : List AV) (h : Hp) : Option (List AV) := match op with
  | 52 => if b ≤ st.length ∧ mCats (st.drop b) ≤ 8 then (match mPrim txt a (st.take b).reverse with
    | some v => some (v :: st.drop b)
    | none => none) else none
  | 53 => match st with
    | (1, x) :: r => match mAd h x with
      | some _ => if mCats r ≤ 8 then some r else none
      | none => none
    | _ => none
  | _ => none
abbrev MR : Type := Nat → Option (Nat × (Nat → Int)) → List ME → Nat → Nat → List AV → List AV → Hp → Option (Option AV × Hp)
def mBody (mt : MT) (vt : Nat → List (Nat × Nat)) (txt : Nat → List Nat) (rec : MR) : MR := fun d sc tb rk pc lv st h =>
  match mAt tb pc with
  | none => none
  | some (nx, op, a, b, l) =>
    if op < 50 then
      (match mStep sc op a b l nx lv st h with
      | some (pc', lv', st', h') => rec d sc tb rk pc' lv' st' h'
      | none => none)
    else match mRet op rk st with
    | some r => some (r, h)
    | none => match d with
      | 0 => none
      | d + 1 => match mTgt mt vt op a.toNat b.toNat st h with
        | some (y, n) => match rec d none (mt y).1 (mt y).2.2.2 0 (mEnt (mt y).2.1 (st.take n).reverse) [] h with
          | some (r, h') => rec (d + 1) sc tb rk nx lv (r.toList ++ st.drop n) h'
          | none => none
        | none => match mPri txt op a.toNat b.toNat st h with
          | some st' => rec (d + 1) sc tb rk nx lv st' h
          | none => none
def mRun (mt : MT) (vt : Nat → List (Nat × Nat)) (txt : Nat → List Nat) : Nat → MR
  | 0 => fun _ _ _ _ _ _ _ _ => none
  | f + 1 => mBody mt vt txt (mRun mt vt txt f)
end
section
/-! WORDS that last, link tables, code tables: printed by wip/whole/gen/gen_tabs.py out of the printed decode rows and the tables' words -/
def BW : List Cond := lw_tbl.filter goodWord
theorem bw {w : Cond} (h : w ∈ lw_tbl) (g : goodWord w = true) : w ∈ BW := List.mem_filter.mpr ⟨h, g⟩
theorem BW_in {w : Cond} (h : w ∈ BW) : w ∈ lw_tbl := (List.mem_filter.mp h).1
theorem BW_good {w : Cond} (h : w ∈ BW) : (w.onTables && w.keeps) = true ∨ ∃ ty, w = .arrayClass ty := good_of_word (List.mem_filter.mp h).2
theorem tb_0 {w : Cond} (h : w ∈ tables_1_1) : w ∈ lw_tbl := List.mem_append_right _ (List.mem_append_left _ h)
theorem tb_1 {w : Cond} (h : w ∈ tables_1_2) : w ∈ lw_tbl := List.mem_append_right _ (List.mem_append_right _ (List.mem_append_left _ h))
theorem tb_2 {w : Cond} (h : w ∈ tables_1_3) : w ∈ lw_tbl := List.mem_append_right _ (List.mem_append_right _ (List.mem_append_right _ (List.mem_append_left _ h)))
theorem tb_3 {w : Cond} (h : w ∈ tables_1_4) : w ∈ lw_tbl := List.mem_append_right _ (List.mem_append_right _ (List.mem_append_right _ (List.mem_append_right _ (List.mem_append_left _ h))))
theorem tb_4 {w : Cond} (h : w ∈ tables_1_5) : w ∈ lw_tbl := List.mem_append_right _ (List.mem_append_right _ (List.mem_append_right _ (List.mem_append_right _ (List.mem_append_right _ (List.mem_append_left _ h)))))
theorem tb_5 {w : Cond} (h : w ∈ tables_1_6) : w ∈ lw_tbl := List.mem_append_right _ (List.mem_append_right _ (List.mem_append_right _ (List.mem_append_right _ (List.mem_append_right _ (List.mem_append_right _ (List.mem_append_left _ h))))))
theorem tb_6 {w : Cond} (h : w ∈ tables_1_7) : w ∈ lw_tbl := List.mem_append_right _ (List.mem_append_right _ (List.mem_append_right _ (List.mem_append_right _ (List.mem_append_right _ (List.mem_append_right _ (List.mem_append_right _ h))))))
theorem w_0_0 : ((Jvm.Cond.initialized "LaidQuarrelLaw") : Cond) ∈ lw_tbl := tb_0 (List.mem_of_getElem? (i := 0) rfl)
theorem w_0_1 : ((Jvm.Cond.initialized "LaidQuarrel") : Cond) ∈ lw_tbl := tb_0 (List.mem_of_getElem? (i := 1) rfl)
theorem w_0_2 : ((Jvm.Cond.initialized "LaidQuarrel$Shelf") : Cond) ∈ lw_tbl := tb_0 (List.mem_of_getElem? (i := 2) rfl)
theorem w_0_3 : ((Jvm.Cond.initialized "java/lang/Math") : Cond) ∈ lw_tbl := tb_0 (List.mem_of_getElem? (i := 3) rfl)
theorem w_0_4 : ((Jvm.Cond.initialized "LaidQuarrel$Cellar") : Cond) ∈ lw_tbl := tb_0 (List.mem_of_getElem? (i := 4) rfl)
theorem w_0_5 : ((Jvm.Cond.initialized "java/util/AbstractCollection") : Cond) ∈ lw_tbl := tb_0 (List.mem_of_getElem? (i := 5) rfl)
theorem w_0_6 : ((Jvm.Cond.initialized "java/util/AbstractList") : Cond) ∈ lw_tbl := tb_0 (List.mem_of_getElem? (i := 6) rfl)
theorem w_0_7 : ((Jvm.Cond.initialized "java/util/ArrayList") : Cond) ∈ lw_tbl := tb_0 (List.mem_of_getElem? (i := 7) rfl)
theorem w_0_8 : ((Jvm.Cond.initialized "LaidQuarrelModel") : Cond) ∈ lw_tbl := tb_0 (List.mem_of_getElem? (i := 8) rfl)
theorem w_0_9 : ((Jvm.Cond.initialized "java/lang/String") : Cond) ∈ lw_tbl := tb_0 (List.mem_of_getElem? (i := 9) rfl)
theorem w_0_10 : ((Jvm.Cond.initialized "java/lang/StringLatin1") : Cond) ∈ lw_tbl := tb_0 (List.mem_of_getElem? (i := 10) rfl)
theorem w_0_11 : ((Jvm.Cond.initialized "jdk/internal/util/Preconditions") : Cond) ∈ lw_tbl := tb_0 (List.mem_of_getElem? (i := 11) rfl)
theorem w_0_12 : ((Jvm.Cond.initialized "java/lang/StringUTF16") : Cond) ∈ lw_tbl := tb_0 (List.mem_of_getElem? (i := 12) rfl)
theorem w_0_13 : ((Jvm.Cond.initialized "LaidQuarrel$Bottle") : Cond) ∈ lw_tbl := tb_0 (List.mem_of_getElem? (i := 13) rfl)
theorem w_0_14 : ((Jvm.Cond.initialized "LaidQuarrel$Hard") : Cond) ∈ lw_tbl := tb_0 (List.mem_of_getElem? (i := 14) rfl)
theorem w_0_15 : ((Jvm.Cond.initialized "LaidQuarrel$Laid") : Cond) ∈ lw_tbl := tb_0 (List.mem_of_getElem? (i := 15) rfl)
theorem w_0_16 : ((Jvm.Cond.initialized "LaidQuarrel$Sweet") : Cond) ∈ lw_tbl := tb_0 (List.mem_of_getElem? (i := 16) rfl)
theorem w_0_17 : ((Jvm.Cond.initialized "LaidQuarrel$Corked") : Cond) ∈ lw_tbl := tb_0 (List.mem_of_getElem? (i := 17) rfl)
theorem w_0_18 : ((Jvm.Cond.initialized "LaidQuarrel$Feud") : Cond) ∈ lw_tbl := tb_0 (List.mem_of_getElem? (i := 18) rfl)
theorem w_0_19 : ((Jvm.Cond.initialized "LaidQuarrel$Love") : Cond) ∈ lw_tbl := tb_0 (List.mem_of_getElem? (i := 19) rfl)
theorem w_0_20 : ((Jvm.Cond.initialized "LaidQuarrel$Told") : Cond) ∈ lw_tbl := tb_0 (List.mem_of_getElem? (i := 20) rfl)
theorem w_0_21 : ((Jvm.Cond.initialized "jdk/internal/util/ArraysSupport") : Cond) ∈ lw_tbl := tb_0 (List.mem_of_getElem? (i := 21) rfl)
theorem w_0_22 : ((Jvm.Cond.initialized "java/util/Arrays") : Cond) ∈ lw_tbl := tb_0 (List.mem_of_getElem? (i := 22) rfl)
theorem w_0_23 : ((Jvm.Cond.initialized "java/lang/System") : Cond) ∈ lw_tbl := tb_0 (List.mem_of_getElem? (i := 23) rfl)
theorem w_0_24 : ((Jvm.Cond.initialized "java/util/Objects") : Cond) ∈ lw_tbl := tb_0 (List.mem_of_getElem? (i := 24) rfl)
theorem w_0_25 : ((Jvm.Cond.initialized "java/lang/Integer") : Cond) ∈ lw_tbl := tb_0 (List.mem_of_getElem? (i := 25) rfl)
theorem w_0_26 : ((Jvm.Cond.classLink "LaidQuarrelLaw" (7 : Nat) "LaidQuarrel") : Cond) ∈ lw_tbl := tb_0 (List.mem_of_getElem? (i := 26) rfl)
theorem w_0_27 : ((Jvm.Cond.instantiable "LaidQuarrel" (17 : Nat)) : Cond) ∈ lw_tbl := tb_0 (List.mem_of_getElem? (i := 27) rfl)
theorem w_0_28 : ((Jvm.Cond.methodLink "LaidQuarrelLaw" (9 : Nat) ({ cls := "LaidQuarrel", name := "<init>", desc := "()V" } : Jvm.MethodName)) : Cond) ∈ lw_tbl := tb_0 (List.mem_of_getElem? (i := 28) rfl)
theorem w_0_29 : ((Jvm.Cond.instanceMethod ({ cls := "LaidQuarrel", name := "<init>", desc := "()V" } : Jvm.MethodName)) : Cond) ∈ lw_tbl := tb_0 (List.mem_of_getElem? (i := 29) rfl)
theorem w_0_30 : ((Jvm.Cond.code ({ cls := "LaidQuarrel", name := "<init>", desc := "()V" } : Jvm.MethodName) prog_1_method_1_code (1 : Nat) (Option.none : Option Jvm.ClassFile.FieldType)) : Cond) ∈ lw_tbl := tb_0 (List.mem_of_getElem? (i := 30) rfl)
theorem w_0_31 : ((Jvm.Cond.methodLink "LaidQuarrel" (3 : Nat) ({ cls := "java/lang/Object", name := "<init>", desc := "()V" } : Jvm.MethodName)) : Cond) ∈ lw_tbl := tb_0 (List.mem_of_getElem? (i := 31) rfl)
theorem w_0_32 : ((Jvm.Cond.instanceMethod ({ cls := "java/lang/Object", name := "<init>", desc := "()V" } : Jvm.MethodName)) : Cond) ∈ lw_tbl := tb_0 (List.mem_of_getElem? (i := 32) rfl)
theorem w_0_33 : ((Jvm.Cond.code ({ cls := "java/lang/Object", name := "<init>", desc := "()V" } : Jvm.MethodName) object_method_1_code (1 : Nat) (Option.none : Option Jvm.ClassFile.FieldType)) : Cond) ∈ lw_tbl := tb_0 (List.mem_of_getElem? (i := 33) rfl)
theorem w_0_34 : ((Jvm.Cond.classLink "LaidQuarrel" (9 : Nat) "LaidQuarrel$Shelf") : Cond) ∈ lw_tbl := tb_0 (List.mem_of_getElem? (i := 34) rfl)
theorem w_0_35 : ((Jvm.Cond.instantiable "LaidQuarrel$Shelf" (5 : Nat)) : Cond) ∈ lw_tbl := tb_0 (List.mem_of_getElem? (i := 35) rfl)
theorem w_0_36 : ((Jvm.Cond.methodLink "LaidQuarrel" (13 : Nat) ({ cls := "LaidQuarrel$Shelf", name := "<init>", desc := "(II)V" } : Jvm.MethodName)) : Cond) ∈ lw_tbl := tb_0 (List.mem_of_getElem? (i := 36) rfl)
theorem w_0_37 : ((Jvm.Cond.instanceMethod ({ cls := "LaidQuarrel$Shelf", name := "<init>", desc := "(II)V" } : Jvm.MethodName)) : Cond) ∈ lw_tbl := tb_0 (List.mem_of_getElem? (i := 37) rfl)
theorem w_0_38 : ((Jvm.Cond.code ({ cls := "LaidQuarrel$Shelf", name := "<init>", desc := "(II)V" } : Jvm.MethodName) prog_9_method_1_code (3 : Nat) (Option.none : Option Jvm.ClassFile.FieldType)) : Cond) ∈ lw_tbl := tb_0 (List.mem_of_getElem? (i := 38) rfl)
theorem w_0_39 : ((Jvm.Cond.methodLink "LaidQuarrel$Shelf" (1 : Nat) ({ cls := "java/lang/Object", name := "<init>", desc := "()V" } : Jvm.MethodName)) : Cond) ∈ lw_tbl := tb_0 (List.mem_of_getElem? (i := 39) rfl)
theorem w_0_40 : ((Jvm.Cond.methodLink "LaidQuarrel$Shelf" (13 : Nat) ({ cls := "java/lang/Math", name := "max", desc := "(II)I" } : Jvm.MethodName)) : Cond) ∈ lw_tbl := tb_0 (List.mem_of_getElem? (i := 40) rfl)
theorem w_0_41 : ((Jvm.Cond.static ({ cls := "java/lang/Math", name := "max", desc := "(II)I" } : Jvm.MethodName)) : Cond) ∈ lw_tbl := tb_0 (List.mem_of_getElem? (i := 41) rfl)
theorem w_0_42 : ((Jvm.Cond.code ({ cls := "java/lang/Math", name := "max", desc := "(II)I" } : Jvm.MethodName) prog_20_method_65_code (2 : Nat) (Option.some Jvm.ClassFile.FieldType.int)) : Cond) ∈ lw_tbl := tb_0 (List.mem_of_getElem? (i := 42) rfl)
theorem w_0_43 : ((Jvm.Cond.fieldLink "LaidQuarrel$Shelf" (7 : Nat) "LaidQuarrel$Shelf" "width" "I") : Cond) ∈ lw_tbl := tb_0 (List.mem_of_getElem? (i := 43) rfl)
theorem w_0_44 : ((Jvm.Cond.fieldLink "LaidQuarrel$Shelf" (19 : Nat) "LaidQuarrel$Shelf" "cells" "[I") : Cond) ∈ lw_tbl := tb_0 (List.mem_of_getElem? (i := 44) rfl)
theorem w_0_45 : ((Jvm.Cond.fieldLink "LaidQuarrel$Shelf" (23 : Nat) "LaidQuarrel$Shelf" "keptCells" "[I") : Cond) ∈ lw_tbl := tb_0 (List.mem_of_getElem? (i := 45) rfl)
theorem w_0_46 : ((Jvm.Cond.fieldLink "LaidQuarrel$Shelf" (26 : Nat) "LaidQuarrel$Shelf" "rows" "I") : Cond) ∈ lw_tbl := tb_0 (List.mem_of_getElem? (i := 46) rfl)
theorem w_0_47 : ((Jvm.Cond.fieldLink "LaidQuarrel" (121 : Nat) "LaidQuarrel$Shelf" "rows" "I") : Cond) ∈ lw_tbl := tb_0 (List.mem_of_getElem? (i := 47) rfl)
theorem w_0_48 : ((Jvm.Cond.fieldLink "LaidQuarrel$Cellar" (40 : Nat) "LaidQuarrel$Shelf" "rows" "I") : Cond) ∈ lw_tbl := tb_0 (List.mem_of_getElem? (i := 48) rfl)
theorem w_0_49 : ((Jvm.Cond.fieldLink "LaidQuarrel$Shelf" (33 : Nat) "LaidQuarrel$Shelf" "keptRows" "I") : Cond) ∈ lw_tbl := tb_0 (List.mem_of_getElem? (i := 49) rfl)
theorem w_0_50 : ((Jvm.Cond.laysFinal "LaidQuarrel$Shelf" "LaidQuarrel$Shelf" "width" "I") : Cond) ∈ lw_tbl := tb_0 (List.mem_of_getElem? (i := 50) rfl)
theorem w_0_51 : ((Jvm.Cond.soleField "LaidQuarrel$Shelf" "width") : Cond) ∈ lw_tbl := tb_0 (List.mem_of_getElem? (i := 51) rfl)
theorem w_0_52 : ((Jvm.Cond.laysFinal "LaidQuarrel$Shelf" "LaidQuarrel$Shelf" "cells" "[I") : Cond) ∈ lw_tbl := tb_0 (List.mem_of_getElem? (i := 52) rfl)
theorem w_0_53 : ((Jvm.Cond.soleField "LaidQuarrel$Shelf" "cells") : Cond) ∈ lw_tbl := tb_0 (List.mem_of_getElem? (i := 53) rfl)
theorem w_0_54 : ((Jvm.Cond.laysFinal "LaidQuarrel$Shelf" "LaidQuarrel$Shelf" "keptCells" "[I") : Cond) ∈ lw_tbl := tb_0 (List.mem_of_getElem? (i := 54) rfl)
theorem w_0_55 : ((Jvm.Cond.soleField "LaidQuarrel$Shelf" "keptCells") : Cond) ∈ lw_tbl := tb_0 (List.mem_of_getElem? (i := 55) rfl)
theorem w_0_56 : ((Jvm.Cond.lays "LaidQuarrel$Shelf" "LaidQuarrel$Shelf" "rows" "I") : Cond) ∈ lw_tbl := tb_0 (List.mem_of_getElem? (i := 56) rfl)
theorem w_0_57 : ((Jvm.Cond.soleField "LaidQuarrel$Shelf" "rows") : Cond) ∈ lw_tbl := tb_0 (List.mem_of_getElem? (i := 57) rfl)
theorem w_0_58 : ((Jvm.Cond.lays "LaidQuarrel$Shelf" "LaidQuarrel$Shelf" "keptRows" "I") : Cond) ∈ lw_tbl := tb_0 (List.mem_of_getElem? (i := 58) rfl)
theorem w_0_59 : ((Jvm.Cond.soleField "LaidQuarrel$Shelf" "keptRows") : Cond) ∈ lw_tbl := tb_0 (List.mem_of_getElem? (i := 59) rfl)
theorem w_0_60 : ((Jvm.Cond.superclass "LaidQuarrel$Shelf" "java/lang/Object") : Cond) ∈ lw_tbl := tb_0 (List.mem_of_getElem? (i := 60) rfl)
theorem w_0_61 : ((Jvm.Cond.arrayClass Jvm.ClassFile.FieldType.int) : Cond) ∈ lw_tbl := tb_0 (List.mem_of_getElem? (i := 61) rfl)
theorem w_0_62 : ((Jvm.Cond.classLink "LaidQuarrel" (44 : Nat) "LaidQuarrel$Cellar") : Cond) ∈ lw_tbl := tb_0 (List.mem_of_getElem? (i := 62) rfl)
theorem w_0_63 : ((Jvm.Cond.instantiable "LaidQuarrel$Cellar" (5 : Nat)) : Cond) ∈ lw_tbl := tb_0 (List.mem_of_getElem? (i := 63) rfl)
theorem w_0_64 : ((Jvm.Cond.methodLink "LaidQuarrel" (46 : Nat) ({ cls := "LaidQuarrel$Cellar", name := "<init>", desc := "(LLaidQuarrel$Shelf;)V" } : Jvm.MethodName)) : Cond) ∈ lw_tbl := tb_0 (List.mem_of_getElem? (i := 64) rfl)
theorem w_0_65 : ((Jvm.Cond.instanceMethod ({ cls := "LaidQuarrel$Cellar", name := "<init>", desc := "(LLaidQuarrel$Shelf;)V" } : Jvm.MethodName)) : Cond) ∈ lw_tbl := tb_0 (List.mem_of_getElem? (i := 65) rfl)
theorem w_0_66 : ((Jvm.Cond.code ({ cls := "LaidQuarrel$Cellar", name := "<init>", desc := "(LLaidQuarrel$Shelf;)V" } : Jvm.MethodName) prog_3_method_1_code (2 : Nat) (Option.none : Option Jvm.ClassFile.FieldType)) : Cond) ∈ lw_tbl := tb_0 (List.mem_of_getElem? (i := 66) rfl)
theorem w_0_67 : ((Jvm.Cond.methodLink "LaidQuarrel$Cellar" (3 : Nat) ({ cls := "java/lang/Object", name := "<init>", desc := "()V" } : Jvm.MethodName)) : Cond) ∈ lw_tbl := tb_0 (List.mem_of_getElem? (i := 67) rfl)
theorem w_0_68 : ((Jvm.Cond.classLink "LaidQuarrel$Cellar" (9 : Nat) "LaidQuarrel$Shelf") : Cond) ∈ lw_tbl := tb_0 (List.mem_of_getElem? (i := 68) rfl)
theorem w_0_69 : ((Jvm.Cond.methodLink "LaidQuarrel$Cellar" (11 : Nat) ({ cls := "LaidQuarrel$Shelf", name := "<init>", desc := "(II)V" } : Jvm.MethodName)) : Cond) ∈ lw_tbl := tb_0 (List.mem_of_getElem? (i := 69) rfl)
theorem w_0_70 : ((Jvm.Cond.fieldLink "LaidQuarrel$Cellar" (23 : Nat) "LaidQuarrel$Cellar" "text" "LLaidQuarrel$Shelf;") : Cond) ∈ lw_tbl := tb_0 (List.mem_of_getElem? (i := 70) rfl)
theorem w_0_71 : ((Jvm.Cond.fieldLink "LaidQuarrel$Cellar" (14 : Nat) "LaidQuarrel$Cellar" "clauses" "LLaidQuarrel$Shelf;") : Cond) ∈ lw_tbl := tb_0 (List.mem_of_getElem? (i := 71) rfl)
theorem w_0_72 : ((Jvm.Cond.fieldLink "LaidQuarrel$Cellar" (20 : Nat) "LaidQuarrel$Cellar" "parts" "LLaidQuarrel$Shelf;") : Cond) ∈ lw_tbl := tb_0 (List.mem_of_getElem? (i := 72) rfl)
theorem w_0_73 : ((Jvm.Cond.fieldLink "LaidQuarrel$Cellar" (93 : Nat) "LaidQuarrel$Cellar" "place" "I") : Cond) ∈ lw_tbl := tb_0 (List.mem_of_getElem? (i := 73) rfl)
theorem w_0_74 : ((Jvm.Cond.fieldLink "LaidQuarrel$Cellar" (113 : Nat) "LaidQuarrel$Cellar" "number" "I") : Cond) ∈ lw_tbl := tb_0 (List.mem_of_getElem? (i := 74) rfl)
theorem w_0_75 : ((Jvm.Cond.laysFinal "LaidQuarrel$Cellar" "LaidQuarrel$Cellar" "text" "LLaidQuarrel$Shelf;") : Cond) ∈ lw_tbl := tb_0 (List.mem_of_getElem? (i := 75) rfl)
theorem w_0_76 : ((Jvm.Cond.soleField "LaidQuarrel$Cellar" "text") : Cond) ∈ lw_tbl := tb_0 (List.mem_of_getElem? (i := 76) rfl)
theorem w_0_77 : ((Jvm.Cond.laysFinal "LaidQuarrel$Cellar" "LaidQuarrel$Cellar" "clauses" "LLaidQuarrel$Shelf;") : Cond) ∈ lw_tbl := tb_0 (List.mem_of_getElem? (i := 77) rfl)
theorem w_0_78 : ((Jvm.Cond.soleField "LaidQuarrel$Cellar" "clauses") : Cond) ∈ lw_tbl := tb_0 (List.mem_of_getElem? (i := 78) rfl)
theorem w_0_79 : ((Jvm.Cond.laysFinal "LaidQuarrel$Cellar" "LaidQuarrel$Cellar" "parts" "LLaidQuarrel$Shelf;") : Cond) ∈ lw_tbl := tb_0 (List.mem_of_getElem? (i := 79) rfl)
theorem w_0_80 : ((Jvm.Cond.soleField "LaidQuarrel$Cellar" "parts") : Cond) ∈ lw_tbl := tb_0 (List.mem_of_getElem? (i := 80) rfl)
theorem w_0_81 : ((Jvm.Cond.lays "LaidQuarrel$Cellar" "LaidQuarrel$Cellar" "place" "I") : Cond) ∈ lw_tbl := tb_0 (List.mem_of_getElem? (i := 81) rfl)
theorem w_0_82 : ((Jvm.Cond.soleField "LaidQuarrel$Cellar" "place") : Cond) ∈ lw_tbl := tb_0 (List.mem_of_getElem? (i := 82) rfl)
theorem w_0_83 : ((Jvm.Cond.lays "LaidQuarrel$Cellar" "LaidQuarrel$Cellar" "number" "I") : Cond) ∈ lw_tbl := tb_0 (List.mem_of_getElem? (i := 83) rfl)
theorem w_0_84 : ((Jvm.Cond.soleField "LaidQuarrel$Cellar" "number") : Cond) ∈ lw_tbl := tb_0 (List.mem_of_getElem? (i := 84) rfl)
theorem w_0_85 : ((Jvm.Cond.superclass "LaidQuarrel$Cellar" "java/lang/Object") : Cond) ∈ lw_tbl := tb_0 (List.mem_of_getElem? (i := 85) rfl)
theorem w_0_86 : ((Jvm.Cond.classLink "LaidQuarrel" (56 : Nat) "java/util/ArrayList") : Cond) ∈ lw_tbl := tb_0 (List.mem_of_getElem? (i := 86) rfl)
theorem w_0_87 : ((Jvm.Cond.instantiable "java/util/ArrayList" (3 : Nat)) : Cond) ∈ lw_tbl := tb_0 (List.mem_of_getElem? (i := 87) rfl)
theorem w_0_88 : ((Jvm.Cond.methodLink "LaidQuarrel" (58 : Nat) ({ cls := "java/util/ArrayList", name := "<init>", desc := "()V" } : Jvm.MethodName)) : Cond) ∈ lw_tbl := tb_0 (List.mem_of_getElem? (i := 88) rfl)
theorem w_0_89 : ((Jvm.Cond.instanceMethod ({ cls := "java/util/ArrayList", name := "<init>", desc := "()V" } : Jvm.MethodName)) : Cond) ∈ lw_tbl := tb_0 (List.mem_of_getElem? (i := 89) rfl)
theorem w_0_90 : ((Jvm.Cond.code ({ cls := "java/util/ArrayList", name := "<init>", desc := "()V" } : Jvm.MethodName) prog_29_method_2_code (1 : Nat) (Option.none : Option Jvm.ClassFile.FieldType)) : Cond) ∈ lw_tbl := tb_0 (List.mem_of_getElem? (i := 90) rfl)
theorem w_0_91 : ((Jvm.Cond.methodLink "java/util/ArrayList" (1 : Nat) ({ cls := "java/util/AbstractList", name := "<init>", desc := "()V" } : Jvm.MethodName)) : Cond) ∈ lw_tbl := tb_0 (List.mem_of_getElem? (i := 91) rfl)
theorem w_0_92 : ((Jvm.Cond.instanceMethod ({ cls := "java/util/AbstractList", name := "<init>", desc := "()V" } : Jvm.MethodName)) : Cond) ∈ lw_tbl := tb_0 (List.mem_of_getElem? (i := 92) rfl)
theorem w_0_93 : ((Jvm.Cond.code ({ cls := "java/util/AbstractList", name := "<init>", desc := "()V" } : Jvm.MethodName) prog_28_method_1_code (1 : Nat) (Option.none : Option Jvm.ClassFile.FieldType)) : Cond) ∈ lw_tbl := tb_0 (List.mem_of_getElem? (i := 93) rfl)
theorem w_0_94 : ((Jvm.Cond.methodLink "java/util/AbstractList" (1 : Nat) ({ cls := "java/util/AbstractCollection", name := "<init>", desc := "()V" } : Jvm.MethodName)) : Cond) ∈ lw_tbl := tb_0 (List.mem_of_getElem? (i := 94) rfl)
theorem w_0_95 : ((Jvm.Cond.instanceMethod ({ cls := "java/util/AbstractCollection", name := "<init>", desc := "()V" } : Jvm.MethodName)) : Cond) ∈ lw_tbl := tb_0 (List.mem_of_getElem? (i := 95) rfl)
theorem w_0_96 : ((Jvm.Cond.code ({ cls := "java/util/AbstractCollection", name := "<init>", desc := "()V" } : Jvm.MethodName) prog_27_method_1_code (1 : Nat) (Option.none : Option Jvm.ClassFile.FieldType)) : Cond) ∈ lw_tbl := tb_0 (List.mem_of_getElem? (i := 96) rfl)
theorem w_0_97 : ((Jvm.Cond.methodLink "java/util/AbstractCollection" (1 : Nat) ({ cls := "java/lang/Object", name := "<init>", desc := "()V" } : Jvm.MethodName)) : Cond) ∈ lw_tbl := tb_0 (List.mem_of_getElem? (i := 97) rfl)
theorem w_0_98 : ((Jvm.Cond.fieldLink "java/util/ArrayList" (39 : Nat) "java/util/ArrayList" "DEFAULTCAPACITY_EMPTY_ELEMENTDATA" "[Ljava/lang/Object;") : Cond) ∈ lw_tbl := tb_0 (List.mem_of_getElem? (i := 98) rfl)
theorem w_0_99 : ((Jvm.Cond.laysStatic "java/util/ArrayList" "DEFAULTCAPACITY_EMPTY_ELEMENTDATA" "[Ljava/lang/Object;") : Cond) ∈ lw_tbl := tb_0 (List.mem_of_getElem? (i := 99) rfl)
theorem w_0_100 : ((Jvm.Cond.fieldLink "java/util/ArrayList" (9 : Nat) "java/util/ArrayList" "elementData" "[Ljava/lang/Object;") : Cond) ∈ lw_tbl := tb_0 (List.mem_of_getElem? (i := 100) rfl)
theorem w_0_101 : ((Jvm.Cond.fieldLink "java/util/ArrayList" (48 : Nat) "java/util/ArrayList" "size" "I") : Cond) ∈ lw_tbl := tb_0 (List.mem_of_getElem? (i := 101) rfl)
theorem w_0_102 : ((Jvm.Cond.fieldLink "java/util/AbstractList" (7 : Nat) "java/util/AbstractList" "modCount" "I") : Cond) ∈ lw_tbl := tb_0 (List.mem_of_getElem? (i := 102) rfl)
theorem w_0_103 : ((Jvm.Cond.fieldLink "java/util/ArrayList" (63 : Nat) "java/util/ArrayList" "modCount" "I") : Cond) ∈ lw_tbl := tb_0 (List.mem_of_getElem? (i := 103) rfl)
theorem w_0_104 : ((Jvm.Cond.sameField "java/util/ArrayList" "java/util/AbstractList" "modCount" "I") : Cond) ∈ lw_tbl := tb_0 (List.mem_of_getElem? (i := 104) rfl)
theorem w_0_105 : ((Jvm.Cond.lays "java/util/ArrayList" "java/util/ArrayList" "elementData" "[Ljava/lang/Object;") : Cond) ∈ lw_tbl := tb_0 (List.mem_of_getElem? (i := 105) rfl)
theorem w_0_106 : ((Jvm.Cond.soleField "java/util/ArrayList" "elementData") : Cond) ∈ lw_tbl := tb_0 (List.mem_of_getElem? (i := 106) rfl)
theorem w_0_107 : ((Jvm.Cond.lays "java/util/ArrayList" "java/util/ArrayList" "size" "I") : Cond) ∈ lw_tbl := tb_0 (List.mem_of_getElem? (i := 107) rfl)
theorem w_0_108 : ((Jvm.Cond.soleField "java/util/ArrayList" "size") : Cond) ∈ lw_tbl := tb_0 (List.mem_of_getElem? (i := 108) rfl)
theorem w_0_109 : ((Jvm.Cond.lays "java/util/ArrayList" "java/util/AbstractList" "modCount" "I") : Cond) ∈ lw_tbl := tb_0 (List.mem_of_getElem? (i := 109) rfl)
theorem w_0_110 : ((Jvm.Cond.soleField "java/util/AbstractList" "modCount") : Cond) ∈ lw_tbl := tb_0 (List.mem_of_getElem? (i := 110) rfl)
theorem w_0_111 : ((Jvm.Cond.superclass "java/util/ArrayList" "java/util/AbstractList") : Cond) ∈ lw_tbl := tb_0 (List.mem_of_getElem? (i := 111) rfl)
theorem w_0_112 : ((Jvm.Cond.fieldLink "LaidQuarrel" (16 : Nat) "LaidQuarrel" "tape" "LLaidQuarrel$Shelf;") : Cond) ∈ lw_tbl := tb_0 (List.mem_of_getElem? (i := 112) rfl)
theorem w_0_113 : ((Jvm.Cond.fieldLink "LaidQuarrel" (20 : Nat) "LaidQuarrel" "moods" "LLaidQuarrel$Shelf;") : Cond) ∈ lw_tbl := tb_0 (List.mem_of_getElem? (i := 113) rfl)
theorem w_0_114 : ((Jvm.Cond.fieldLink "LaidQuarrel" (23 : Nat) "LaidQuarrel" "triedMoods" "LLaidQuarrel$Shelf;") : Cond) ∈ lw_tbl := tb_0 (List.mem_of_getElem? (i := 114) rfl)
theorem w_0_115 : ((Jvm.Cond.fieldLink "LaidQuarrel" (26 : Nat) "LaidQuarrel" "seen" "LLaidQuarrel$Shelf;") : Cond) ∈ lw_tbl := tb_0 (List.mem_of_getElem? (i := 115) rfl)
theorem w_0_116 : ((Jvm.Cond.fieldLink "LaidQuarrel" (29 : Nat) "LaidQuarrel" "evenings" "LLaidQuarrel$Shelf;") : Cond) ∈ lw_tbl := tb_0 (List.mem_of_getElem? (i := 116) rfl)
theorem w_0_117 : ((Jvm.Cond.fieldLink "LaidQuarrel" (32 : Nat) "LaidQuarrel" "books" "LLaidQuarrel$Shelf;") : Cond) ∈ lw_tbl := tb_0 (List.mem_of_getElem? (i := 117) rfl)
theorem w_0_118 : ((Jvm.Cond.fieldLink "LaidQuarrel" (35 : Nat) "LaidQuarrel" "bodies" "LLaidQuarrel$Shelf;") : Cond) ∈ lw_tbl := tb_0 (List.mem_of_getElem? (i := 118) rfl)
theorem w_0_119 : ((Jvm.Cond.fieldLink "LaidQuarrel" (38 : Nat) "LaidQuarrel" "said" "LLaidQuarrel$Shelf;") : Cond) ∈ lw_tbl := tb_0 (List.mem_of_getElem? (i := 119) rfl)
theorem w_0_120 : ((Jvm.Cond.fieldLink "LaidQuarrel" (41 : Nat) "LaidQuarrel" "mostPairs" "LLaidQuarrel$Shelf;") : Cond) ∈ lw_tbl := tb_0 (List.mem_of_getElem? (i := 120) rfl)
theorem w_0_121 : ((Jvm.Cond.fieldLink "LaidQuarrel" (49 : Nat) "LaidQuarrel" "held" "LLaidQuarrel$Cellar;") : Cond) ∈ lw_tbl := tb_0 (List.mem_of_getElem? (i := 121) rfl)
theorem w_0_122 : ((Jvm.Cond.fieldLink "LaidQuarrel" (53 : Nat) "LaidQuarrel" "fresh" "LLaidQuarrel$Cellar;") : Cond) ∈ lw_tbl := tb_0 (List.mem_of_getElem? (i := 122) rfl)
theorem w_0_123 : ((Jvm.Cond.fieldLink "LaidQuarrel" (59 : Nat) "LaidQuarrel" "bottles" "Ljava/util/List;") : Cond) ∈ lw_tbl := tb_0 (List.mem_of_getElem? (i := 123) rfl)
theorem w_0_124 : ((Jvm.Cond.fieldLink "LaidQuarrel" (75 : Nat) "LaidQuarrel" "cellars" "I") : Cond) ∈ lw_tbl := tb_0 (List.mem_of_getElem? (i := 124) rfl)
theorem w_0_125 : ((Jvm.Cond.fieldLink "LaidQuarrel" (158 : Nat) "LaidQuarrel" "year" "I") : Cond) ∈ lw_tbl := tb_0 (List.mem_of_getElem? (i := 125) rfl)
theorem w_0_126 : ((Jvm.Cond.fieldLink "LaidQuarrel" (63 : Nat) "LaidQuarrel" "keptBottles" "I") : Cond) ∈ lw_tbl := tb_0 (List.mem_of_getElem? (i := 126) rfl)
theorem w_0_127 : ((Jvm.Cond.fieldLink "LaidQuarrel" (272 : Nat) "LaidQuarrel" "keptCellars" "I") : Cond) ∈ lw_tbl := tb_0 (List.mem_of_getElem? (i := 127) rfl)
theorem w_0_128 : ((Jvm.Cond.fieldLink "LaidQuarrel" (275 : Nat) "LaidQuarrel" "keptYear" "I") : Cond) ∈ lw_tbl := tb_0 (List.mem_of_getElem? (i := 128) rfl)
theorem w_0_129 : ((Jvm.Cond.laysFinal "LaidQuarrel" "LaidQuarrel" "tape" "LLaidQuarrel$Shelf;") : Cond) ∈ lw_tbl := tb_0 (List.mem_of_getElem? (i := 129) rfl)
theorem w_0_130 : ((Jvm.Cond.soleField "LaidQuarrel" "tape") : Cond) ∈ lw_tbl := tb_0 (List.mem_of_getElem? (i := 130) rfl)
theorem w_0_131 : ((Jvm.Cond.laysFinal "LaidQuarrel" "LaidQuarrel" "moods" "LLaidQuarrel$Shelf;") : Cond) ∈ lw_tbl := tb_0 (List.mem_of_getElem? (i := 131) rfl)
theorem w_0_132 : ((Jvm.Cond.soleField "LaidQuarrel" "moods") : Cond) ∈ lw_tbl := tb_0 (List.mem_of_getElem? (i := 132) rfl)
theorem w_0_133 : ((Jvm.Cond.laysFinal "LaidQuarrel" "LaidQuarrel" "triedMoods" "LLaidQuarrel$Shelf;") : Cond) ∈ lw_tbl := tb_0 (List.mem_of_getElem? (i := 133) rfl)
theorem w_0_134 : ((Jvm.Cond.soleField "LaidQuarrel" "triedMoods") : Cond) ∈ lw_tbl := tb_0 (List.mem_of_getElem? (i := 134) rfl)
theorem w_0_135 : ((Jvm.Cond.laysFinal "LaidQuarrel" "LaidQuarrel" "seen" "LLaidQuarrel$Shelf;") : Cond) ∈ lw_tbl := tb_0 (List.mem_of_getElem? (i := 135) rfl)
theorem w_0_136 : ((Jvm.Cond.soleField "LaidQuarrel" "seen") : Cond) ∈ lw_tbl := tb_0 (List.mem_of_getElem? (i := 136) rfl)
theorem w_0_137 : ((Jvm.Cond.laysFinal "LaidQuarrel" "LaidQuarrel" "evenings" "LLaidQuarrel$Shelf;") : Cond) ∈ lw_tbl := tb_0 (List.mem_of_getElem? (i := 137) rfl)
theorem w_0_138 : ((Jvm.Cond.soleField "LaidQuarrel" "evenings") : Cond) ∈ lw_tbl := tb_0 (List.mem_of_getElem? (i := 138) rfl)
theorem w_0_139 : ((Jvm.Cond.laysFinal "LaidQuarrel" "LaidQuarrel" "books" "LLaidQuarrel$Shelf;") : Cond) ∈ lw_tbl := tb_0 (List.mem_of_getElem? (i := 139) rfl)
theorem w_0_140 : ((Jvm.Cond.soleField "LaidQuarrel" "books") : Cond) ∈ lw_tbl := tb_0 (List.mem_of_getElem? (i := 140) rfl)
theorem w_0_141 : ((Jvm.Cond.laysFinal "LaidQuarrel" "LaidQuarrel" "bodies" "LLaidQuarrel$Shelf;") : Cond) ∈ lw_tbl := tb_0 (List.mem_of_getElem? (i := 141) rfl)
theorem w_0_142 : ((Jvm.Cond.soleField "LaidQuarrel" "bodies") : Cond) ∈ lw_tbl := tb_0 (List.mem_of_getElem? (i := 142) rfl)
theorem w_0_143 : ((Jvm.Cond.laysFinal "LaidQuarrel" "LaidQuarrel" "said" "LLaidQuarrel$Shelf;") : Cond) ∈ lw_tbl := tb_0 (List.mem_of_getElem? (i := 143) rfl)
theorem w_0_144 : ((Jvm.Cond.soleField "LaidQuarrel" "said") : Cond) ∈ lw_tbl := tb_0 (List.mem_of_getElem? (i := 144) rfl)
theorem w_0_145 : ((Jvm.Cond.laysFinal "LaidQuarrel" "LaidQuarrel" "mostPairs" "LLaidQuarrel$Shelf;") : Cond) ∈ lw_tbl := tb_0 (List.mem_of_getElem? (i := 145) rfl)
theorem w_0_146 : ((Jvm.Cond.soleField "LaidQuarrel" "mostPairs") : Cond) ∈ lw_tbl := tb_0 (List.mem_of_getElem? (i := 146) rfl)
theorem w_0_147 : ((Jvm.Cond.laysFinal "LaidQuarrel" "LaidQuarrel" "held" "LLaidQuarrel$Cellar;") : Cond) ∈ lw_tbl := tb_0 (List.mem_of_getElem? (i := 147) rfl)
theorem w_0_148 : ((Jvm.Cond.soleField "LaidQuarrel" "held") : Cond) ∈ lw_tbl := tb_0 (List.mem_of_getElem? (i := 148) rfl)
theorem w_0_149 : ((Jvm.Cond.laysFinal "LaidQuarrel" "LaidQuarrel" "fresh" "LLaidQuarrel$Cellar;") : Cond) ∈ lw_tbl := tb_0 (List.mem_of_getElem? (i := 149) rfl)
theorem w_0_150 : ((Jvm.Cond.soleField "LaidQuarrel" "fresh") : Cond) ∈ lw_tbl := tb_0 (List.mem_of_getElem? (i := 150) rfl)
theorem w_0_151 : ((Jvm.Cond.laysFinal "LaidQuarrel" "LaidQuarrel" "bottles" "Ljava/util/List;") : Cond) ∈ lw_tbl := tb_0 (List.mem_of_getElem? (i := 151) rfl)
theorem w_0_152 : ((Jvm.Cond.soleField "LaidQuarrel" "bottles") : Cond) ∈ lw_tbl := tb_0 (List.mem_of_getElem? (i := 152) rfl)
theorem w_0_153 : ((Jvm.Cond.lays "LaidQuarrel" "LaidQuarrel" "cellars" "I") : Cond) ∈ lw_tbl := tb_0 (List.mem_of_getElem? (i := 153) rfl)
theorem w_0_154 : ((Jvm.Cond.soleField "LaidQuarrel" "cellars") : Cond) ∈ lw_tbl := tb_0 (List.mem_of_getElem? (i := 154) rfl)
theorem w_0_155 : ((Jvm.Cond.lays "LaidQuarrel" "LaidQuarrel" "year" "I") : Cond) ∈ lw_tbl := tb_0 (List.mem_of_getElem? (i := 155) rfl)
theorem w_0_156 : ((Jvm.Cond.soleField "LaidQuarrel" "year") : Cond) ∈ lw_tbl := tb_0 (List.mem_of_getElem? (i := 156) rfl)
theorem w_0_157 : ((Jvm.Cond.lays "LaidQuarrel" "LaidQuarrel" "keptBottles" "I") : Cond) ∈ lw_tbl := tb_0 (List.mem_of_getElem? (i := 157) rfl)
theorem w_0_158 : ((Jvm.Cond.soleField "LaidQuarrel" "keptBottles") : Cond) ∈ lw_tbl := tb_0 (List.mem_of_getElem? (i := 158) rfl)
theorem w_0_159 : ((Jvm.Cond.lays "LaidQuarrel" "LaidQuarrel" "keptCellars" "I") : Cond) ∈ lw_tbl := tb_0 (List.mem_of_getElem? (i := 159) rfl)
theorem w_0_160 : ((Jvm.Cond.soleField "LaidQuarrel" "keptCellars") : Cond) ∈ lw_tbl := tb_0 (List.mem_of_getElem? (i := 160) rfl)
theorem w_0_161 : ((Jvm.Cond.lays "LaidQuarrel" "LaidQuarrel" "keptYear" "I") : Cond) ∈ lw_tbl := tb_0 (List.mem_of_getElem? (i := 161) rfl)
theorem w_0_162 : ((Jvm.Cond.soleField "LaidQuarrel" "keptYear") : Cond) ∈ lw_tbl := tb_0 (List.mem_of_getElem? (i := 162) rfl)
theorem w_0_163 : ((Jvm.Cond.superclass "LaidQuarrel" "java/lang/Object") : Cond) ∈ lw_tbl := tb_0 (List.mem_of_getElem? (i := 163) rfl)
theorem w_0_164 : ((Jvm.Cond.methodLink "LaidQuarrelLaw" (13 : Nat) ({ cls := "LaidQuarrel", name := "feed", desc := "(I)I" } : Jvm.MethodName)) : Cond) ∈ lw_tbl := tb_0 (List.mem_of_getElem? (i := 164) rfl)
theorem w_0_165 : ((Jvm.Cond.instanceMethod ({ cls := "LaidQuarrel", name := "feed", desc := "(I)I" } : Jvm.MethodName)) : Cond) ∈ lw_tbl := tb_0 (List.mem_of_getElem? (i := 165) rfl)
theorem w_0_166 : ((Jvm.Cond.selects "LaidQuarrel" ({ cls := "LaidQuarrel", name := "feed", desc := "(I)I" } : Jvm.MethodName) ({ cls := "LaidQuarrel", name := "feed", desc := "(I)I" } : Jvm.MethodName)) : Cond) ∈ lw_tbl := tb_0 (List.mem_of_getElem? (i := 166) rfl)
theorem w_0_167 : ((Jvm.Cond.code ({ cls := "LaidQuarrel", name := "feed", desc := "(I)I" } : Jvm.MethodName) prog_1_method_2_code (2 : Nat) (Option.some Jvm.ClassFile.FieldType.int)) : Cond) ∈ lw_tbl := tb_0 (List.mem_of_getElem? (i := 167) rfl)
theorem w_0_168 : ((Jvm.Cond.methodLink "LaidQuarrel" (67 : Nat) ({ cls := "LaidQuarrel", name := "within", desc := "(III)Z" } : Jvm.MethodName)) : Cond) ∈ lw_tbl := tb_0 (List.mem_of_getElem? (i := 168) rfl)
theorem w_0_169 : ((Jvm.Cond.static ({ cls := "LaidQuarrel", name := "within", desc := "(III)Z" } : Jvm.MethodName)) : Cond) ∈ lw_tbl := tb_0 (List.mem_of_getElem? (i := 169) rfl)
theorem w_0_170 : ((Jvm.Cond.code ({ cls := "LaidQuarrel", name := "within", desc := "(III)Z" } : Jvm.MethodName) prog_1_method_39_code (3 : Nat) (Option.some Jvm.ClassFile.FieldType.boolean)) : Cond) ∈ lw_tbl := tb_0 (List.mem_of_getElem? (i := 170) rfl)
theorem w_0_171 : ((Jvm.Cond.methodLink "LaidQuarrel" (71 : Nat) ({ cls := "LaidQuarrel", name := "added", desc := "(LLaidQuarrel$Shelf;III)I" } : Jvm.MethodName)) : Cond) ∈ lw_tbl := tb_0 (List.mem_of_getElem? (i := 171) rfl)
theorem w_0_172 : ((Jvm.Cond.static ({ cls := "LaidQuarrel", name := "added", desc := "(LLaidQuarrel$Shelf;III)I" } : Jvm.MethodName)) : Cond) ∈ lw_tbl := tb_0 (List.mem_of_getElem? (i := 172) rfl)
theorem w_0_173 : ((Jvm.Cond.code ({ cls := "LaidQuarrel", name := "added", desc := "(LLaidQuarrel$Shelf;III)I" } : Jvm.MethodName) prog_1_method_44_code (4 : Nat) (Option.some Jvm.ClassFile.FieldType.int)) : Cond) ∈ lw_tbl := tb_0 (List.mem_of_getElem? (i := 173) rfl)
theorem w_0_174 : ((Jvm.Cond.methodLink "LaidQuarrel" (119 : Nat) ({ cls := "LaidQuarrel$Shelf", name := "add", desc := "(III)Z" } : Jvm.MethodName)) : Cond) ∈ lw_tbl := tb_0 (List.mem_of_getElem? (i := 174) rfl)
theorem w_0_175 : ((Jvm.Cond.instanceMethod ({ cls := "LaidQuarrel$Shelf", name := "add", desc := "(III)Z" } : Jvm.MethodName)) : Cond) ∈ lw_tbl := tb_0 (List.mem_of_getElem? (i := 175) rfl)
theorem w_0_176 : ((Jvm.Cond.selects "LaidQuarrel$Shelf" ({ cls := "LaidQuarrel$Shelf", name := "add", desc := "(III)Z" } : Jvm.MethodName) ({ cls := "LaidQuarrel$Shelf", name := "add", desc := "(III)Z" } : Jvm.MethodName)) : Cond) ∈ lw_tbl := tb_0 (List.mem_of_getElem? (i := 176) rfl)
theorem w_0_177 : ((Jvm.Cond.code ({ cls := "LaidQuarrel$Shelf", name := "add", desc := "(III)Z" } : Jvm.MethodName) prog_9_method_2_code (6 : Nat) (Option.some Jvm.ClassFile.FieldType.boolean)) : Cond) ∈ lw_tbl := tb_0 (List.mem_of_getElem? (i := 177) rfl)
theorem w_0_178 : ((Jvm.Cond.methodLink "LaidQuarrelLaw" (18 : Nat) ({ cls := "LaidQuarrel", name := "cellar", desc := "()I" } : Jvm.MethodName)) : Cond) ∈ lw_tbl := tb_0 (List.mem_of_getElem? (i := 178) rfl)
theorem w_0_179 : ((Jvm.Cond.instanceMethod ({ cls := "LaidQuarrel", name := "cellar", desc := "()I" } : Jvm.MethodName)) : Cond) ∈ lw_tbl := tb_0 (List.mem_of_getElem? (i := 179) rfl)
theorem w_0_180 : ((Jvm.Cond.selects "LaidQuarrel" ({ cls := "LaidQuarrel", name := "cellar", desc := "()I" } : Jvm.MethodName) ({ cls := "LaidQuarrel", name := "cellar", desc := "()I" } : Jvm.MethodName)) : Cond) ∈ lw_tbl := tb_0 (List.mem_of_getElem? (i := 180) rfl)
theorem w_0_181 : ((Jvm.Cond.code ({ cls := "LaidQuarrel", name := "cellar", desc := "()I" } : Jvm.MethodName) prog_1_method_3_code (2 : Nat) (Option.some Jvm.ClassFile.FieldType.int)) : Cond) ∈ lw_tbl := tb_0 (List.mem_of_getElem? (i := 181) rfl)
theorem w_0_182 : ((Jvm.Cond.methodLink "LaidQuarrel" (78 : Nat) ({ cls := "LaidQuarrel$Cellar", name := "readText", desc := "()I" } : Jvm.MethodName)) : Cond) ∈ lw_tbl := tb_0 (List.mem_of_getElem? (i := 182) rfl)
theorem w_0_183 : ((Jvm.Cond.instanceMethod ({ cls := "LaidQuarrel$Cellar", name := "readText", desc := "()I" } : Jvm.MethodName)) : Cond) ∈ lw_tbl := tb_0 (List.mem_of_getElem? (i := 183) rfl)
theorem w_0_184 : ((Jvm.Cond.selects "LaidQuarrel$Cellar" ({ cls := "LaidQuarrel$Cellar", name := "readText", desc := "()I" } : Jvm.MethodName) ({ cls := "LaidQuarrel$Cellar", name := "readText", desc := "()I" } : Jvm.MethodName)) : Cond) ∈ lw_tbl := tb_0 (List.mem_of_getElem? (i := 184) rfl)
theorem w_0_185 : ((Jvm.Cond.code ({ cls := "LaidQuarrel$Cellar", name := "readText", desc := "()I" } : Jvm.MethodName) prog_3_method_12_code (2 : Nat) (Option.some Jvm.ClassFile.FieldType.int)) : Cond) ∈ lw_tbl := tb_0 (List.mem_of_getElem? (i := 185) rfl)
theorem w_0_186 : ((Jvm.Cond.methodLink "LaidQuarrel$Cellar" (90 : Nat) ({ cls := "LaidQuarrel$Shelf", name := "clear", desc := "()V" } : Jvm.MethodName)) : Cond) ∈ lw_tbl := tb_0 (List.mem_of_getElem? (i := 186) rfl)
theorem w_0_187 : ((Jvm.Cond.instanceMethod ({ cls := "LaidQuarrel$Shelf", name := "clear", desc := "()V" } : Jvm.MethodName)) : Cond) ∈ lw_tbl := tb_0 (List.mem_of_getElem? (i := 187) rfl)
theorem w_0_188 : ((Jvm.Cond.selects "LaidQuarrel$Shelf" ({ cls := "LaidQuarrel$Shelf", name := "clear", desc := "()V" } : Jvm.MethodName) ({ cls := "LaidQuarrel$Shelf", name := "clear", desc := "()V" } : Jvm.MethodName)) : Cond) ∈ lw_tbl := tb_0 (List.mem_of_getElem? (i := 188) rfl)
theorem w_0_189 : ((Jvm.Cond.code ({ cls := "LaidQuarrel$Shelf", name := "clear", desc := "()V" } : Jvm.MethodName) prog_9_method_5_code (1 : Nat) (Option.none : Option Jvm.ClassFile.FieldType)) : Cond) ∈ lw_tbl := tb_0 (List.mem_of_getElem? (i := 189) rfl)
theorem w_0_190 : ((Jvm.Cond.methodLink "LaidQuarrel$Cellar" (96 : Nat) ({ cls := "LaidQuarrel$Cellar", name := "readClause", desc := "()Z" } : Jvm.MethodName)) : Cond) ∈ lw_tbl := tb_0 (List.mem_of_getElem? (i := 190) rfl)
theorem w_0_191 : ((Jvm.Cond.privateMethod ({ cls := "LaidQuarrel$Cellar", name := "readClause", desc := "()Z" } : Jvm.MethodName)) : Cond) ∈ lw_tbl := tb_0 (List.mem_of_getElem? (i := 191) rfl)
theorem w_0_192 : ((Jvm.Cond.instanceMethod ({ cls := "LaidQuarrel$Cellar", name := "readClause", desc := "()Z" } : Jvm.MethodName)) : Cond) ∈ lw_tbl := tb_0 (List.mem_of_getElem? (i := 192) rfl)
theorem w_0_193 : ((Jvm.Cond.code ({ cls := "LaidQuarrel$Cellar", name := "readClause", desc := "()Z" } : Jvm.MethodName) prog_3_method_13_code (3 : Nat) (Option.some Jvm.ClassFile.FieldType.boolean)) : Cond) ∈ lw_tbl := tb_0 (List.mem_of_getElem? (i := 193) rfl)
theorem w_0_194 : ((Jvm.Cond.methodLink "LaidQuarrel$Cellar" (100 : Nat) ({ cls := "LaidQuarrel$Cellar", name := "takes", desc := "(I)Z" } : Jvm.MethodName)) : Cond) ∈ lw_tbl := tb_0 (List.mem_of_getElem? (i := 194) rfl)
theorem w_0_195 : ((Jvm.Cond.privateMethod ({ cls := "LaidQuarrel$Cellar", name := "takes", desc := "(I)Z" } : Jvm.MethodName)) : Cond) ∈ lw_tbl := tb_0 (List.mem_of_getElem? (i := 195) rfl)
theorem w_0_196 : ((Jvm.Cond.instanceMethod ({ cls := "LaidQuarrel$Cellar", name := "takes", desc := "(I)Z" } : Jvm.MethodName)) : Cond) ∈ lw_tbl := tb_0 (List.mem_of_getElem? (i := 196) rfl)
theorem w_0_197 : ((Jvm.Cond.code ({ cls := "LaidQuarrel$Cellar", name := "takes", desc := "(I)Z" } : Jvm.MethodName) prog_3_method_21_code (2 : Nat) (Option.some Jvm.ClassFile.FieldType.boolean)) : Cond) ∈ lw_tbl := tb_0 (List.mem_of_getElem? (i := 197) rfl)
theorem w_0_198 : ((Jvm.Cond.methodLink "LaidQuarrel$Cellar" (44 : Nat) ({ cls := "LaidQuarrel$Shelf", name := "at", desc := "(II)I" } : Jvm.MethodName)) : Cond) ∈ lw_tbl := tb_0 (List.mem_of_getElem? (i := 198) rfl)
theorem w_0_199 : ((Jvm.Cond.instanceMethod ({ cls := "LaidQuarrel$Shelf", name := "at", desc := "(II)I" } : Jvm.MethodName)) : Cond) ∈ lw_tbl := tb_0 (List.mem_of_getElem? (i := 199) rfl)
theorem w_0_200 : ((Jvm.Cond.selects "LaidQuarrel$Shelf" ({ cls := "LaidQuarrel$Shelf", name := "at", desc := "(II)I" } : Jvm.MethodName) ({ cls := "LaidQuarrel$Shelf", name := "at", desc := "(II)I" } : Jvm.MethodName)) : Cond) ∈ lw_tbl := tb_0 (List.mem_of_getElem? (i := 200) rfl)
theorem w_0_201 : ((Jvm.Cond.code ({ cls := "LaidQuarrel$Shelf", name := "at", desc := "(II)I" } : Jvm.MethodName) prog_9_method_3_code (4 : Nat) (Option.some Jvm.ClassFile.FieldType.int)) : Cond) ∈ lw_tbl := tb_0 (List.mem_of_getElem? (i := 201) rfl)
theorem w_0_202 : ((Jvm.Cond.stringRef "LaidQuarrel$Cellar" (104 : Nat) "alm ") : Cond) ∈ lw_tbl := tb_0 (List.mem_of_getElem? (i := 202) rfl)
theorem w_0_203 : ((Jvm.Cond.methodLink "LaidQuarrel$Cellar" (106 : Nat) ({ cls := "LaidQuarrel$Cellar", name := "takesAll", desc := "(Ljava/lang/String;)Z" } : Jvm.MethodName)) : Cond) ∈ lw_tbl := tb_0 (List.mem_of_getElem? (i := 203) rfl)
theorem w_0_204 : ((Jvm.Cond.privateMethod ({ cls := "LaidQuarrel$Cellar", name := "takesAll", desc := "(Ljava/lang/String;)Z" } : Jvm.MethodName)) : Cond) ∈ lw_tbl := tb_0 (List.mem_of_getElem? (i := 204) rfl)
theorem w_0_205 : ((Jvm.Cond.instanceMethod ({ cls := "LaidQuarrel$Cellar", name := "takesAll", desc := "(Ljava/lang/String;)Z" } : Jvm.MethodName)) : Cond) ∈ lw_tbl := tb_0 (List.mem_of_getElem? (i := 205) rfl)
theorem w_0_206 : ((Jvm.Cond.code ({ cls := "LaidQuarrel$Cellar", name := "takesAll", desc := "(Ljava/lang/String;)Z" } : Jvm.MethodName) prog_3_method_22_code (3 : Nat) (Option.some Jvm.ClassFile.FieldType.boolean)) : Cond) ∈ lw_tbl := tb_0 (List.mem_of_getElem? (i := 206) rfl)
theorem w_0_207 : ((Jvm.Cond.methodLink "LaidQuarrel$Cellar" (146 : Nat) ({ cls := "java/lang/String", name := "length", desc := "()I" } : Jvm.MethodName)) : Cond) ∈ lw_tbl := tb_0 (List.mem_of_getElem? (i := 207) rfl)
theorem w_0_208 : ((Jvm.Cond.instanceMethod ({ cls := "java/lang/String", name := "length", desc := "()I" } : Jvm.MethodName)) : Cond) ∈ lw_tbl := tb_0 (List.mem_of_getElem? (i := 208) rfl)
theorem w_0_209 : ((Jvm.Cond.selects "java/lang/String" ({ cls := "java/lang/String", name := "length", desc := "()I" } : Jvm.MethodName) ({ cls := "java/lang/String", name := "length", desc := "()I" } : Jvm.MethodName)) : Cond) ∈ lw_tbl := tb_0 (List.mem_of_getElem? (i := 209) rfl)
theorem w_0_210 : ((Jvm.Cond.code ({ cls := "java/lang/String", name := "length", desc := "()I" } : Jvm.MethodName) prog_21_method_54_code (1 : Nat) (Option.some Jvm.ClassFile.FieldType.int)) : Cond) ∈ lw_tbl := tb_0 (List.mem_of_getElem? (i := 210) rfl)
theorem w_0_211 : ((Jvm.Cond.methodLink "java/lang/String" (335 : Nat) ({ cls := "java/lang/String", name := "coder", desc := "()B" } : Jvm.MethodName)) : Cond) ∈ lw_tbl := tb_0 (List.mem_of_getElem? (i := 211) rfl)
theorem w_0_212 : ((Jvm.Cond.instanceMethod ({ cls := "java/lang/String", name := "coder", desc := "()B" } : Jvm.MethodName)) : Cond) ∈ lw_tbl := tb_0 (List.mem_of_getElem? (i := 212) rfl)
theorem w_0_213 : ((Jvm.Cond.selects "java/lang/String" ({ cls := "java/lang/String", name := "coder", desc := "()B" } : Jvm.MethodName) ({ cls := "java/lang/String", name := "coder", desc := "()B" } : Jvm.MethodName)) : Cond) ∈ lw_tbl := tb_0 (List.mem_of_getElem? (i := 213) rfl)
theorem w_0_214 : ((Jvm.Cond.code ({ cls := "java/lang/String", name := "coder", desc := "()B" } : Jvm.MethodName) prog_21_method_152_code (1 : Nat) (Option.some Jvm.ClassFile.FieldType.byte)) : Cond) ∈ lw_tbl := tb_0 (List.mem_of_getElem? (i := 214) rfl)
theorem w_0_215 : ((Jvm.Cond.fieldLink "java/lang/String" (38 : Nat) "java/lang/String" "COMPACT_STRINGS" "Z") : Cond) ∈ lw_tbl := tb_0 (List.mem_of_getElem? (i := 215) rfl)
theorem w_0_216 : ((Jvm.Cond.laysStatic "java/lang/String" "COMPACT_STRINGS" "Z") : Cond) ∈ lw_tbl := tb_0 (List.mem_of_getElem? (i := 216) rfl)
theorem w_0_217 : ((Jvm.Cond.methodLink "LaidQuarrel$Cellar" (152 : Nat) ({ cls := "java/lang/String", name := "charAt", desc := "(I)C" } : Jvm.MethodName)) : Cond) ∈ lw_tbl := tb_0 (List.mem_of_getElem? (i := 217) rfl)
theorem w_0_218 : ((Jvm.Cond.instanceMethod ({ cls := "java/lang/String", name := "charAt", desc := "(I)C" } : Jvm.MethodName)) : Cond) ∈ lw_tbl := tb_0 (List.mem_of_getElem? (i := 218) rfl)
theorem w_0_219 : ((Jvm.Cond.selects "java/lang/String" ({ cls := "java/lang/String", name := "charAt", desc := "(I)C" } : Jvm.MethodName) ({ cls := "java/lang/String", name := "charAt", desc := "(I)C" } : Jvm.MethodName)) : Cond) ∈ lw_tbl := tb_0 (List.mem_of_getElem? (i := 219) rfl)
theorem w_0_220 : ((Jvm.Cond.code ({ cls := "java/lang/String", name := "charAt", desc := "(I)C" } : Jvm.MethodName) prog_21_method_56_code (2 : Nat) (Option.some Jvm.ClassFile.FieldType.char)) : Cond) ∈ lw_tbl := tb_0 (List.mem_of_getElem? (i := 220) rfl)
theorem w_0_221 : ((Jvm.Cond.methodLink "java/lang/String" (492 : Nat) ({ cls := "java/lang/String", name := "isLatin1", desc := "()Z" } : Jvm.MethodName)) : Cond) ∈ lw_tbl := tb_0 (List.mem_of_getElem? (i := 221) rfl)
theorem w_0_222 : ((Jvm.Cond.instanceMethod ({ cls := "java/lang/String", name := "isLatin1", desc := "()Z" } : Jvm.MethodName)) : Cond) ∈ lw_tbl := tb_0 (List.mem_of_getElem? (i := 222) rfl)
theorem w_0_223 : ((Jvm.Cond.selects "java/lang/String" ({ cls := "java/lang/String", name := "isLatin1", desc := "()Z" } : Jvm.MethodName) ({ cls := "java/lang/String", name := "isLatin1", desc := "()Z" } : Jvm.MethodName)) : Cond) ∈ lw_tbl := tb_0 (List.mem_of_getElem? (i := 223) rfl)
theorem w_0_224 : ((Jvm.Cond.code ({ cls := "java/lang/String", name := "isLatin1", desc := "()Z" } : Jvm.MethodName) prog_21_method_154_code (1 : Nat) (Option.some Jvm.ClassFile.FieldType.boolean)) : Cond) ∈ lw_tbl := tb_0 (List.mem_of_getElem? (i := 224) rfl)
theorem w_0_225 : ((Jvm.Cond.methodLink "java/lang/String" (495 : Nat) ({ cls := "java/lang/StringLatin1", name := "charAt", desc := "([BI)C" } : Jvm.MethodName)) : Cond) ∈ lw_tbl := tb_0 (List.mem_of_getElem? (i := 225) rfl)
theorem w_0_226 : ((Jvm.Cond.static ({ cls := "java/lang/StringLatin1", name := "charAt", desc := "([BI)C" } : Jvm.MethodName)) : Cond) ∈ lw_tbl := tb_0 (List.mem_of_getElem? (i := 226) rfl)
theorem w_0_227 : ((Jvm.Cond.code ({ cls := "java/lang/StringLatin1", name := "charAt", desc := "([BI)C" } : Jvm.MethodName) prog_22_method_2_code (2 : Nat) (Option.some Jvm.ClassFile.FieldType.char)) : Cond) ∈ lw_tbl := tb_0 (List.mem_of_getElem? (i := 227) rfl)
theorem w_0_228 : ((Jvm.Cond.methodLink "java/lang/StringLatin1" (9 : Nat) ({ cls := "java/lang/String", name := "checkIndex", desc := "(II)V" } : Jvm.MethodName)) : Cond) ∈ lw_tbl := tb_0 (List.mem_of_getElem? (i := 228) rfl)
theorem w_0_229 : ((Jvm.Cond.static ({ cls := "java/lang/String", name := "checkIndex", desc := "(II)V" } : Jvm.MethodName)) : Cond) ∈ lw_tbl := tb_0 (List.mem_of_getElem? (i := 229) rfl)
theorem w_0_230 : ((Jvm.Cond.code ({ cls := "java/lang/String", name := "checkIndex", desc := "(II)V" } : Jvm.MethodName) prog_21_method_155_code (2 : Nat) (Option.none : Option Jvm.ClassFile.FieldType)) : Cond) ∈ lw_tbl := tb_0 (List.mem_of_getElem? (i := 230) rfl)
theorem w_0_231 : ((Jvm.Cond.fieldLink "java/lang/String" (1053 : Nat) "jdk/internal/util/Preconditions" "SIOOBE_FORMATTER" "Ljava/util/function/BiFunction;") : Cond) ∈ lw_tbl := tb_0 (List.mem_of_getElem? (i := 231) rfl)
theorem w_0_232 : ((Jvm.Cond.laysStatic "jdk/internal/util/Preconditions" "SIOOBE_FORMATTER" "Ljava/util/function/BiFunction;") : Cond) ∈ lw_tbl := tb_0 (List.mem_of_getElem? (i := 232) rfl)
theorem w_0_233 : ((Jvm.Cond.methodLink "java/lang/String" (1059 : Nat) ({ cls := "jdk/internal/util/Preconditions", name := "checkIndex", desc := "(IILjava/util/function/BiFunction;)I" } : Jvm.MethodName)) : Cond) ∈ lw_tbl := tb_0 (List.mem_of_getElem? (i := 233) rfl)
theorem w_0_234 : ((Jvm.Cond.static ({ cls := "jdk/internal/util/Preconditions", name := "checkIndex", desc := "(IILjava/util/function/BiFunction;)I" } : Jvm.MethodName)) : Cond) ∈ lw_tbl := tb_0 (List.mem_of_getElem? (i := 234) rfl)
theorem w_0_235 : ((Jvm.Cond.code ({ cls := "jdk/internal/util/Preconditions", name := "checkIndex", desc := "(IILjava/util/function/BiFunction;)I" } : Jvm.MethodName) prog_37_method_11_code (3 : Nat) (Option.some Jvm.ClassFile.FieldType.int)) : Cond) ∈ lw_tbl := tb_0 (List.mem_of_getElem? (i := 235) rfl)
theorem w_0_236 : ((Jvm.Cond.methodLink "java/lang/String" (498 : Nat) ({ cls := "java/lang/StringUTF16", name := "charAt", desc := "([BI)C" } : Jvm.MethodName)) : Cond) ∈ lw_tbl := tb_0 (List.mem_of_getElem? (i := 236) rfl)
theorem w_0_237 : ((Jvm.Cond.static ({ cls := "java/lang/StringUTF16", name := "charAt", desc := "([BI)C" } : Jvm.MethodName)) : Cond) ∈ lw_tbl := tb_0 (List.mem_of_getElem? (i := 237) rfl)
theorem w_0_238 : ((Jvm.Cond.code ({ cls := "java/lang/StringUTF16", name := "charAt", desc := "([BI)C" } : Jvm.MethodName) prog_23_method_83_code (2 : Nat) (Option.some Jvm.ClassFile.FieldType.char)) : Cond) ∈ lw_tbl := tb_0 (List.mem_of_getElem? (i := 238) rfl)
theorem w_0_239 : ((Jvm.Cond.methodLink "java/lang/StringUTF16" (67 : Nat) ({ cls := "java/lang/StringUTF16", name := "checkIndex", desc := "(I[B)V" } : Jvm.MethodName)) : Cond) ∈ lw_tbl := tb_0 (List.mem_of_getElem? (i := 239) rfl)
theorem w_1_0 : ((Jvm.Cond.static ({ cls := "java/lang/StringUTF16", name := "checkIndex", desc := "(I[B)V" } : Jvm.MethodName)) : Cond) ∈ lw_tbl := tb_1 (List.mem_of_getElem? (i := 0) rfl)
theorem w_1_1 : ((Jvm.Cond.code ({ cls := "java/lang/StringUTF16", name := "checkIndex", desc := "(I[B)V" } : Jvm.MethodName) prog_23_method_91_code (2 : Nat) (Option.none : Option Jvm.ClassFile.FieldType)) : Cond) ∈ lw_tbl := tb_1 (List.mem_of_getElem? (i := 1) rfl)
theorem w_1_2 : ((Jvm.Cond.methodLink "java/lang/StringUTF16" (48 : Nat) ({ cls := "java/lang/StringUTF16", name := "length", desc := "([B)I" } : Jvm.MethodName)) : Cond) ∈ lw_tbl := tb_1 (List.mem_of_getElem? (i := 2) rfl)
theorem w_1_3 : ((Jvm.Cond.static ({ cls := "java/lang/StringUTF16", name := "length", desc := "([B)I" } : Jvm.MethodName)) : Cond) ∈ lw_tbl := tb_1 (List.mem_of_getElem? (i := 3) rfl)
theorem w_1_4 : ((Jvm.Cond.code ({ cls := "java/lang/StringUTF16", name := "length", desc := "([B)I" } : Jvm.MethodName) prog_23_method_6_code (1 : Nat) (Option.some Jvm.ClassFile.FieldType.int)) : Cond) ∈ lw_tbl := tb_1 (List.mem_of_getElem? (i := 4) rfl)
theorem w_1_5 : ((Jvm.Cond.methodLink "java/lang/StringUTF16" (414 : Nat) ({ cls := "java/lang/String", name := "checkIndex", desc := "(II)V" } : Jvm.MethodName)) : Cond) ∈ lw_tbl := tb_1 (List.mem_of_getElem? (i := 5) rfl)
theorem w_1_6 : ((Jvm.Cond.methodLink "java/lang/StringUTF16" (71 : Nat) ({ cls := "java/lang/StringUTF16", name := "getChar", desc := "([BI)C" } : Jvm.MethodName)) : Cond) ∈ lw_tbl := tb_1 (List.mem_of_getElem? (i := 6) rfl)
theorem w_1_7 : ((Jvm.Cond.static ({ cls := "java/lang/StringUTF16", name := "getChar", desc := "([BI)C" } : Jvm.MethodName)) : Cond) ∈ lw_tbl := tb_1 (List.mem_of_getElem? (i := 7) rfl)
theorem w_1_8 : ((Jvm.Cond.code ({ cls := "java/lang/StringUTF16", name := "getChar", desc := "([BI)C" } : Jvm.MethodName) prog_23_method_5_code (2 : Nat) (Option.some Jvm.ClassFile.FieldType.char)) : Cond) ∈ lw_tbl := tb_1 (List.mem_of_getElem? (i := 8) rfl)
theorem w_1_9 : ((Jvm.Cond.fieldLink "java/lang/StringUTF16" (44 : Nat) "java/lang/StringUTF16" "$assertionsDisabled" "Z") : Cond) ∈ lw_tbl := tb_1 (List.mem_of_getElem? (i := 9) rfl)
theorem w_1_10 : ((Jvm.Cond.laysStatic "java/lang/StringUTF16" "$assertionsDisabled" "Z") : Cond) ∈ lw_tbl := tb_1 (List.mem_of_getElem? (i := 10) rfl)
theorem w_1_11 : ((Jvm.Cond.fieldLink "java/lang/StringUTF16" (59 : Nat) "java/lang/StringUTF16" "HI_BYTE_SHIFT" "I") : Cond) ∈ lw_tbl := tb_1 (List.mem_of_getElem? (i := 11) rfl)
theorem w_1_12 : ((Jvm.Cond.laysStatic "java/lang/StringUTF16" "HI_BYTE_SHIFT" "I") : Cond) ∈ lw_tbl := tb_1 (List.mem_of_getElem? (i := 12) rfl)
theorem w_1_13 : ((Jvm.Cond.fieldLink "java/lang/StringUTF16" (63 : Nat) "java/lang/StringUTF16" "LO_BYTE_SHIFT" "I") : Cond) ∈ lw_tbl := tb_1 (List.mem_of_getElem? (i := 13) rfl)
theorem w_1_14 : ((Jvm.Cond.laysStatic "java/lang/StringUTF16" "LO_BYTE_SHIFT" "I") : Cond) ∈ lw_tbl := tb_1 (List.mem_of_getElem? (i := 14) rfl)
theorem w_1_15 : ((Jvm.Cond.methodLink "LaidQuarrel$Cellar" (110 : Nat) ({ cls := "LaidQuarrel$Cellar", name := "readNumber", desc := "()Z" } : Jvm.MethodName)) : Cond) ∈ lw_tbl := tb_1 (List.mem_of_getElem? (i := 15) rfl)
theorem w_1_16 : ((Jvm.Cond.privateMethod ({ cls := "LaidQuarrel$Cellar", name := "readNumber", desc := "()Z" } : Jvm.MethodName)) : Cond) ∈ lw_tbl := tb_1 (List.mem_of_getElem? (i := 16) rfl)
theorem w_1_17 : ((Jvm.Cond.instanceMethod ({ cls := "LaidQuarrel$Cellar", name := "readNumber", desc := "()Z" } : Jvm.MethodName)) : Cond) ∈ lw_tbl := tb_1 (List.mem_of_getElem? (i := 17) rfl)
theorem w_1_18 : ((Jvm.Cond.code ({ cls := "LaidQuarrel$Cellar", name := "readNumber", desc := "()Z" } : Jvm.MethodName) prog_3_method_20_code (3 : Nat) (Option.some Jvm.ClassFile.FieldType.boolean)) : Cond) ∈ lw_tbl := tb_1 (List.mem_of_getElem? (i := 18) rfl)
theorem w_1_19 : ((Jvm.Cond.methodLinkNest "LaidQuarrel$Cellar" (143 : Nat) ({ cls := "LaidQuarrel", name := "within", desc := "(III)Z" } : Jvm.MethodName) "LaidQuarrel") : Cond) ∈ lw_tbl := tb_1 (List.mem_of_getElem? (i := 19) rfl)
theorem w_1_20 : ((Jvm.Cond.methodLink "LaidQuarrel$Cellar" (114 : Nat) ({ cls := "LaidQuarrel$Cellar", name := "addClause", desc := "(II)Z" } : Jvm.MethodName)) : Cond) ∈ lw_tbl := tb_1 (List.mem_of_getElem? (i := 20) rfl)
theorem w_1_21 : ((Jvm.Cond.privateMethod ({ cls := "LaidQuarrel$Cellar", name := "addClause", desc := "(II)Z" } : Jvm.MethodName)) : Cond) ∈ lw_tbl := tb_1 (List.mem_of_getElem? (i := 21) rfl)
theorem w_1_22 : ((Jvm.Cond.instanceMethod ({ cls := "LaidQuarrel$Cellar", name := "addClause", desc := "(II)Z" } : Jvm.MethodName)) : Cond) ∈ lw_tbl := tb_1 (List.mem_of_getElem? (i := 22) rfl)
theorem w_1_23 : ((Jvm.Cond.code ({ cls := "LaidQuarrel$Cellar", name := "addClause", desc := "(II)Z" } : Jvm.MethodName) prog_3_method_14_code (3 : Nat) (Option.some Jvm.ClassFile.FieldType.boolean)) : Cond) ∈ lw_tbl := tb_1 (List.mem_of_getElem? (i := 23) rfl)
theorem w_1_24 : ((Jvm.Cond.methodLink "LaidQuarrel$Cellar" (127 : Nat) ({ cls := "LaidQuarrel$Shelf", name := "add", desc := "(III)Z" } : Jvm.MethodName)) : Cond) ∈ lw_tbl := tb_1 (List.mem_of_getElem? (i := 24) rfl)
theorem w_1_25 : ((Jvm.Cond.stringRef "LaidQuarrel$Cellar" (118 : Nat) "eace ") : Cond) ∈ lw_tbl := tb_1 (List.mem_of_getElem? (i := 25) rfl)
theorem w_1_26 : ((Jvm.Cond.stringRef "LaidQuarrel$Cellar" (120 : Nat) "often ") : Cond) ∈ lw_tbl := tb_1 (List.mem_of_getElem? (i := 26) rfl)
theorem w_1_27 : ((Jvm.Cond.stringRef "LaidQuarrel$Cellar" (122 : Nat) "harpen ") : Cond) ∈ lw_tbl := tb_1 (List.mem_of_getElem? (i := 27) rfl)
theorem w_1_28 : ((Jvm.Cond.methodLink "LaidQuarrel$Cellar" (124 : Nat) ({ cls := "LaidQuarrel$Cellar", name := "readEither", desc := "(I)Z" } : Jvm.MethodName)) : Cond) ∈ lw_tbl := tb_1 (List.mem_of_getElem? (i := 28) rfl)
theorem w_1_29 : ((Jvm.Cond.privateMethod ({ cls := "LaidQuarrel$Cellar", name := "readEither", desc := "(I)Z" } : Jvm.MethodName)) : Cond) ∈ lw_tbl := tb_1 (List.mem_of_getElem? (i := 29) rfl)
theorem w_1_30 : ((Jvm.Cond.instanceMethod ({ cls := "LaidQuarrel$Cellar", name := "readEither", desc := "(I)Z" } : Jvm.MethodName)) : Cond) ∈ lw_tbl := tb_1 (List.mem_of_getElem? (i := 30) rfl)
theorem w_1_31 : ((Jvm.Cond.code ({ cls := "LaidQuarrel$Cellar", name := "readEither", desc := "(I)Z" } : Jvm.MethodName) prog_3_method_15_code (4 : Nat) (Option.some Jvm.ClassFile.FieldType.boolean)) : Cond) ∈ lw_tbl := tb_1 (List.mem_of_getElem? (i := 31) rfl)
theorem w_1_32 : ((Jvm.Cond.methodLink "LaidQuarrel$Cellar" (131 : Nat) ({ cls := "LaidQuarrel$Cellar", name := "readFactor", desc := "(I)Z" } : Jvm.MethodName)) : Cond) ∈ lw_tbl := tb_1 (List.mem_of_getElem? (i := 32) rfl)
theorem w_1_33 : ((Jvm.Cond.privateMethod ({ cls := "LaidQuarrel$Cellar", name := "readFactor", desc := "(I)Z" } : Jvm.MethodName)) : Cond) ∈ lw_tbl := tb_1 (List.mem_of_getElem? (i := 33) rfl)
theorem w_1_34 : ((Jvm.Cond.instanceMethod ({ cls := "LaidQuarrel$Cellar", name := "readFactor", desc := "(I)Z" } : Jvm.MethodName)) : Cond) ∈ lw_tbl := tb_1 (List.mem_of_getElem? (i := 34) rfl)
theorem w_1_35 : ((Jvm.Cond.code ({ cls := "LaidQuarrel$Cellar", name := "readFactor", desc := "(I)Z" } : Jvm.MethodName) prog_3_method_16_code (4 : Nat) (Option.some Jvm.ClassFile.FieldType.boolean)) : Cond) ∈ lw_tbl := tb_1 (List.mem_of_getElem? (i := 35) rfl)
theorem w_1_36 : ((Jvm.Cond.methodLink "LaidQuarrel$Cellar" (134 : Nat) ({ cls := "LaidQuarrel$Cellar", name := "readBracket", desc := "(I)Z" } : Jvm.MethodName)) : Cond) ∈ lw_tbl := tb_1 (List.mem_of_getElem? (i := 36) rfl)
theorem w_1_37 : ((Jvm.Cond.privateMethod ({ cls := "LaidQuarrel$Cellar", name := "readBracket", desc := "(I)Z" } : Jvm.MethodName)) : Cond) ∈ lw_tbl := tb_1 (List.mem_of_getElem? (i := 37) rfl)
theorem w_1_38 : ((Jvm.Cond.instanceMethod ({ cls := "LaidQuarrel$Cellar", name := "readBracket", desc := "(I)Z" } : Jvm.MethodName)) : Cond) ∈ lw_tbl := tb_1 (List.mem_of_getElem? (i := 38) rfl)
theorem w_1_39 : ((Jvm.Cond.code ({ cls := "LaidQuarrel$Cellar", name := "readBracket", desc := "(I)Z" } : Jvm.MethodName) prog_3_method_17_code (2 : Nat) (Option.some Jvm.ClassFile.FieldType.boolean)) : Cond) ∈ lw_tbl := tb_1 (List.mem_of_getElem? (i := 39) rfl)
theorem w_1_40 : ((Jvm.Cond.methodLink "LaidQuarrel$Cellar" (137 : Nat) ({ cls := "LaidQuarrel$Cellar", name := "readTest", desc := "()Z" } : Jvm.MethodName)) : Cond) ∈ lw_tbl := tb_1 (List.mem_of_getElem? (i := 40) rfl)
theorem w_1_41 : ((Jvm.Cond.privateMethod ({ cls := "LaidQuarrel$Cellar", name := "readTest", desc := "()Z" } : Jvm.MethodName)) : Cond) ∈ lw_tbl := tb_1 (List.mem_of_getElem? (i := 41) rfl)
theorem w_1_42 : ((Jvm.Cond.instanceMethod ({ cls := "LaidQuarrel$Cellar", name := "readTest", desc := "()Z" } : Jvm.MethodName)) : Cond) ∈ lw_tbl := tb_1 (List.mem_of_getElem? (i := 42) rfl)
theorem w_1_43 : ((Jvm.Cond.code ({ cls := "LaidQuarrel$Cellar", name := "readTest", desc := "()Z" } : Jvm.MethodName) prog_3_method_18_code (3 : Nat) (Option.some Jvm.ClassFile.FieldType.boolean)) : Cond) ∈ lw_tbl := tb_1 (List.mem_of_getElem? (i := 43) rfl)
theorem w_1_44 : ((Jvm.Cond.methodLink "LaidQuarrel$Cellar" (140 : Nat) ({ cls := "LaidQuarrel$Cellar", name := "isLetter", desc := "(I)Z" } : Jvm.MethodName)) : Cond) ∈ lw_tbl := tb_1 (List.mem_of_getElem? (i := 44) rfl)
theorem w_1_45 : ((Jvm.Cond.static ({ cls := "LaidQuarrel$Cellar", name := "isLetter", desc := "(I)Z" } : Jvm.MethodName)) : Cond) ∈ lw_tbl := tb_1 (List.mem_of_getElem? (i := 45) rfl)
theorem w_1_46 : ((Jvm.Cond.code ({ cls := "LaidQuarrel$Cellar", name := "isLetter", desc := "(I)Z" } : Jvm.MethodName) prog_3_method_19_code (1 : Nat) (Option.some Jvm.ClassFile.FieldType.boolean)) : Cond) ∈ lw_tbl := tb_1 (List.mem_of_getElem? (i := 46) rfl)
theorem w_1_47 : ((Jvm.Cond.methodLink "LaidQuarrel" (82 : Nat) ({ cls := "LaidQuarrel$Shelf", name := "clear", desc := "()V" } : Jvm.MethodName)) : Cond) ∈ lw_tbl := tb_1 (List.mem_of_getElem? (i := 47) rfl)
theorem w_1_48 : ((Jvm.Cond.methodLink "LaidQuarrel" (85 : Nat) ({ cls := "LaidQuarrel$Cellar", name := "copyFrom", desc := "(LLaidQuarrel$Cellar;)V" } : Jvm.MethodName)) : Cond) ∈ lw_tbl := tb_1 (List.mem_of_getElem? (i := 48) rfl)
theorem w_1_49 : ((Jvm.Cond.instanceMethod ({ cls := "LaidQuarrel$Cellar", name := "copyFrom", desc := "(LLaidQuarrel$Cellar;)V" } : Jvm.MethodName)) : Cond) ∈ lw_tbl := tb_1 (List.mem_of_getElem? (i := 49) rfl)
theorem w_1_50 : ((Jvm.Cond.selects "LaidQuarrel$Cellar" ({ cls := "LaidQuarrel$Cellar", name := "copyFrom", desc := "(LLaidQuarrel$Cellar;)V" } : Jvm.MethodName) ({ cls := "LaidQuarrel$Cellar", name := "copyFrom", desc := "(LLaidQuarrel$Cellar;)V" } : Jvm.MethodName)) : Cond) ∈ lw_tbl := tb_1 (List.mem_of_getElem? (i := 50) rfl)
theorem w_1_51 : ((Jvm.Cond.code ({ cls := "LaidQuarrel$Cellar", name := "copyFrom", desc := "(LLaidQuarrel$Cellar;)V" } : Jvm.MethodName) prog_3_method_2_code (2 : Nat) (Option.none : Option Jvm.ClassFile.FieldType)) : Cond) ∈ lw_tbl := tb_1 (List.mem_of_getElem? (i := 51) rfl)
theorem w_1_52 : ((Jvm.Cond.methodLink "LaidQuarrel$Cellar" (26 : Nat) ({ cls := "LaidQuarrel$Shelf", name := "copyFrom", desc := "(LLaidQuarrel$Shelf;)V" } : Jvm.MethodName)) : Cond) ∈ lw_tbl := tb_1 (List.mem_of_getElem? (i := 52) rfl)
theorem w_1_53 : ((Jvm.Cond.instanceMethod ({ cls := "LaidQuarrel$Shelf", name := "copyFrom", desc := "(LLaidQuarrel$Shelf;)V" } : Jvm.MethodName)) : Cond) ∈ lw_tbl := tb_1 (List.mem_of_getElem? (i := 53) rfl)
theorem w_1_54 : ((Jvm.Cond.selects "LaidQuarrel$Shelf" ({ cls := "LaidQuarrel$Shelf", name := "copyFrom", desc := "(LLaidQuarrel$Shelf;)V" } : Jvm.MethodName) ({ cls := "LaidQuarrel$Shelf", name := "copyFrom", desc := "(LLaidQuarrel$Shelf;)V" } : Jvm.MethodName)) : Cond) ∈ lw_tbl := tb_1 (List.mem_of_getElem? (i := 54) rfl)
theorem w_1_55 : ((Jvm.Cond.code ({ cls := "LaidQuarrel$Shelf", name := "copyFrom", desc := "(LLaidQuarrel$Shelf;)V" } : Jvm.MethodName) prog_9_method_6_code (2 : Nat) (Option.none : Option Jvm.ClassFile.FieldType)) : Cond) ∈ lw_tbl := tb_1 (List.mem_of_getElem? (i := 55) rfl)
theorem w_1_56 : ((Jvm.Cond.methodLink "LaidQuarrel$Shelf" (29 : Nat) ({ cls := "LaidQuarrel$Shelf", name := "copy", desc := "([I[I)V" } : Jvm.MethodName)) : Cond) ∈ lw_tbl := tb_1 (List.mem_of_getElem? (i := 56) rfl)
theorem w_1_57 : ((Jvm.Cond.static ({ cls := "LaidQuarrel$Shelf", name := "copy", desc := "([I[I)V" } : Jvm.MethodName)) : Cond) ∈ lw_tbl := tb_1 (List.mem_of_getElem? (i := 57) rfl)
theorem w_1_58 : ((Jvm.Cond.code ({ cls := "LaidQuarrel$Shelf", name := "copy", desc := "([I[I)V" } : Jvm.MethodName) prog_9_method_9_code (3 : Nat) (Option.none : Option Jvm.ClassFile.FieldType)) : Cond) ∈ lw_tbl := tb_1 (List.mem_of_getElem? (i := 58) rfl)
theorem w_1_59 : ((Jvm.Cond.arrayClass Jvm.ClassFile.FieldType.byte) : Cond) ∈ lw_tbl := tb_1 (List.mem_of_getElem? (i := 59) rfl)
theorem w_1_60 : ((Jvm.Cond.methodLink "LaidQuarrelLaw" (23 : Nat) ({ cls := "LaidQuarrel", name := "bottle", desc := "(III)I" } : Jvm.MethodName)) : Cond) ∈ lw_tbl := tb_1 (List.mem_of_getElem? (i := 60) rfl)
theorem w_1_61 : ((Jvm.Cond.instanceMethod ({ cls := "LaidQuarrel", name := "bottle", desc := "(III)I" } : Jvm.MethodName)) : Cond) ∈ lw_tbl := tb_1 (List.mem_of_getElem? (i := 61) rfl)
theorem w_1_62 : ((Jvm.Cond.selects "LaidQuarrel" ({ cls := "LaidQuarrel", name := "bottle", desc := "(III)I" } : Jvm.MethodName) ({ cls := "LaidQuarrel", name := "bottle", desc := "(III)I" } : Jvm.MethodName)) : Cond) ∈ lw_tbl := tb_1 (List.mem_of_getElem? (i := 62) rfl)
theorem w_1_63 : ((Jvm.Cond.code ({ cls := "LaidQuarrel", name := "bottle", desc := "(III)I" } : Jvm.MethodName) prog_1_method_4_code (5 : Nat) (Option.some Jvm.ClassFile.FieldType.int)) : Cond) ∈ lw_tbl := tb_1 (List.mem_of_getElem? (i := 63) rfl)
theorem w_1_64 : ((Jvm.Cond.interfaceEntry "LaidQuarrel" (89 : Nat)) : Cond) ∈ lw_tbl := tb_1 (List.mem_of_getElem? (i := 64) rfl)
theorem w_1_65 : ((Jvm.Cond.methodLink "LaidQuarrel" (89 : Nat) ({ cls := "java/util/List", name := "size", desc := "()I" } : Jvm.MethodName)) : Cond) ∈ lw_tbl := tb_1 (List.mem_of_getElem? (i := 65) rfl)
theorem w_1_66 : ((Jvm.Cond.interfaceMethod "java/util/List" "java/util/List" "size" "()I") : Cond) ∈ lw_tbl := tb_1 (List.mem_of_getElem? (i := 66) rfl)
theorem w_1_67 : ((Jvm.Cond.declares ({ cls := "java/util/List", name := "size", desc := "()I" } : Jvm.MethodName)) : Cond) ∈ lw_tbl := tb_1 (List.mem_of_getElem? (i := 67) rfl)
theorem w_1_68 : ((Jvm.Cond.castable "java/util/ArrayList" "java/util/List") : Cond) ∈ lw_tbl := tb_1 (List.mem_of_getElem? (i := 68) rfl)
theorem w_1_69 : ((Jvm.Cond.selects "java/util/ArrayList" ({ cls := "java/util/List", name := "size", desc := "()I" } : Jvm.MethodName) ({ cls := "java/util/ArrayList", name := "size", desc := "()I" } : Jvm.MethodName)) : Cond) ∈ lw_tbl := tb_1 (List.mem_of_getElem? (i := 69) rfl)
theorem w_1_70 : ((Jvm.Cond.unhidden "java/util/ArrayList" "size" "()I") : Cond) ∈ lw_tbl := tb_1 (List.mem_of_getElem? (i := 70) rfl)
theorem w_1_71 : ((Jvm.Cond.instanceMethod ({ cls := "java/util/ArrayList", name := "size", desc := "()I" } : Jvm.MethodName)) : Cond) ∈ lw_tbl := tb_1 (List.mem_of_getElem? (i := 71) rfl)
theorem w_1_72 : ((Jvm.Cond.publicMethod ({ cls := "java/util/ArrayList", name := "size", desc := "()I" } : Jvm.MethodName)) : Cond) ∈ lw_tbl := tb_1 (List.mem_of_getElem? (i := 72) rfl)
theorem w_1_73 : ((Jvm.Cond.code ({ cls := "java/util/ArrayList", name := "size", desc := "()I" } : Jvm.MethodName) prog_29_method_8_code (1 : Nat) (Option.some Jvm.ClassFile.FieldType.int)) : Cond) ∈ lw_tbl := tb_1 (List.mem_of_getElem? (i := 73) rfl)
theorem w_1_74 : ((Jvm.Cond.methodLink "LaidQuarrel" (94 : Nat) ({ cls := "LaidQuarrel", name := "madeOf", desc := "(I)LLaidQuarrel$Bottle;" } : Jvm.MethodName)) : Cond) ∈ lw_tbl := tb_1 (List.mem_of_getElem? (i := 74) rfl)
theorem w_1_75 : ((Jvm.Cond.privateMethod ({ cls := "LaidQuarrel", name := "madeOf", desc := "(I)LLaidQuarrel$Bottle;" } : Jvm.MethodName)) : Cond) ∈ lw_tbl := tb_1 (List.mem_of_getElem? (i := 75) rfl)
theorem w_1_76 : ((Jvm.Cond.instanceMethod ({ cls := "LaidQuarrel", name := "madeOf", desc := "(I)LLaidQuarrel$Bottle;" } : Jvm.MethodName)) : Cond) ∈ lw_tbl := tb_1 (List.mem_of_getElem? (i := 76) rfl)
theorem w_1_77 : ((Jvm.Cond.code ({ cls := "LaidQuarrel", name := "madeOf", desc := "(I)LLaidQuarrel$Bottle;" } : Jvm.MethodName) prog_1_method_49_code (3 : Nat) (Option.some (Jvm.ClassFile.FieldType.object "LaidQuarrel$Bottle"))) : Cond) ∈ lw_tbl := tb_1 (List.mem_of_getElem? (i := 77) rfl)
theorem w_1_78 : ((Jvm.Cond.classLink "LaidQuarrel" (292 : Nat) "LaidQuarrel$Hard") : Cond) ∈ lw_tbl := tb_1 (List.mem_of_getElem? (i := 78) rfl)
theorem w_1_79 : ((Jvm.Cond.instantiable "LaidQuarrel$Hard" (6 : Nat)) : Cond) ∈ lw_tbl := tb_1 (List.mem_of_getElem? (i := 79) rfl)
theorem w_1_80 : ((Jvm.Cond.methodLink "LaidQuarrel" (294 : Nat) ({ cls := "LaidQuarrel$Hard", name := "<init>", desc := "(IILLaidQuarrel$Shelf;)V" } : Jvm.MethodName)) : Cond) ∈ lw_tbl := tb_1 (List.mem_of_getElem? (i := 80) rfl)
theorem w_1_81 : ((Jvm.Cond.instanceMethod ({ cls := "LaidQuarrel$Hard", name := "<init>", desc := "(IILLaidQuarrel$Shelf;)V" } : Jvm.MethodName)) : Cond) ∈ lw_tbl := tb_1 (List.mem_of_getElem? (i := 81) rfl)
theorem w_1_82 : ((Jvm.Cond.code ({ cls := "LaidQuarrel$Hard", name := "<init>", desc := "(IILLaidQuarrel$Shelf;)V" } : Jvm.MethodName) prog_6_method_1_code (4 : Nat) (Option.none : Option Jvm.ClassFile.FieldType)) : Cond) ∈ lw_tbl := tb_1 (List.mem_of_getElem? (i := 82) rfl)
theorem w_1_83 : ((Jvm.Cond.methodLink "LaidQuarrel$Hard" (1 : Nat) ({ cls := "LaidQuarrel$Bottle", name := "<init>", desc := "(IILLaidQuarrel$Shelf;)V" } : Jvm.MethodName)) : Cond) ∈ lw_tbl := tb_1 (List.mem_of_getElem? (i := 83) rfl)
theorem w_1_84 : ((Jvm.Cond.instanceMethod ({ cls := "LaidQuarrel$Bottle", name := "<init>", desc := "(IILLaidQuarrel$Shelf;)V" } : Jvm.MethodName)) : Cond) ∈ lw_tbl := tb_1 (List.mem_of_getElem? (i := 84) rfl)
theorem w_1_85 : ((Jvm.Cond.code ({ cls := "LaidQuarrel$Bottle", name := "<init>", desc := "(IILLaidQuarrel$Shelf;)V" } : Jvm.MethodName) prog_2_method_1_code (4 : Nat) (Option.none : Option Jvm.ClassFile.FieldType)) : Cond) ∈ lw_tbl := tb_1 (List.mem_of_getElem? (i := 85) rfl)
theorem w_1_86 : ((Jvm.Cond.methodLink "LaidQuarrel$Bottle" (1 : Nat) ({ cls := "java/lang/Object", name := "<init>", desc := "()V" } : Jvm.MethodName)) : Cond) ∈ lw_tbl := tb_1 (List.mem_of_getElem? (i := 86) rfl)
theorem w_1_87 : ((Jvm.Cond.classLink "LaidQuarrel$Bottle" (7 : Nat) "LaidQuarrel$Laid") : Cond) ∈ lw_tbl := tb_1 (List.mem_of_getElem? (i := 87) rfl)
theorem w_1_88 : ((Jvm.Cond.instantiable "LaidQuarrel$Laid" (6 : Nat)) : Cond) ∈ lw_tbl := tb_1 (List.mem_of_getElem? (i := 88) rfl)
theorem w_1_89 : ((Jvm.Cond.methodLinkNest "LaidQuarrel$Bottle" (9 : Nat) ({ cls := "LaidQuarrel$Laid", name := "<init>", desc := "()V" } : Jvm.MethodName) "LaidQuarrel") : Cond) ∈ lw_tbl := tb_1 (List.mem_of_getElem? (i := 89) rfl)
theorem w_1_90 : ((Jvm.Cond.instanceMethod ({ cls := "LaidQuarrel$Laid", name := "<init>", desc := "()V" } : Jvm.MethodName)) : Cond) ∈ lw_tbl := tb_1 (List.mem_of_getElem? (i := 90) rfl)
theorem w_1_91 : ((Jvm.Cond.code ({ cls := "LaidQuarrel$Laid", name := "<init>", desc := "()V" } : Jvm.MethodName) prog_7_method_1_code (1 : Nat) (Option.none : Option Jvm.ClassFile.FieldType)) : Cond) ∈ lw_tbl := tb_1 (List.mem_of_getElem? (i := 91) rfl)
theorem w_1_92 : ((Jvm.Cond.methodLink "LaidQuarrel$Laid" (3 : Nat) ({ cls := "java/lang/Object", name := "<init>", desc := "()V" } : Jvm.MethodName)) : Cond) ∈ lw_tbl := tb_1 (List.mem_of_getElem? (i := 92) rfl)
theorem w_1_93 : ((Jvm.Cond.fieldLink "LaidQuarrel$Laid" (9 : Nat) "LaidQuarrel$Laid" "tellings" "[I") : Cond) ∈ lw_tbl := tb_1 (List.mem_of_getElem? (i := 93) rfl)
theorem w_1_94 : ((Jvm.Cond.fieldLink "LaidQuarrel$Laid" (15 : Nat) "LaidQuarrel$Laid" "v" "I") : Cond) ∈ lw_tbl := tb_1 (List.mem_of_getElem? (i := 94) rfl)
theorem w_1_95 : ((Jvm.Cond.fieldLink "LaidQuarrel$Feud" (17 : Nat) "LaidQuarrel$Laid" "v" "I") : Cond) ∈ lw_tbl := tb_1 (List.mem_of_getElem? (i := 95) rfl)
theorem w_1_96 : ((Jvm.Cond.fieldLink "LaidQuarrel$Love" (20 : Nat) "LaidQuarrel$Laid" "v" "I") : Cond) ∈ lw_tbl := tb_1 (List.mem_of_getElem? (i := 96) rfl)
theorem w_1_97 : ((Jvm.Cond.fieldLink "LaidQuarrel$Told" (37 : Nat) "LaidQuarrel$Laid" "v" "I") : Cond) ∈ lw_tbl := tb_1 (List.mem_of_getElem? (i := 97) rfl)
theorem w_1_98 : ((Jvm.Cond.fieldLink "LaidQuarrel" (104 : Nat) "LaidQuarrel$Laid" "v" "I") : Cond) ∈ lw_tbl := tb_1 (List.mem_of_getElem? (i := 98) rfl)
theorem w_1_99 : ((Jvm.Cond.fieldLink "LaidQuarrel$Bottle" (60 : Nat) "LaidQuarrel$Laid" "v" "I") : Cond) ∈ lw_tbl := tb_1 (List.mem_of_getElem? (i := 99) rfl)
theorem w_1_100 : ((Jvm.Cond.fieldLink "LaidQuarrel$Cellar" (77 : Nat) "LaidQuarrel$Laid" "v" "I") : Cond) ∈ lw_tbl := tb_1 (List.mem_of_getElem? (i := 100) rfl)
theorem w_1_101 : ((Jvm.Cond.fieldLink "LaidQuarrel$Hard" (7 : Nat) "LaidQuarrel$Laid" "word" "I") : Cond) ∈ lw_tbl := tb_1 (List.mem_of_getElem? (i := 101) rfl)
theorem w_1_102 : ((Jvm.Cond.fieldLink "LaidQuarrel$Sweet" (7 : Nat) "LaidQuarrel$Laid" "word" "I") : Cond) ∈ lw_tbl := tb_1 (List.mem_of_getElem? (i := 102) rfl)
theorem w_1_103 : ((Jvm.Cond.fieldLink "LaidQuarrel$Love" (11 : Nat) "LaidQuarrel$Laid" "word" "I") : Cond) ∈ lw_tbl := tb_1 (List.mem_of_getElem? (i := 103) rfl)
theorem w_1_104 : ((Jvm.Cond.fieldLink "LaidQuarrel$Laid" (19 : Nat) "LaidQuarrel$Laid" "word" "I") : Cond) ∈ lw_tbl := tb_1 (List.mem_of_getElem? (i := 104) rfl)
theorem w_1_105 : ((Jvm.Cond.fieldLink "LaidQuarrel" (109 : Nat) "LaidQuarrel$Laid" "word" "I") : Cond) ∈ lw_tbl := tb_1 (List.mem_of_getElem? (i := 105) rfl)
theorem w_1_106 : ((Jvm.Cond.fieldLink "LaidQuarrel$Bottle" (41 : Nat) "LaidQuarrel$Laid" "word" "I") : Cond) ∈ lw_tbl := tb_1 (List.mem_of_getElem? (i := 106) rfl)
theorem w_1_107 : ((Jvm.Cond.fieldLink "LaidQuarrel$Cellar" (83 : Nat) "LaidQuarrel$Laid" "word" "I") : Cond) ∈ lw_tbl := tb_1 (List.mem_of_getElem? (i := 107) rfl)
theorem w_1_108 : ((Jvm.Cond.fieldLink "LaidQuarrel$Feud" (11 : Nat) "LaidQuarrel$Laid" "years" "I") : Cond) ∈ lw_tbl := tb_1 (List.mem_of_getElem? (i := 108) rfl)
theorem w_1_109 : ((Jvm.Cond.fieldLink "LaidQuarrel$Love" (17 : Nat) "LaidQuarrel$Laid" "years" "I") : Cond) ∈ lw_tbl := tb_1 (List.mem_of_getElem? (i := 109) rfl)
theorem w_1_110 : ((Jvm.Cond.fieldLink "LaidQuarrel$Laid" (22 : Nat) "LaidQuarrel$Laid" "years" "I") : Cond) ∈ lw_tbl := tb_1 (List.mem_of_getElem? (i := 110) rfl)
theorem w_1_111 : ((Jvm.Cond.fieldLink "LaidQuarrel" (130 : Nat) "LaidQuarrel$Laid" "years" "I") : Cond) ∈ lw_tbl := tb_1 (List.mem_of_getElem? (i := 111) rfl)
theorem w_1_112 : ((Jvm.Cond.fieldLink "LaidQuarrel$Cellar" (51 : Nat) "LaidQuarrel$Laid" "years" "I") : Cond) ∈ lw_tbl := tb_1 (List.mem_of_getElem? (i := 112) rfl)
theorem w_1_113 : ((Jvm.Cond.fieldLink "LaidQuarrel$Corked" (11 : Nat) "LaidQuarrel$Laid" "quarter" "I") : Cond) ∈ lw_tbl := tb_1 (List.mem_of_getElem? (i := 113) rfl)
theorem w_1_114 : ((Jvm.Cond.fieldLink "LaidQuarrel$Laid" (25 : Nat) "LaidQuarrel$Laid" "quarter" "I") : Cond) ∈ lw_tbl := tb_1 (List.mem_of_getElem? (i := 114) rfl)
theorem w_1_115 : ((Jvm.Cond.fieldLink "LaidQuarrel" (133 : Nat) "LaidQuarrel$Laid" "quarter" "I") : Cond) ∈ lw_tbl := tb_1 (List.mem_of_getElem? (i := 115) rfl)
theorem w_1_116 : ((Jvm.Cond.fieldLink "LaidQuarrel$Cellar" (80 : Nat) "LaidQuarrel$Laid" "quarter" "I") : Cond) ∈ lw_tbl := tb_1 (List.mem_of_getElem? (i := 116) rfl)
theorem w_1_117 : ((Jvm.Cond.fieldLink "LaidQuarrel$Laid" (28 : Nat) "LaidQuarrel$Laid" "empty" "Z") : Cond) ∈ lw_tbl := tb_1 (List.mem_of_getElem? (i := 117) rfl)
theorem w_1_118 : ((Jvm.Cond.fieldLink "LaidQuarrel" (136 : Nat) "LaidQuarrel$Laid" "empty" "Z") : Cond) ∈ lw_tbl := tb_1 (List.mem_of_getElem? (i := 118) rfl)
theorem w_1_119 : ((Jvm.Cond.laysFinal "LaidQuarrel$Laid" "LaidQuarrel$Laid" "tellings" "[I") : Cond) ∈ lw_tbl := tb_1 (List.mem_of_getElem? (i := 119) rfl)
theorem w_1_120 : ((Jvm.Cond.soleField "LaidQuarrel$Laid" "tellings") : Cond) ∈ lw_tbl := tb_1 (List.mem_of_getElem? (i := 120) rfl)
theorem w_1_121 : ((Jvm.Cond.lays "LaidQuarrel$Laid" "LaidQuarrel$Laid" "v" "I") : Cond) ∈ lw_tbl := tb_1 (List.mem_of_getElem? (i := 121) rfl)
theorem w_1_122 : ((Jvm.Cond.soleField "LaidQuarrel$Laid" "v") : Cond) ∈ lw_tbl := tb_1 (List.mem_of_getElem? (i := 122) rfl)
theorem w_1_123 : ((Jvm.Cond.lays "LaidQuarrel$Laid" "LaidQuarrel$Laid" "word" "I") : Cond) ∈ lw_tbl := tb_1 (List.mem_of_getElem? (i := 123) rfl)
theorem w_1_124 : ((Jvm.Cond.soleField "LaidQuarrel$Laid" "word") : Cond) ∈ lw_tbl := tb_1 (List.mem_of_getElem? (i := 124) rfl)
theorem w_1_125 : ((Jvm.Cond.lays "LaidQuarrel$Laid" "LaidQuarrel$Laid" "years" "I") : Cond) ∈ lw_tbl := tb_1 (List.mem_of_getElem? (i := 125) rfl)
theorem w_1_126 : ((Jvm.Cond.soleField "LaidQuarrel$Laid" "years") : Cond) ∈ lw_tbl := tb_1 (List.mem_of_getElem? (i := 126) rfl)
theorem w_1_127 : ((Jvm.Cond.lays "LaidQuarrel$Laid" "LaidQuarrel$Laid" "quarter" "I") : Cond) ∈ lw_tbl := tb_1 (List.mem_of_getElem? (i := 127) rfl)
theorem w_1_128 : ((Jvm.Cond.soleField "LaidQuarrel$Laid" "quarter") : Cond) ∈ lw_tbl := tb_1 (List.mem_of_getElem? (i := 128) rfl)
theorem w_1_129 : ((Jvm.Cond.lays "LaidQuarrel$Laid" "LaidQuarrel$Laid" "empty" "Z") : Cond) ∈ lw_tbl := tb_1 (List.mem_of_getElem? (i := 129) rfl)
theorem w_1_130 : ((Jvm.Cond.soleField "LaidQuarrel$Laid" "empty") : Cond) ∈ lw_tbl := tb_1 (List.mem_of_getElem? (i := 130) rfl)
theorem w_1_131 : ((Jvm.Cond.superclass "LaidQuarrel$Laid" "java/lang/Object") : Cond) ∈ lw_tbl := tb_1 (List.mem_of_getElem? (i := 131) rfl)
theorem w_1_132 : ((Jvm.Cond.fieldLink "LaidQuarrel$Bottle" (22 : Nat) "LaidQuarrel$Bottle" "kind" "I") : Cond) ∈ lw_tbl := tb_1 (List.mem_of_getElem? (i := 132) rfl)
theorem w_1_133 : ((Jvm.Cond.fieldLink "LaidQuarrel" (127 : Nat) "LaidQuarrel$Bottle" "kind" "I") : Cond) ∈ lw_tbl := tb_1 (List.mem_of_getElem? (i := 133) rfl)
theorem w_1_134 : ((Jvm.Cond.fieldLink "LaidQuarrel$Cellar" (74 : Nat) "LaidQuarrel$Bottle" "kind" "I") : Cond) ∈ lw_tbl := tb_1 (List.mem_of_getElem? (i := 134) rfl)
theorem w_1_135 : ((Jvm.Cond.fieldLink "LaidQuarrel$Bottle" (26 : Nat) "LaidQuarrel$Bottle" "number" "I") : Cond) ∈ lw_tbl := tb_1 (List.mem_of_getElem? (i := 135) rfl)
theorem w_1_136 : ((Jvm.Cond.fieldLink "LaidQuarrel$Love" (39 : Nat) "LaidQuarrel$Love" "number" "I") : Cond) ∈ lw_tbl := tb_1 (List.mem_of_getElem? (i := 136) rfl)
theorem w_1_137 : ((Jvm.Cond.sameField "LaidQuarrel$Love" "LaidQuarrel$Bottle" "number" "I") : Cond) ∈ lw_tbl := tb_1 (List.mem_of_getElem? (i := 137) rfl)
theorem w_1_138 : ((Jvm.Cond.fieldLink "LaidQuarrel" (116 : Nat) "LaidQuarrel$Bottle" "number" "I") : Cond) ∈ lw_tbl := tb_1 (List.mem_of_getElem? (i := 138) rfl)
theorem w_1_139 : ((Jvm.Cond.fieldLink "LaidQuarrel$Cellar" (69 : Nat) "LaidQuarrel$Bottle" "number" "I") : Cond) ∈ lw_tbl := tb_1 (List.mem_of_getElem? (i := 139) rfl)
theorem w_1_140 : ((Jvm.Cond.fieldLink "LaidQuarrel$Bottle" (29 : Nat) "LaidQuarrel$Bottle" "bodies" "LLaidQuarrel$Shelf;") : Cond) ∈ lw_tbl := tb_1 (List.mem_of_getElem? (i := 140) rfl)
theorem w_1_141 : ((Jvm.Cond.fieldLink "LaidQuarrel$Hard" (19 : Nat) "LaidQuarrel$Hard" "bodies" "LLaidQuarrel$Shelf;") : Cond) ∈ lw_tbl := tb_1 (List.mem_of_getElem? (i := 141) rfl)
theorem w_1_142 : ((Jvm.Cond.sameField "LaidQuarrel$Hard" "LaidQuarrel$Bottle" "bodies" "LLaidQuarrel$Shelf;") : Cond) ∈ lw_tbl := tb_1 (List.mem_of_getElem? (i := 142) rfl)
theorem w_1_143 : ((Jvm.Cond.fieldLink "LaidQuarrel$Love" (23 : Nat) "LaidQuarrel$Love" "bodies" "LLaidQuarrel$Shelf;") : Cond) ∈ lw_tbl := tb_1 (List.mem_of_getElem? (i := 143) rfl)
theorem w_1_144 : ((Jvm.Cond.sameField "LaidQuarrel$Love" "LaidQuarrel$Bottle" "bodies" "LLaidQuarrel$Shelf;") : Cond) ∈ lw_tbl := tb_1 (List.mem_of_getElem? (i := 144) rfl)
theorem w_1_145 : ((Jvm.Cond.fieldLink "LaidQuarrel$Sweet" (19 : Nat) "LaidQuarrel$Sweet" "bodies" "LLaidQuarrel$Shelf;") : Cond) ∈ lw_tbl := tb_1 (List.mem_of_getElem? (i := 145) rfl)
theorem w_1_146 : ((Jvm.Cond.sameField "LaidQuarrel$Sweet" "LaidQuarrel$Bottle" "bodies" "LLaidQuarrel$Shelf;") : Cond) ∈ lw_tbl := tb_1 (List.mem_of_getElem? (i := 146) rfl)
theorem w_1_147 : ((Jvm.Cond.fieldLink "LaidQuarrel$Told" (17 : Nat) "LaidQuarrel$Told" "bodies" "LLaidQuarrel$Shelf;") : Cond) ∈ lw_tbl := tb_1 (List.mem_of_getElem? (i := 147) rfl)
theorem w_1_148 : ((Jvm.Cond.sameField "LaidQuarrel$Told" "LaidQuarrel$Bottle" "bodies" "LLaidQuarrel$Shelf;") : Cond) ∈ lw_tbl := tb_1 (List.mem_of_getElem? (i := 148) rfl)
theorem w_1_149 : ((Jvm.Cond.fieldLink "LaidQuarrel$Corked" (17 : Nat) "LaidQuarrel$Corked" "bodies" "LLaidQuarrel$Shelf;") : Cond) ∈ lw_tbl := tb_1 (List.mem_of_getElem? (i := 149) rfl)
theorem w_1_150 : ((Jvm.Cond.sameField "LaidQuarrel$Corked" "LaidQuarrel$Bottle" "bodies" "LLaidQuarrel$Shelf;") : Cond) ∈ lw_tbl := tb_1 (List.mem_of_getElem? (i := 150) rfl)
theorem w_1_151 : ((Jvm.Cond.fieldLink "LaidQuarrel$Feud" (20 : Nat) "LaidQuarrel$Feud" "bodies" "LLaidQuarrel$Shelf;") : Cond) ∈ lw_tbl := tb_1 (List.mem_of_getElem? (i := 151) rfl)
theorem w_1_152 : ((Jvm.Cond.sameField "LaidQuarrel$Feud" "LaidQuarrel$Bottle" "bodies" "LLaidQuarrel$Shelf;") : Cond) ∈ lw_tbl := tb_1 (List.mem_of_getElem? (i := 152) rfl)
theorem w_1_153 : ((Jvm.Cond.fieldLink "LaidQuarrel$Bottle" (10 : Nat) "LaidQuarrel$Bottle" "now" "LLaidQuarrel$Laid;") : Cond) ∈ lw_tbl := tb_1 (List.mem_of_getElem? (i := 153) rfl)
theorem w_1_154 : ((Jvm.Cond.fieldLink "LaidQuarrel$Told" (33 : Nat) "LaidQuarrel$Told" "now" "LLaidQuarrel$Laid;") : Cond) ∈ lw_tbl := tb_1 (List.mem_of_getElem? (i := 154) rfl)
theorem w_1_155 : ((Jvm.Cond.sameField "LaidQuarrel$Told" "LaidQuarrel$Bottle" "now" "LLaidQuarrel$Laid;") : Cond) ∈ lw_tbl := tb_1 (List.mem_of_getElem? (i := 155) rfl)
theorem w_1_156 : ((Jvm.Cond.fieldLink "LaidQuarrel" (98 : Nat) "LaidQuarrel$Bottle" "now" "LLaidQuarrel$Laid;") : Cond) ∈ lw_tbl := tb_1 (List.mem_of_getElem? (i := 156) rfl)
theorem w_1_157 : ((Jvm.Cond.fieldLink "LaidQuarrel$Bottle" (16 : Nat) "LaidQuarrel$Bottle" "kept" "LLaidQuarrel$Laid;") : Cond) ∈ lw_tbl := tb_1 (List.mem_of_getElem? (i := 157) rfl)
theorem w_1_158 : ((Jvm.Cond.fieldLink "LaidQuarrel$Bottle" (19 : Nat) "LaidQuarrel$Bottle" "tried" "LLaidQuarrel$Laid;") : Cond) ∈ lw_tbl := tb_1 (List.mem_of_getElem? (i := 158) rfl)
theorem w_1_159 : ((Jvm.Cond.fieldLink "LaidQuarrel" (332 : Nat) "LaidQuarrel$Bottle" "tried" "LLaidQuarrel$Laid;") : Cond) ∈ lw_tbl := tb_1 (List.mem_of_getElem? (i := 159) rfl)
theorem w_1_160 : ((Jvm.Cond.laysFinal "LaidQuarrel$Hard" "LaidQuarrel$Bottle" "kind" "I") : Cond) ∈ lw_tbl := tb_1 (List.mem_of_getElem? (i := 160) rfl)
theorem w_1_161 : ((Jvm.Cond.soleField "LaidQuarrel$Bottle" "kind") : Cond) ∈ lw_tbl := tb_1 (List.mem_of_getElem? (i := 161) rfl)
theorem w_1_162 : ((Jvm.Cond.laysFinal "LaidQuarrel$Hard" "LaidQuarrel$Bottle" "number" "I") : Cond) ∈ lw_tbl := tb_1 (List.mem_of_getElem? (i := 162) rfl)
theorem w_1_163 : ((Jvm.Cond.soleField "LaidQuarrel$Bottle" "number") : Cond) ∈ lw_tbl := tb_1 (List.mem_of_getElem? (i := 163) rfl)
theorem w_1_164 : ((Jvm.Cond.laysFinal "LaidQuarrel$Hard" "LaidQuarrel$Bottle" "bodies" "LLaidQuarrel$Shelf;") : Cond) ∈ lw_tbl := tb_1 (List.mem_of_getElem? (i := 164) rfl)
theorem w_1_165 : ((Jvm.Cond.soleField "LaidQuarrel$Bottle" "bodies") : Cond) ∈ lw_tbl := tb_1 (List.mem_of_getElem? (i := 165) rfl)
theorem w_1_166 : ((Jvm.Cond.laysFinal "LaidQuarrel$Hard" "LaidQuarrel$Bottle" "now" "LLaidQuarrel$Laid;") : Cond) ∈ lw_tbl := tb_1 (List.mem_of_getElem? (i := 166) rfl)
theorem w_1_167 : ((Jvm.Cond.soleField "LaidQuarrel$Bottle" "now") : Cond) ∈ lw_tbl := tb_1 (List.mem_of_getElem? (i := 167) rfl)
theorem w_1_168 : ((Jvm.Cond.laysFinal "LaidQuarrel$Hard" "LaidQuarrel$Bottle" "kept" "LLaidQuarrel$Laid;") : Cond) ∈ lw_tbl := tb_1 (List.mem_of_getElem? (i := 168) rfl)
theorem w_1_169 : ((Jvm.Cond.soleField "LaidQuarrel$Bottle" "kept") : Cond) ∈ lw_tbl := tb_1 (List.mem_of_getElem? (i := 169) rfl)
theorem w_1_170 : ((Jvm.Cond.laysFinal "LaidQuarrel$Hard" "LaidQuarrel$Bottle" "tried" "LLaidQuarrel$Laid;") : Cond) ∈ lw_tbl := tb_1 (List.mem_of_getElem? (i := 170) rfl)
theorem w_1_171 : ((Jvm.Cond.soleField "LaidQuarrel$Bottle" "tried") : Cond) ∈ lw_tbl := tb_1 (List.mem_of_getElem? (i := 171) rfl)
theorem w_1_172 : ((Jvm.Cond.superclass "LaidQuarrel$Hard" "LaidQuarrel$Bottle") : Cond) ∈ lw_tbl := tb_1 (List.mem_of_getElem? (i := 172) rfl)
theorem w_1_173 : ((Jvm.Cond.classLink "LaidQuarrel" (297 : Nat) "LaidQuarrel$Sweet") : Cond) ∈ lw_tbl := tb_1 (List.mem_of_getElem? (i := 173) rfl)
theorem w_1_174 : ((Jvm.Cond.instantiable "LaidQuarrel$Sweet" (6 : Nat)) : Cond) ∈ lw_tbl := tb_1 (List.mem_of_getElem? (i := 174) rfl)
theorem w_1_175 : ((Jvm.Cond.methodLink "LaidQuarrel" (299 : Nat) ({ cls := "LaidQuarrel$Sweet", name := "<init>", desc := "(IILLaidQuarrel$Shelf;)V" } : Jvm.MethodName)) : Cond) ∈ lw_tbl := tb_1 (List.mem_of_getElem? (i := 175) rfl)
theorem w_1_176 : ((Jvm.Cond.instanceMethod ({ cls := "LaidQuarrel$Sweet", name := "<init>", desc := "(IILLaidQuarrel$Shelf;)V" } : Jvm.MethodName)) : Cond) ∈ lw_tbl := tb_1 (List.mem_of_getElem? (i := 176) rfl)
theorem w_1_177 : ((Jvm.Cond.code ({ cls := "LaidQuarrel$Sweet", name := "<init>", desc := "(IILLaidQuarrel$Shelf;)V" } : Jvm.MethodName) prog_10_method_1_code (4 : Nat) (Option.none : Option Jvm.ClassFile.FieldType)) : Cond) ∈ lw_tbl := tb_1 (List.mem_of_getElem? (i := 177) rfl)
theorem w_1_178 : ((Jvm.Cond.methodLink "LaidQuarrel$Sweet" (1 : Nat) ({ cls := "LaidQuarrel$Bottle", name := "<init>", desc := "(IILLaidQuarrel$Shelf;)V" } : Jvm.MethodName)) : Cond) ∈ lw_tbl := tb_1 (List.mem_of_getElem? (i := 178) rfl)
theorem w_1_179 : ((Jvm.Cond.laysFinal "LaidQuarrel$Sweet" "LaidQuarrel$Bottle" "kind" "I") : Cond) ∈ lw_tbl := tb_1 (List.mem_of_getElem? (i := 179) rfl)
theorem w_1_180 : ((Jvm.Cond.laysFinal "LaidQuarrel$Sweet" "LaidQuarrel$Bottle" "number" "I") : Cond) ∈ lw_tbl := tb_1 (List.mem_of_getElem? (i := 180) rfl)
theorem w_1_181 : ((Jvm.Cond.laysFinal "LaidQuarrel$Sweet" "LaidQuarrel$Bottle" "bodies" "LLaidQuarrel$Shelf;") : Cond) ∈ lw_tbl := tb_1 (List.mem_of_getElem? (i := 181) rfl)
theorem w_1_182 : ((Jvm.Cond.laysFinal "LaidQuarrel$Sweet" "LaidQuarrel$Bottle" "now" "LLaidQuarrel$Laid;") : Cond) ∈ lw_tbl := tb_1 (List.mem_of_getElem? (i := 182) rfl)
theorem w_1_183 : ((Jvm.Cond.laysFinal "LaidQuarrel$Sweet" "LaidQuarrel$Bottle" "kept" "LLaidQuarrel$Laid;") : Cond) ∈ lw_tbl := tb_1 (List.mem_of_getElem? (i := 183) rfl)
theorem w_1_184 : ((Jvm.Cond.laysFinal "LaidQuarrel$Sweet" "LaidQuarrel$Bottle" "tried" "LLaidQuarrel$Laid;") : Cond) ∈ lw_tbl := tb_1 (List.mem_of_getElem? (i := 184) rfl)
theorem w_1_185 : ((Jvm.Cond.superclass "LaidQuarrel$Sweet" "LaidQuarrel$Bottle") : Cond) ∈ lw_tbl := tb_1 (List.mem_of_getElem? (i := 185) rfl)
theorem w_1_186 : ((Jvm.Cond.classLink "LaidQuarrel" (300 : Nat) "LaidQuarrel$Corked") : Cond) ∈ lw_tbl := tb_1 (List.mem_of_getElem? (i := 186) rfl)
theorem w_1_187 : ((Jvm.Cond.instantiable "LaidQuarrel$Corked" (6 : Nat)) : Cond) ∈ lw_tbl := tb_1 (List.mem_of_getElem? (i := 187) rfl)
theorem w_1_188 : ((Jvm.Cond.methodLink "LaidQuarrel" (302 : Nat) ({ cls := "LaidQuarrel$Corked", name := "<init>", desc := "(IILLaidQuarrel$Shelf;)V" } : Jvm.MethodName)) : Cond) ∈ lw_tbl := tb_1 (List.mem_of_getElem? (i := 188) rfl)
theorem w_1_189 : ((Jvm.Cond.instanceMethod ({ cls := "LaidQuarrel$Corked", name := "<init>", desc := "(IILLaidQuarrel$Shelf;)V" } : Jvm.MethodName)) : Cond) ∈ lw_tbl := tb_1 (List.mem_of_getElem? (i := 189) rfl)
theorem w_1_190 : ((Jvm.Cond.code ({ cls := "LaidQuarrel$Corked", name := "<init>", desc := "(IILLaidQuarrel$Shelf;)V" } : Jvm.MethodName) prog_4_method_1_code (4 : Nat) (Option.none : Option Jvm.ClassFile.FieldType)) : Cond) ∈ lw_tbl := tb_1 (List.mem_of_getElem? (i := 190) rfl)
theorem w_1_191 : ((Jvm.Cond.methodLink "LaidQuarrel$Corked" (1 : Nat) ({ cls := "LaidQuarrel$Bottle", name := "<init>", desc := "(IILLaidQuarrel$Shelf;)V" } : Jvm.MethodName)) : Cond) ∈ lw_tbl := tb_1 (List.mem_of_getElem? (i := 191) rfl)
theorem w_1_192 : ((Jvm.Cond.laysFinal "LaidQuarrel$Corked" "LaidQuarrel$Bottle" "kind" "I") : Cond) ∈ lw_tbl := tb_1 (List.mem_of_getElem? (i := 192) rfl)
theorem w_1_193 : ((Jvm.Cond.laysFinal "LaidQuarrel$Corked" "LaidQuarrel$Bottle" "number" "I") : Cond) ∈ lw_tbl := tb_1 (List.mem_of_getElem? (i := 193) rfl)
theorem w_1_194 : ((Jvm.Cond.laysFinal "LaidQuarrel$Corked" "LaidQuarrel$Bottle" "bodies" "LLaidQuarrel$Shelf;") : Cond) ∈ lw_tbl := tb_1 (List.mem_of_getElem? (i := 194) rfl)
theorem w_1_195 : ((Jvm.Cond.laysFinal "LaidQuarrel$Corked" "LaidQuarrel$Bottle" "now" "LLaidQuarrel$Laid;") : Cond) ∈ lw_tbl := tb_1 (List.mem_of_getElem? (i := 195) rfl)
theorem w_1_196 : ((Jvm.Cond.laysFinal "LaidQuarrel$Corked" "LaidQuarrel$Bottle" "kept" "LLaidQuarrel$Laid;") : Cond) ∈ lw_tbl := tb_1 (List.mem_of_getElem? (i := 196) rfl)
theorem w_1_197 : ((Jvm.Cond.laysFinal "LaidQuarrel$Corked" "LaidQuarrel$Bottle" "tried" "LLaidQuarrel$Laid;") : Cond) ∈ lw_tbl := tb_1 (List.mem_of_getElem? (i := 197) rfl)
theorem w_1_198 : ((Jvm.Cond.superclass "LaidQuarrel$Corked" "LaidQuarrel$Bottle") : Cond) ∈ lw_tbl := tb_1 (List.mem_of_getElem? (i := 198) rfl)
theorem w_1_199 : ((Jvm.Cond.classLink "LaidQuarrel" (303 : Nat) "LaidQuarrel$Feud") : Cond) ∈ lw_tbl := tb_1 (List.mem_of_getElem? (i := 199) rfl)
theorem w_1_200 : ((Jvm.Cond.instantiable "LaidQuarrel$Feud" (6 : Nat)) : Cond) ∈ lw_tbl := tb_1 (List.mem_of_getElem? (i := 200) rfl)
theorem w_1_201 : ((Jvm.Cond.methodLink "LaidQuarrel" (305 : Nat) ({ cls := "LaidQuarrel$Feud", name := "<init>", desc := "(IILLaidQuarrel$Shelf;)V" } : Jvm.MethodName)) : Cond) ∈ lw_tbl := tb_1 (List.mem_of_getElem? (i := 201) rfl)
theorem w_1_202 : ((Jvm.Cond.instanceMethod ({ cls := "LaidQuarrel$Feud", name := "<init>", desc := "(IILLaidQuarrel$Shelf;)V" } : Jvm.MethodName)) : Cond) ∈ lw_tbl := tb_1 (List.mem_of_getElem? (i := 202) rfl)
theorem w_1_203 : ((Jvm.Cond.code ({ cls := "LaidQuarrel$Feud", name := "<init>", desc := "(IILLaidQuarrel$Shelf;)V" } : Jvm.MethodName) prog_5_method_1_code (4 : Nat) (Option.none : Option Jvm.ClassFile.FieldType)) : Cond) ∈ lw_tbl := tb_1 (List.mem_of_getElem? (i := 203) rfl)
theorem w_1_204 : ((Jvm.Cond.methodLink "LaidQuarrel$Feud" (1 : Nat) ({ cls := "LaidQuarrel$Hard", name := "<init>", desc := "(IILLaidQuarrel$Shelf;)V" } : Jvm.MethodName)) : Cond) ∈ lw_tbl := tb_1 (List.mem_of_getElem? (i := 204) rfl)
theorem w_1_205 : ((Jvm.Cond.laysFinal "LaidQuarrel$Feud" "LaidQuarrel$Bottle" "kind" "I") : Cond) ∈ lw_tbl := tb_1 (List.mem_of_getElem? (i := 205) rfl)
theorem w_1_206 : ((Jvm.Cond.laysFinal "LaidQuarrel$Feud" "LaidQuarrel$Bottle" "number" "I") : Cond) ∈ lw_tbl := tb_1 (List.mem_of_getElem? (i := 206) rfl)
theorem w_1_207 : ((Jvm.Cond.laysFinal "LaidQuarrel$Feud" "LaidQuarrel$Bottle" "bodies" "LLaidQuarrel$Shelf;") : Cond) ∈ lw_tbl := tb_1 (List.mem_of_getElem? (i := 207) rfl)
theorem w_1_208 : ((Jvm.Cond.laysFinal "LaidQuarrel$Feud" "LaidQuarrel$Bottle" "now" "LLaidQuarrel$Laid;") : Cond) ∈ lw_tbl := tb_1 (List.mem_of_getElem? (i := 208) rfl)
theorem w_1_209 : ((Jvm.Cond.laysFinal "LaidQuarrel$Feud" "LaidQuarrel$Bottle" "kept" "LLaidQuarrel$Laid;") : Cond) ∈ lw_tbl := tb_1 (List.mem_of_getElem? (i := 209) rfl)
theorem w_1_210 : ((Jvm.Cond.laysFinal "LaidQuarrel$Feud" "LaidQuarrel$Bottle" "tried" "LLaidQuarrel$Laid;") : Cond) ∈ lw_tbl := tb_1 (List.mem_of_getElem? (i := 210) rfl)
theorem w_1_211 : ((Jvm.Cond.superclass "LaidQuarrel$Feud" "LaidQuarrel$Hard") : Cond) ∈ lw_tbl := tb_1 (List.mem_of_getElem? (i := 211) rfl)
theorem w_1_212 : ((Jvm.Cond.classLink "LaidQuarrel" (306 : Nat) "LaidQuarrel$Love") : Cond) ∈ lw_tbl := tb_1 (List.mem_of_getElem? (i := 212) rfl)
theorem w_1_213 : ((Jvm.Cond.instantiable "LaidQuarrel$Love" (6 : Nat)) : Cond) ∈ lw_tbl := tb_1 (List.mem_of_getElem? (i := 213) rfl)
theorem w_1_214 : ((Jvm.Cond.methodLink "LaidQuarrel" (308 : Nat) ({ cls := "LaidQuarrel$Love", name := "<init>", desc := "(IILLaidQuarrel$Shelf;)V" } : Jvm.MethodName)) : Cond) ∈ lw_tbl := tb_1 (List.mem_of_getElem? (i := 214) rfl)
theorem w_1_215 : ((Jvm.Cond.instanceMethod ({ cls := "LaidQuarrel$Love", name := "<init>", desc := "(IILLaidQuarrel$Shelf;)V" } : Jvm.MethodName)) : Cond) ∈ lw_tbl := tb_1 (List.mem_of_getElem? (i := 215) rfl)
theorem w_1_216 : ((Jvm.Cond.code ({ cls := "LaidQuarrel$Love", name := "<init>", desc := "(IILLaidQuarrel$Shelf;)V" } : Jvm.MethodName) prog_8_method_1_code (4 : Nat) (Option.none : Option Jvm.ClassFile.FieldType)) : Cond) ∈ lw_tbl := tb_1 (List.mem_of_getElem? (i := 216) rfl)
theorem w_1_217 : ((Jvm.Cond.methodLink "LaidQuarrel$Love" (1 : Nat) ({ cls := "LaidQuarrel$Sweet", name := "<init>", desc := "(IILLaidQuarrel$Shelf;)V" } : Jvm.MethodName)) : Cond) ∈ lw_tbl := tb_1 (List.mem_of_getElem? (i := 217) rfl)
theorem w_1_218 : ((Jvm.Cond.laysFinal "LaidQuarrel$Love" "LaidQuarrel$Bottle" "kind" "I") : Cond) ∈ lw_tbl := tb_1 (List.mem_of_getElem? (i := 218) rfl)
theorem w_1_219 : ((Jvm.Cond.laysFinal "LaidQuarrel$Love" "LaidQuarrel$Bottle" "number" "I") : Cond) ∈ lw_tbl := tb_1 (List.mem_of_getElem? (i := 219) rfl)
theorem w_1_220 : ((Jvm.Cond.laysFinal "LaidQuarrel$Love" "LaidQuarrel$Bottle" "bodies" "LLaidQuarrel$Shelf;") : Cond) ∈ lw_tbl := tb_1 (List.mem_of_getElem? (i := 220) rfl)
theorem w_1_221 : ((Jvm.Cond.laysFinal "LaidQuarrel$Love" "LaidQuarrel$Bottle" "now" "LLaidQuarrel$Laid;") : Cond) ∈ lw_tbl := tb_1 (List.mem_of_getElem? (i := 221) rfl)
theorem w_1_222 : ((Jvm.Cond.laysFinal "LaidQuarrel$Love" "LaidQuarrel$Bottle" "kept" "LLaidQuarrel$Laid;") : Cond) ∈ lw_tbl := tb_1 (List.mem_of_getElem? (i := 222) rfl)
theorem w_1_223 : ((Jvm.Cond.laysFinal "LaidQuarrel$Love" "LaidQuarrel$Bottle" "tried" "LLaidQuarrel$Laid;") : Cond) ∈ lw_tbl := tb_1 (List.mem_of_getElem? (i := 223) rfl)
theorem w_1_224 : ((Jvm.Cond.superclass "LaidQuarrel$Love" "LaidQuarrel$Sweet") : Cond) ∈ lw_tbl := tb_1 (List.mem_of_getElem? (i := 224) rfl)
theorem w_1_225 : ((Jvm.Cond.classLink "LaidQuarrel" (309 : Nat) "LaidQuarrel$Told") : Cond) ∈ lw_tbl := tb_1 (List.mem_of_getElem? (i := 225) rfl)
theorem w_1_226 : ((Jvm.Cond.instantiable "LaidQuarrel$Told" (6 : Nat)) : Cond) ∈ lw_tbl := tb_1 (List.mem_of_getElem? (i := 226) rfl)
theorem w_1_227 : ((Jvm.Cond.methodLink "LaidQuarrel" (311 : Nat) ({ cls := "LaidQuarrel$Told", name := "<init>", desc := "(IILLaidQuarrel$Shelf;)V" } : Jvm.MethodName)) : Cond) ∈ lw_tbl := tb_1 (List.mem_of_getElem? (i := 227) rfl)
theorem w_1_228 : ((Jvm.Cond.instanceMethod ({ cls := "LaidQuarrel$Told", name := "<init>", desc := "(IILLaidQuarrel$Shelf;)V" } : Jvm.MethodName)) : Cond) ∈ lw_tbl := tb_1 (List.mem_of_getElem? (i := 228) rfl)
theorem w_1_229 : ((Jvm.Cond.code ({ cls := "LaidQuarrel$Told", name := "<init>", desc := "(IILLaidQuarrel$Shelf;)V" } : Jvm.MethodName) prog_11_method_1_code (4 : Nat) (Option.none : Option Jvm.ClassFile.FieldType)) : Cond) ∈ lw_tbl := tb_1 (List.mem_of_getElem? (i := 229) rfl)
theorem w_1_230 : ((Jvm.Cond.methodLink "LaidQuarrel$Told" (1 : Nat) ({ cls := "LaidQuarrel$Corked", name := "<init>", desc := "(IILLaidQuarrel$Shelf;)V" } : Jvm.MethodName)) : Cond) ∈ lw_tbl := tb_1 (List.mem_of_getElem? (i := 230) rfl)
theorem w_1_231 : ((Jvm.Cond.laysFinal "LaidQuarrel$Told" "LaidQuarrel$Bottle" "kind" "I") : Cond) ∈ lw_tbl := tb_1 (List.mem_of_getElem? (i := 231) rfl)
theorem w_1_232 : ((Jvm.Cond.laysFinal "LaidQuarrel$Told" "LaidQuarrel$Bottle" "number" "I") : Cond) ∈ lw_tbl := tb_1 (List.mem_of_getElem? (i := 232) rfl)
theorem w_1_233 : ((Jvm.Cond.laysFinal "LaidQuarrel$Told" "LaidQuarrel$Bottle" "bodies" "LLaidQuarrel$Shelf;") : Cond) ∈ lw_tbl := tb_1 (List.mem_of_getElem? (i := 233) rfl)
theorem w_1_234 : ((Jvm.Cond.laysFinal "LaidQuarrel$Told" "LaidQuarrel$Bottle" "now" "LLaidQuarrel$Laid;") : Cond) ∈ lw_tbl := tb_1 (List.mem_of_getElem? (i := 234) rfl)
theorem w_1_235 : ((Jvm.Cond.laysFinal "LaidQuarrel$Told" "LaidQuarrel$Bottle" "kept" "LLaidQuarrel$Laid;") : Cond) ∈ lw_tbl := tb_1 (List.mem_of_getElem? (i := 235) rfl)
theorem w_1_236 : ((Jvm.Cond.laysFinal "LaidQuarrel$Told" "LaidQuarrel$Bottle" "tried" "LLaidQuarrel$Laid;") : Cond) ∈ lw_tbl := tb_1 (List.mem_of_getElem? (i := 236) rfl)
theorem w_1_237 : ((Jvm.Cond.superclass "LaidQuarrel$Told" "LaidQuarrel$Corked") : Cond) ∈ lw_tbl := tb_1 (List.mem_of_getElem? (i := 237) rfl)
theorem w_1_238 : ((Jvm.Cond.classLink "LaidQuarrel" (99 : Nat) "LaidQuarrel$Bottle") : Cond) ∈ lw_tbl := tb_1 (List.mem_of_getElem? (i := 238) rfl)
theorem w_1_239 : ((Jvm.Cond.instantiable "LaidQuarrel$Bottle" (6 : Nat)) : Cond) ∈ lw_tbl := tb_1 (List.mem_of_getElem? (i := 239) rfl)
theorem w_2_0 : ((Jvm.Cond.methodLink "LaidQuarrel" (312 : Nat) ({ cls := "LaidQuarrel$Bottle", name := "<init>", desc := "(IILLaidQuarrel$Shelf;)V" } : Jvm.MethodName)) : Cond) ∈ lw_tbl := tb_2 (List.mem_of_getElem? (i := 0) rfl)
theorem w_2_1 : ((Jvm.Cond.laysFinal "LaidQuarrel$Bottle" "LaidQuarrel$Bottle" "kind" "I") : Cond) ∈ lw_tbl := tb_2 (List.mem_of_getElem? (i := 1) rfl)
theorem w_2_2 : ((Jvm.Cond.laysFinal "LaidQuarrel$Bottle" "LaidQuarrel$Bottle" "number" "I") : Cond) ∈ lw_tbl := tb_2 (List.mem_of_getElem? (i := 2) rfl)
theorem w_2_3 : ((Jvm.Cond.laysFinal "LaidQuarrel$Bottle" "LaidQuarrel$Bottle" "bodies" "LLaidQuarrel$Shelf;") : Cond) ∈ lw_tbl := tb_2 (List.mem_of_getElem? (i := 3) rfl)
theorem w_2_4 : ((Jvm.Cond.laysFinal "LaidQuarrel$Bottle" "LaidQuarrel$Bottle" "now" "LLaidQuarrel$Laid;") : Cond) ∈ lw_tbl := tb_2 (List.mem_of_getElem? (i := 4) rfl)
theorem w_2_5 : ((Jvm.Cond.laysFinal "LaidQuarrel$Bottle" "LaidQuarrel$Bottle" "kept" "LLaidQuarrel$Laid;") : Cond) ∈ lw_tbl := tb_2 (List.mem_of_getElem? (i := 5) rfl)
theorem w_2_6 : ((Jvm.Cond.laysFinal "LaidQuarrel$Bottle" "LaidQuarrel$Bottle" "tried" "LLaidQuarrel$Laid;") : Cond) ∈ lw_tbl := tb_2 (List.mem_of_getElem? (i := 6) rfl)
theorem w_2_7 : ((Jvm.Cond.superclass "LaidQuarrel$Bottle" "java/lang/Object") : Cond) ∈ lw_tbl := tb_2 (List.mem_of_getElem? (i := 7) rfl)
theorem w_2_8 : ((Jvm.Cond.interfaceEntry "LaidQuarrel" (112 : Nat)) : Cond) ∈ lw_tbl := tb_2 (List.mem_of_getElem? (i := 8) rfl)
theorem w_2_9 : ((Jvm.Cond.methodLink "LaidQuarrel" (112 : Nat) ({ cls := "java/util/List", name := "add", desc := "(Ljava/lang/Object;)Z" } : Jvm.MethodName)) : Cond) ∈ lw_tbl := tb_2 (List.mem_of_getElem? (i := 9) rfl)
theorem w_2_10 : ((Jvm.Cond.interfaceMethod "java/util/List" "java/util/List" "add" "(Ljava/lang/Object;)Z") : Cond) ∈ lw_tbl := tb_2 (List.mem_of_getElem? (i := 10) rfl)
theorem w_2_11 : ((Jvm.Cond.declares ({ cls := "java/util/List", name := "add", desc := "(Ljava/lang/Object;)Z" } : Jvm.MethodName)) : Cond) ∈ lw_tbl := tb_2 (List.mem_of_getElem? (i := 11) rfl)
theorem w_2_12 : ((Jvm.Cond.selects "java/util/ArrayList" ({ cls := "java/util/List", name := "add", desc := "(Ljava/lang/Object;)Z" } : Jvm.MethodName) ({ cls := "java/util/ArrayList", name := "add", desc := "(Ljava/lang/Object;)Z" } : Jvm.MethodName)) : Cond) ∈ lw_tbl := tb_2 (List.mem_of_getElem? (i := 12) rfl)
theorem w_2_13 : ((Jvm.Cond.unhidden "java/util/ArrayList" "add" "(Ljava/lang/Object;)Z") : Cond) ∈ lw_tbl := tb_2 (List.mem_of_getElem? (i := 13) rfl)
theorem w_2_14 : ((Jvm.Cond.instanceMethod ({ cls := "java/util/ArrayList", name := "add", desc := "(Ljava/lang/Object;)Z" } : Jvm.MethodName)) : Cond) ∈ lw_tbl := tb_2 (List.mem_of_getElem? (i := 14) rfl)
theorem w_2_15 : ((Jvm.Cond.publicMethod ({ cls := "java/util/ArrayList", name := "add", desc := "(Ljava/lang/Object;)Z" } : Jvm.MethodName)) : Cond) ∈ lw_tbl := tb_2 (List.mem_of_getElem? (i := 15) rfl)
theorem w_2_16 : ((Jvm.Cond.code ({ cls := "java/util/ArrayList", name := "add", desc := "(Ljava/lang/Object;)Z" } : Jvm.MethodName) prog_29_method_25_code (2 : Nat) (Option.some Jvm.ClassFile.FieldType.boolean)) : Cond) ∈ lw_tbl := tb_2 (List.mem_of_getElem? (i := 16) rfl)
theorem w_2_17 : ((Jvm.Cond.methodLink "java/util/ArrayList" (131 : Nat) ({ cls := "java/util/ArrayList", name := "add", desc := "(Ljava/lang/Object;[Ljava/lang/Object;I)V" } : Jvm.MethodName)) : Cond) ∈ lw_tbl := tb_2 (List.mem_of_getElem? (i := 17) rfl)
theorem w_2_18 : ((Jvm.Cond.privateMethod ({ cls := "java/util/ArrayList", name := "add", desc := "(Ljava/lang/Object;[Ljava/lang/Object;I)V" } : Jvm.MethodName)) : Cond) ∈ lw_tbl := tb_2 (List.mem_of_getElem? (i := 18) rfl)
theorem w_2_19 : ((Jvm.Cond.instanceMethod ({ cls := "java/util/ArrayList", name := "add", desc := "(Ljava/lang/Object;[Ljava/lang/Object;I)V" } : Jvm.MethodName)) : Cond) ∈ lw_tbl := tb_2 (List.mem_of_getElem? (i := 19) rfl)
theorem w_2_20 : ((Jvm.Cond.code ({ cls := "java/util/ArrayList", name := "add", desc := "(Ljava/lang/Object;[Ljava/lang/Object;I)V" } : Jvm.MethodName) prog_29_method_24_code (4 : Nat) (Option.none : Option Jvm.ClassFile.FieldType)) : Cond) ∈ lw_tbl := tb_2 (List.mem_of_getElem? (i := 20) rfl)
theorem w_2_21 : ((Jvm.Cond.methodLink "java/util/ArrayList" (129 : Nat) ({ cls := "java/util/ArrayList", name := "grow", desc := "()[Ljava/lang/Object;" } : Jvm.MethodName)) : Cond) ∈ lw_tbl := tb_2 (List.mem_of_getElem? (i := 21) rfl)
theorem w_2_22 : ((Jvm.Cond.privateMethod ({ cls := "java/util/ArrayList", name := "grow", desc := "()[Ljava/lang/Object;" } : Jvm.MethodName)) : Cond) ∈ lw_tbl := tb_2 (List.mem_of_getElem? (i := 22) rfl)
theorem w_2_23 : ((Jvm.Cond.instanceMethod ({ cls := "java/util/ArrayList", name := "grow", desc := "()[Ljava/lang/Object;" } : Jvm.MethodName)) : Cond) ∈ lw_tbl := tb_2 (List.mem_of_getElem? (i := 23) rfl)
theorem w_2_24 : ((Jvm.Cond.code ({ cls := "java/util/ArrayList", name := "grow", desc := "()[Ljava/lang/Object;" } : Jvm.MethodName) prog_29_method_7_code (1 : Nat) (Option.some (Jvm.ClassFile.FieldType.array (Jvm.ClassFile.FieldType.object "java/lang/Object")))) : Cond) ∈ lw_tbl := tb_2 (List.mem_of_getElem? (i := 24) rfl)
theorem w_2_25 : ((Jvm.Cond.methodLink "java/util/ArrayList" (69 : Nat) ({ cls := "java/util/ArrayList", name := "grow", desc := "(I)[Ljava/lang/Object;" } : Jvm.MethodName)) : Cond) ∈ lw_tbl := tb_2 (List.mem_of_getElem? (i := 25) rfl)
theorem w_2_26 : ((Jvm.Cond.privateMethod ({ cls := "java/util/ArrayList", name := "grow", desc := "(I)[Ljava/lang/Object;" } : Jvm.MethodName)) : Cond) ∈ lw_tbl := tb_2 (List.mem_of_getElem? (i := 26) rfl)
theorem w_2_27 : ((Jvm.Cond.instanceMethod ({ cls := "java/util/ArrayList", name := "grow", desc := "(I)[Ljava/lang/Object;" } : Jvm.MethodName)) : Cond) ∈ lw_tbl := tb_2 (List.mem_of_getElem? (i := 27) rfl)
theorem w_2_28 : ((Jvm.Cond.code ({ cls := "java/util/ArrayList", name := "grow", desc := "(I)[Ljava/lang/Object;" } : Jvm.MethodName) prog_29_method_6_code (4 : Nat) (Option.some (Jvm.ClassFile.FieldType.array (Jvm.ClassFile.FieldType.object "java/lang/Object")))) : Cond) ∈ lw_tbl := tb_2 (List.mem_of_getElem? (i := 28) rfl)
theorem w_2_29 : ((Jvm.Cond.methodLink "java/util/ArrayList" (73 : Nat) ({ cls := "jdk/internal/util/ArraysSupport", name := "newLength", desc := "(III)I" } : Jvm.MethodName)) : Cond) ∈ lw_tbl := tb_2 (List.mem_of_getElem? (i := 29) rfl)
theorem w_2_30 : ((Jvm.Cond.static ({ cls := "jdk/internal/util/ArraysSupport", name := "newLength", desc := "(III)I" } : Jvm.MethodName)) : Cond) ∈ lw_tbl := tb_2 (List.mem_of_getElem? (i := 30) rfl)
theorem w_2_31 : ((Jvm.Cond.code ({ cls := "jdk/internal/util/ArraysSupport", name := "newLength", desc := "(III)I" } : Jvm.MethodName) prog_36_method_27_code (4 : Nat) (Option.some Jvm.ClassFile.FieldType.int)) : Cond) ∈ lw_tbl := tb_2 (List.mem_of_getElem? (i := 31) rfl)
theorem w_2_32 : ((Jvm.Cond.methodLink "jdk/internal/util/ArraysSupport" (194 : Nat) ({ cls := "java/lang/Math", name := "max", desc := "(II)I" } : Jvm.MethodName)) : Cond) ∈ lw_tbl := tb_2 (List.mem_of_getElem? (i := 32) rfl)
theorem w_2_33 : ((Jvm.Cond.constant "jdk/internal/util/ArraysSupport" (200 : Nat) (2147483639 : Int32)) : Cond) ∈ lw_tbl := tb_2 (List.mem_of_getElem? (i := 33) rfl)
theorem w_2_34 : ((Jvm.Cond.methodLink "jdk/internal/util/ArraysSupport" (201 : Nat) ({ cls := "jdk/internal/util/ArraysSupport", name := "hugeLength", desc := "(II)I" } : Jvm.MethodName)) : Cond) ∈ lw_tbl := tb_2 (List.mem_of_getElem? (i := 34) rfl)
theorem w_2_35 : ((Jvm.Cond.static ({ cls := "jdk/internal/util/ArraysSupport", name := "hugeLength", desc := "(II)I" } : Jvm.MethodName)) : Cond) ∈ lw_tbl := tb_2 (List.mem_of_getElem? (i := 35) rfl)
theorem w_2_36 : ((Jvm.Cond.code ({ cls := "jdk/internal/util/ArraysSupport", name := "hugeLength", desc := "(II)I" } : Jvm.MethodName) prog_36_method_28_code (3 : Nat) (Option.some Jvm.ClassFile.FieldType.int)) : Cond) ∈ lw_tbl := tb_2 (List.mem_of_getElem? (i := 36) rfl)
theorem w_2_37 : ((Jvm.Cond.methodLink "java/util/ArrayList" (66 : Nat) ({ cls := "java/util/Arrays", name := "copyOf", desc := "([Ljava/lang/Object;I)[Ljava/lang/Object;" } : Jvm.MethodName)) : Cond) ∈ lw_tbl := tb_2 (List.mem_of_getElem? (i := 37) rfl)
theorem w_2_38 : ((Jvm.Cond.static ({ cls := "java/util/Arrays", name := "copyOf", desc := "([Ljava/lang/Object;I)[Ljava/lang/Object;" } : Jvm.MethodName)) : Cond) ∈ lw_tbl := tb_2 (List.mem_of_getElem? (i := 38) rfl)
theorem w_2_39 : ((Jvm.Cond.code ({ cls := "java/util/Arrays", name := "copyOf", desc := "([Ljava/lang/Object;I)[Ljava/lang/Object;" } : Jvm.MethodName) prog_30_method_119_code (2 : Nat) (Option.some (Jvm.ClassFile.FieldType.array (Jvm.ClassFile.FieldType.object "java/lang/Object")))) : Cond) ∈ lw_tbl := tb_2 (List.mem_of_getElem? (i := 39) rfl)
theorem w_2_40 : ((Jvm.Cond.methodLink "java/util/Arrays" (86 : Nat) ({ cls := "java/lang/Object", name := "getClass", desc := "()Ljava/lang/Class;" } : Jvm.MethodName)) : Cond) ∈ lw_tbl := tb_2 (List.mem_of_getElem? (i := 40) rfl)
theorem w_2_41 : ((Jvm.Cond.instanceMethod ({ cls := "java/lang/Object", name := "getClass", desc := "()Ljava/lang/Class;" } : Jvm.MethodName)) : Cond) ∈ lw_tbl := tb_2 (List.mem_of_getElem? (i := 41) rfl)
theorem w_2_42 : ((Jvm.Cond.sameMethod "java/lang/Object" "java/lang/Object" "getClass" "()Ljava/lang/Class;") : Cond) ∈ lw_tbl := tb_2 (List.mem_of_getElem? (i := 42) rfl)
theorem w_2_43 : ((Jvm.Cond.selects "LaidQuarrel" ({ cls := "java/lang/Object", name := "getClass", desc := "()Ljava/lang/Class;" } : Jvm.MethodName) ({ cls := "java/lang/Object", name := "getClass", desc := "()Ljava/lang/Class;" } : Jvm.MethodName)) : Cond) ∈ lw_tbl := tb_2 (List.mem_of_getElem? (i := 43) rfl)
theorem w_2_44 : ((Jvm.Cond.selects "LaidQuarrel$Bottle" ({ cls := "java/lang/Object", name := "getClass", desc := "()Ljava/lang/Class;" } : Jvm.MethodName) ({ cls := "java/lang/Object", name := "getClass", desc := "()Ljava/lang/Class;" } : Jvm.MethodName)) : Cond) ∈ lw_tbl := tb_2 (List.mem_of_getElem? (i := 44) rfl)
theorem w_2_45 : ((Jvm.Cond.selects "LaidQuarrel$Cellar" ({ cls := "java/lang/Object", name := "getClass", desc := "()Ljava/lang/Class;" } : Jvm.MethodName) ({ cls := "java/lang/Object", name := "getClass", desc := "()Ljava/lang/Class;" } : Jvm.MethodName)) : Cond) ∈ lw_tbl := tb_2 (List.mem_of_getElem? (i := 45) rfl)
theorem w_2_46 : ((Jvm.Cond.selects "LaidQuarrel$Corked" ({ cls := "java/lang/Object", name := "getClass", desc := "()Ljava/lang/Class;" } : Jvm.MethodName) ({ cls := "java/lang/Object", name := "getClass", desc := "()Ljava/lang/Class;" } : Jvm.MethodName)) : Cond) ∈ lw_tbl := tb_2 (List.mem_of_getElem? (i := 46) rfl)
theorem w_2_47 : ((Jvm.Cond.selects "LaidQuarrel$Feud" ({ cls := "java/lang/Object", name := "getClass", desc := "()Ljava/lang/Class;" } : Jvm.MethodName) ({ cls := "java/lang/Object", name := "getClass", desc := "()Ljava/lang/Class;" } : Jvm.MethodName)) : Cond) ∈ lw_tbl := tb_2 (List.mem_of_getElem? (i := 47) rfl)
theorem w_2_48 : ((Jvm.Cond.selects "LaidQuarrel$Hard" ({ cls := "java/lang/Object", name := "getClass", desc := "()Ljava/lang/Class;" } : Jvm.MethodName) ({ cls := "java/lang/Object", name := "getClass", desc := "()Ljava/lang/Class;" } : Jvm.MethodName)) : Cond) ∈ lw_tbl := tb_2 (List.mem_of_getElem? (i := 48) rfl)
theorem w_2_49 : ((Jvm.Cond.selects "LaidQuarrel$Laid" ({ cls := "java/lang/Object", name := "getClass", desc := "()Ljava/lang/Class;" } : Jvm.MethodName) ({ cls := "java/lang/Object", name := "getClass", desc := "()Ljava/lang/Class;" } : Jvm.MethodName)) : Cond) ∈ lw_tbl := tb_2 (List.mem_of_getElem? (i := 49) rfl)
theorem w_2_50 : ((Jvm.Cond.selects "LaidQuarrel$Love" ({ cls := "java/lang/Object", name := "getClass", desc := "()Ljava/lang/Class;" } : Jvm.MethodName) ({ cls := "java/lang/Object", name := "getClass", desc := "()Ljava/lang/Class;" } : Jvm.MethodName)) : Cond) ∈ lw_tbl := tb_2 (List.mem_of_getElem? (i := 50) rfl)
theorem w_2_51 : ((Jvm.Cond.selects "LaidQuarrel$Shelf" ({ cls := "java/lang/Object", name := "getClass", desc := "()Ljava/lang/Class;" } : Jvm.MethodName) ({ cls := "java/lang/Object", name := "getClass", desc := "()Ljava/lang/Class;" } : Jvm.MethodName)) : Cond) ∈ lw_tbl := tb_2 (List.mem_of_getElem? (i := 51) rfl)
theorem w_2_52 : ((Jvm.Cond.selects "LaidQuarrel$Sweet" ({ cls := "java/lang/Object", name := "getClass", desc := "()Ljava/lang/Class;" } : Jvm.MethodName) ({ cls := "java/lang/Object", name := "getClass", desc := "()Ljava/lang/Class;" } : Jvm.MethodName)) : Cond) ∈ lw_tbl := tb_2 (List.mem_of_getElem? (i := 52) rfl)
theorem w_2_53 : ((Jvm.Cond.selects "LaidQuarrel$Told" ({ cls := "java/lang/Object", name := "getClass", desc := "()Ljava/lang/Class;" } : Jvm.MethodName) ({ cls := "java/lang/Object", name := "getClass", desc := "()Ljava/lang/Class;" } : Jvm.MethodName)) : Cond) ∈ lw_tbl := tb_2 (List.mem_of_getElem? (i := 53) rfl)
theorem w_2_54 : ((Jvm.Cond.selects "LaidQuarrelModel" ({ cls := "java/lang/Object", name := "getClass", desc := "()Ljava/lang/Class;" } : Jvm.MethodName) ({ cls := "java/lang/Object", name := "getClass", desc := "()Ljava/lang/Class;" } : Jvm.MethodName)) : Cond) ∈ lw_tbl := tb_2 (List.mem_of_getElem? (i := 54) rfl)
theorem w_2_55 : ((Jvm.Cond.selects "java/util/ArrayList" ({ cls := "java/lang/Object", name := "getClass", desc := "()Ljava/lang/Class;" } : Jvm.MethodName) ({ cls := "java/lang/Object", name := "getClass", desc := "()Ljava/lang/Class;" } : Jvm.MethodName)) : Cond) ∈ lw_tbl := tb_2 (List.mem_of_getElem? (i := 55) rfl)
theorem w_2_56 : ((Jvm.Cond.native ({ cls := "java/lang/Object", name := "getClass", desc := "()Ljava/lang/Class;" } : Jvm.MethodName)) : Cond) ∈ lw_tbl := tb_2 (List.mem_of_getElem? (i := 56) rfl)
theorem w_2_57 : ((Jvm.Cond.methodLink "java/util/Arrays" (300 : Nat) ({ cls := "java/util/Arrays", name := "copyOf", desc := "([Ljava/lang/Object;ILjava/lang/Class;)[Ljava/lang/Object;" } : Jvm.MethodName)) : Cond) ∈ lw_tbl := tb_2 (List.mem_of_getElem? (i := 57) rfl)
theorem w_2_58 : ((Jvm.Cond.static ({ cls := "java/util/Arrays", name := "copyOf", desc := "([Ljava/lang/Object;ILjava/lang/Class;)[Ljava/lang/Object;" } : Jvm.MethodName)) : Cond) ∈ lw_tbl := tb_2 (List.mem_of_getElem? (i := 58) rfl)
theorem w_2_59 : ((Jvm.Cond.code ({ cls := "java/util/Arrays", name := "copyOf", desc := "([Ljava/lang/Object;ILjava/lang/Class;)[Ljava/lang/Object;" } : Jvm.MethodName) prog_30_method_120_code (4 : Nat) (Option.some (Jvm.ClassFile.FieldType.array (Jvm.ClassFile.FieldType.object "java/lang/Object")))) : Cond) ∈ lw_tbl := tb_2 (List.mem_of_getElem? (i := 59) rfl)
theorem w_2_60 : ((Jvm.Cond.classLink "java/util/Arrays" (110 : Nat) "[Ljava/lang/Object;") : Cond) ∈ lw_tbl := tb_2 (List.mem_of_getElem? (i := 60) rfl)
theorem w_2_61 : ((Jvm.Cond.arrayOver (Jvm.ClassFile.FieldType.object "java/lang/Object")) : Cond) ∈ lw_tbl := tb_2 (List.mem_of_getElem? (i := 61) rfl)
theorem w_2_62 : ((Jvm.Cond.classLink "java/util/Arrays" (2 : Nat) "java/lang/Object") : Cond) ∈ lw_tbl := tb_2 (List.mem_of_getElem? (i := 62) rfl)
theorem w_2_63 : ((Jvm.Cond.methodLink "java/util/Arrays" (304 : Nat) ({ cls := "java/lang/Math", name := "min", desc := "(II)I" } : Jvm.MethodName)) : Cond) ∈ lw_tbl := tb_2 (List.mem_of_getElem? (i := 63) rfl)
theorem w_2_64 : ((Jvm.Cond.static ({ cls := "java/lang/Math", name := "min", desc := "(II)I" } : Jvm.MethodName)) : Cond) ∈ lw_tbl := tb_2 (List.mem_of_getElem? (i := 64) rfl)
theorem w_2_65 : ((Jvm.Cond.code ({ cls := "java/lang/Math", name := "min", desc := "(II)I" } : Jvm.MethodName) prog_20_method_69_code (2 : Nat) (Option.some Jvm.ClassFile.FieldType.int)) : Cond) ∈ lw_tbl := tb_2 (List.mem_of_getElem? (i := 65) rfl)
theorem w_2_66 : ((Jvm.Cond.methodLink "java/util/Arrays" (150 : Nat) ({ cls := "java/lang/System", name := "arraycopy", desc := "(Ljava/lang/Object;ILjava/lang/Object;II)V" } : Jvm.MethodName)) : Cond) ∈ lw_tbl := tb_2 (List.mem_of_getElem? (i := 66) rfl)
theorem w_2_67 : ((Jvm.Cond.static ({ cls := "java/lang/System", name := "arraycopy", desc := "(Ljava/lang/Object;ILjava/lang/Object;II)V" } : Jvm.MethodName)) : Cond) ∈ lw_tbl := tb_2 (List.mem_of_getElem? (i := 67) rfl)
theorem w_2_68 : ((Jvm.Cond.native ({ cls := "java/lang/System", name := "arraycopy", desc := "(Ljava/lang/Object;ILjava/lang/Object;II)V" } : Jvm.MethodName)) : Cond) ∈ lw_tbl := tb_2 (List.mem_of_getElem? (i := 68) rfl)
theorem w_2_69 : ((Jvm.Cond.methodLink "java/util/ArrayList" (79 : Nat) ({ cls := "java/lang/Math", name := "max", desc := "(II)I" } : Jvm.MethodName)) : Cond) ∈ lw_tbl := tb_2 (List.mem_of_getElem? (i := 69) rfl)
theorem w_2_70 : ((Jvm.Cond.classLink "java/util/ArrayList" (7 : Nat) "java/lang/Object") : Cond) ∈ lw_tbl := tb_2 (List.mem_of_getElem? (i := 70) rfl)
theorem w_2_71 : ((Jvm.Cond.methodLink "LaidQuarrelLaw" (28 : Nat) ({ cls := "LaidQuarrel", name := "guest", desc := "(I)I" } : Jvm.MethodName)) : Cond) ∈ lw_tbl := tb_2 (List.mem_of_getElem? (i := 71) rfl)
theorem w_2_72 : ((Jvm.Cond.instanceMethod ({ cls := "LaidQuarrel", name := "guest", desc := "(I)I" } : Jvm.MethodName)) : Cond) ∈ lw_tbl := tb_2 (List.mem_of_getElem? (i := 72) rfl)
theorem w_2_73 : ((Jvm.Cond.selects "LaidQuarrel" ({ cls := "LaidQuarrel", name := "guest", desc := "(I)I" } : Jvm.MethodName) ({ cls := "LaidQuarrel", name := "guest", desc := "(I)I" } : Jvm.MethodName)) : Cond) ∈ lw_tbl := tb_2 (List.mem_of_getElem? (i := 73) rfl)
theorem w_2_74 : ((Jvm.Cond.code ({ cls := "LaidQuarrel", name := "guest", desc := "(I)I" } : Jvm.MethodName) prog_1_method_5_code (2 : Nat) (Option.some Jvm.ClassFile.FieldType.int)) : Cond) ∈ lw_tbl := tb_2 (List.mem_of_getElem? (i := 74) rfl)
theorem w_2_75 : ((Jvm.Cond.methodLink "LaidQuarrelLaw" (32 : Nat) ({ cls := "LaidQuarrel", name := "of", desc := "(II)I" } : Jvm.MethodName)) : Cond) ∈ lw_tbl := tb_2 (List.mem_of_getElem? (i := 75) rfl)
theorem w_2_76 : ((Jvm.Cond.instanceMethod ({ cls := "LaidQuarrel", name := "of", desc := "(II)I" } : Jvm.MethodName)) : Cond) ∈ lw_tbl := tb_2 (List.mem_of_getElem? (i := 76) rfl)
theorem w_2_77 : ((Jvm.Cond.selects "LaidQuarrel" ({ cls := "LaidQuarrel", name := "of", desc := "(II)I" } : Jvm.MethodName) ({ cls := "LaidQuarrel", name := "of", desc := "(II)I" } : Jvm.MethodName)) : Cond) ∈ lw_tbl := tb_2 (List.mem_of_getElem? (i := 77) rfl)
theorem w_2_78 : ((Jvm.Cond.code ({ cls := "LaidQuarrel", name := "of", desc := "(II)I" } : Jvm.MethodName) prog_1_method_6_code (4 : Nat) (Option.some Jvm.ClassFile.FieldType.int)) : Cond) ∈ lw_tbl := tb_2 (List.mem_of_getElem? (i := 78) rfl)
theorem w_2_79 : ((Jvm.Cond.methodLink "LaidQuarrel" (124 : Nat) ({ cls := "LaidQuarrel", name := "bottleAt", desc := "(I)LLaidQuarrel$Bottle;" } : Jvm.MethodName)) : Cond) ∈ lw_tbl := tb_2 (List.mem_of_getElem? (i := 79) rfl)
theorem w_2_80 : ((Jvm.Cond.privateMethod ({ cls := "LaidQuarrel", name := "bottleAt", desc := "(I)LLaidQuarrel$Bottle;" } : Jvm.MethodName)) : Cond) ∈ lw_tbl := tb_2 (List.mem_of_getElem? (i := 80) rfl)
theorem w_2_81 : ((Jvm.Cond.instanceMethod ({ cls := "LaidQuarrel", name := "bottleAt", desc := "(I)LLaidQuarrel$Bottle;" } : Jvm.MethodName)) : Cond) ∈ lw_tbl := tb_2 (List.mem_of_getElem? (i := 81) rfl)
theorem w_2_82 : ((Jvm.Cond.code ({ cls := "LaidQuarrel", name := "bottleAt", desc := "(I)LLaidQuarrel$Bottle;" } : Jvm.MethodName) prog_1_method_48_code (2 : Nat) (Option.some (Jvm.ClassFile.FieldType.object "LaidQuarrel$Bottle"))) : Cond) ∈ lw_tbl := tb_2 (List.mem_of_getElem? (i := 82) rfl)
theorem w_2_83 : ((Jvm.Cond.interfaceEntry "LaidQuarrel" (182 : Nat)) : Cond) ∈ lw_tbl := tb_2 (List.mem_of_getElem? (i := 83) rfl)
theorem w_2_84 : ((Jvm.Cond.methodLink "LaidQuarrel" (182 : Nat) ({ cls := "java/util/List", name := "get", desc := "(I)Ljava/lang/Object;" } : Jvm.MethodName)) : Cond) ∈ lw_tbl := tb_2 (List.mem_of_getElem? (i := 84) rfl)
theorem w_2_85 : ((Jvm.Cond.interfaceMethod "java/util/List" "java/util/List" "get" "(I)Ljava/lang/Object;") : Cond) ∈ lw_tbl := tb_2 (List.mem_of_getElem? (i := 85) rfl)
theorem w_2_86 : ((Jvm.Cond.declares ({ cls := "java/util/List", name := "get", desc := "(I)Ljava/lang/Object;" } : Jvm.MethodName)) : Cond) ∈ lw_tbl := tb_2 (List.mem_of_getElem? (i := 86) rfl)
theorem w_2_87 : ((Jvm.Cond.selects "java/util/ArrayList" ({ cls := "java/util/List", name := "get", desc := "(I)Ljava/lang/Object;" } : Jvm.MethodName) ({ cls := "java/util/ArrayList", name := "get", desc := "(I)Ljava/lang/Object;" } : Jvm.MethodName)) : Cond) ∈ lw_tbl := tb_2 (List.mem_of_getElem? (i := 87) rfl)
theorem w_2_88 : ((Jvm.Cond.unhidden "java/util/ArrayList" "get" "(I)Ljava/lang/Object;") : Cond) ∈ lw_tbl := tb_2 (List.mem_of_getElem? (i := 88) rfl)
theorem w_2_89 : ((Jvm.Cond.instanceMethod ({ cls := "java/util/ArrayList", name := "get", desc := "(I)Ljava/lang/Object;" } : Jvm.MethodName)) : Cond) ∈ lw_tbl := tb_2 (List.mem_of_getElem? (i := 89) rfl)
theorem w_2_90 : ((Jvm.Cond.publicMethod ({ cls := "java/util/ArrayList", name := "get", desc := "(I)Ljava/lang/Object;" } : Jvm.MethodName)) : Cond) ∈ lw_tbl := tb_2 (List.mem_of_getElem? (i := 90) rfl)
theorem w_2_91 : ((Jvm.Cond.code ({ cls := "java/util/ArrayList", name := "get", desc := "(I)Ljava/lang/Object;" } : Jvm.MethodName) prog_29_method_20_code (2 : Nat) (Option.some (Jvm.ClassFile.FieldType.object "java/lang/Object"))) : Cond) ∈ lw_tbl := tb_2 (List.mem_of_getElem? (i := 91) rfl)
theorem w_2_92 : ((Jvm.Cond.methodLink "java/util/ArrayList" (118 : Nat) ({ cls := "java/util/Objects", name := "checkIndex", desc := "(II)I" } : Jvm.MethodName)) : Cond) ∈ lw_tbl := tb_2 (List.mem_of_getElem? (i := 92) rfl)
theorem w_2_93 : ((Jvm.Cond.static ({ cls := "java/util/Objects", name := "checkIndex", desc := "(II)I" } : Jvm.MethodName)) : Cond) ∈ lw_tbl := tb_2 (List.mem_of_getElem? (i := 93) rfl)
theorem w_2_94 : ((Jvm.Cond.code ({ cls := "java/util/Objects", name := "checkIndex", desc := "(II)I" } : Jvm.MethodName) prog_33_method_17_code (2 : Nat) (Option.some Jvm.ClassFile.FieldType.int)) : Cond) ∈ lw_tbl := tb_2 (List.mem_of_getElem? (i := 94) rfl)
theorem w_2_95 : ((Jvm.Cond.methodLink "java/util/Objects" (105 : Nat) ({ cls := "jdk/internal/util/Preconditions", name := "checkIndex", desc := "(IILjava/util/function/BiFunction;)I" } : Jvm.MethodName)) : Cond) ∈ lw_tbl := tb_2 (List.mem_of_getElem? (i := 95) rfl)
theorem w_2_96 : ((Jvm.Cond.methodLink "java/util/ArrayList" (123 : Nat) ({ cls := "java/util/ArrayList", name := "elementData", desc := "(I)Ljava/lang/Object;" } : Jvm.MethodName)) : Cond) ∈ lw_tbl := tb_2 (List.mem_of_getElem? (i := 96) rfl)
theorem w_2_97 : ((Jvm.Cond.instanceMethod ({ cls := "java/util/ArrayList", name := "elementData", desc := "(I)Ljava/lang/Object;" } : Jvm.MethodName)) : Cond) ∈ lw_tbl := tb_2 (List.mem_of_getElem? (i := 97) rfl)
theorem w_2_98 : ((Jvm.Cond.selects "java/util/ArrayList" ({ cls := "java/util/ArrayList", name := "elementData", desc := "(I)Ljava/lang/Object;" } : Jvm.MethodName) ({ cls := "java/util/ArrayList", name := "elementData", desc := "(I)Ljava/lang/Object;" } : Jvm.MethodName)) : Cond) ∈ lw_tbl := tb_2 (List.mem_of_getElem? (i := 98) rfl)
theorem w_2_99 : ((Jvm.Cond.code ({ cls := "java/util/ArrayList", name := "elementData", desc := "(I)Ljava/lang/Object;" } : Jvm.MethodName) prog_29_method_18_code (2 : Nat) (Option.some (Jvm.ClassFile.FieldType.object "java/lang/Object"))) : Cond) ∈ lw_tbl := tb_2 (List.mem_of_getElem? (i := 99) rfl)
theorem w_2_100 : ((Jvm.Cond.methodLink "LaidQuarrel" (140 : Nat) ({ cls := "LaidQuarrel$Cellar", name := "softOf", desc := "(LLaidQuarrel$Bottle;LLaidQuarrel$Laid;)I" } : Jvm.MethodName)) : Cond) ∈ lw_tbl := tb_2 (List.mem_of_getElem? (i := 100) rfl)
theorem w_2_101 : ((Jvm.Cond.instanceMethod ({ cls := "LaidQuarrel$Cellar", name := "softOf", desc := "(LLaidQuarrel$Bottle;LLaidQuarrel$Laid;)I" } : Jvm.MethodName)) : Cond) ∈ lw_tbl := tb_2 (List.mem_of_getElem? (i := 101) rfl)
theorem w_2_102 : ((Jvm.Cond.selects "LaidQuarrel$Cellar" ({ cls := "LaidQuarrel$Cellar", name := "softOf", desc := "(LLaidQuarrel$Bottle;LLaidQuarrel$Laid;)I" } : Jvm.MethodName) ({ cls := "LaidQuarrel$Cellar", name := "softOf", desc := "(LLaidQuarrel$Bottle;LLaidQuarrel$Laid;)I" } : Jvm.MethodName)) : Cond) ∈ lw_tbl := tb_2 (List.mem_of_getElem? (i := 102) rfl)
theorem w_2_103 : ((Jvm.Cond.code ({ cls := "LaidQuarrel$Cellar", name := "softOf", desc := "(LLaidQuarrel$Bottle;LLaidQuarrel$Laid;)I" } : Jvm.MethodName) prog_3_method_8_code (8 : Nat) (Option.some Jvm.ClassFile.FieldType.int)) : Cond) ∈ lw_tbl := tb_2 (List.mem_of_getElem? (i := 103) rfl)
theorem w_2_104 : ((Jvm.Cond.methodLink "LaidQuarrel$Cellar" (47 : Nat) ({ cls := "LaidQuarrel$Cellar", name := "holds", desc := "(IILLaidQuarrel$Bottle;LLaidQuarrel$Laid;)Z" } : Jvm.MethodName)) : Cond) ∈ lw_tbl := tb_2 (List.mem_of_getElem? (i := 104) rfl)
theorem w_2_105 : ((Jvm.Cond.privateMethod ({ cls := "LaidQuarrel$Cellar", name := "holds", desc := "(IILLaidQuarrel$Bottle;LLaidQuarrel$Laid;)Z" } : Jvm.MethodName)) : Cond) ∈ lw_tbl := tb_2 (List.mem_of_getElem? (i := 105) rfl)
theorem w_2_106 : ((Jvm.Cond.instanceMethod ({ cls := "LaidQuarrel$Cellar", name := "holds", desc := "(IILLaidQuarrel$Bottle;LLaidQuarrel$Laid;)Z" } : Jvm.MethodName)) : Cond) ∈ lw_tbl := tb_2 (List.mem_of_getElem? (i := 106) rfl)
theorem w_2_107 : ((Jvm.Cond.code ({ cls := "LaidQuarrel$Cellar", name := "holds", desc := "(IILLaidQuarrel$Bottle;LLaidQuarrel$Laid;)Z" } : Jvm.MethodName) prog_3_method_9_code (7 : Nat) (Option.some Jvm.ClassFile.FieldType.boolean)) : Cond) ∈ lw_tbl := tb_2 (List.mem_of_getElem? (i := 107) rfl)
theorem w_2_108 : ((Jvm.Cond.methodLink "LaidQuarrel$Cellar" (61 : Nat) ({ cls := "LaidQuarrel$Cellar", name := "testHolds", desc := "(ILLaidQuarrel$Bottle;LLaidQuarrel$Laid;)Z" } : Jvm.MethodName)) : Cond) ∈ lw_tbl := tb_2 (List.mem_of_getElem? (i := 108) rfl)
theorem w_2_109 : ((Jvm.Cond.privateMethod ({ cls := "LaidQuarrel$Cellar", name := "testHolds", desc := "(ILLaidQuarrel$Bottle;LLaidQuarrel$Laid;)Z" } : Jvm.MethodName)) : Cond) ∈ lw_tbl := tb_2 (List.mem_of_getElem? (i := 109) rfl)
theorem w_2_110 : ((Jvm.Cond.instanceMethod ({ cls := "LaidQuarrel$Cellar", name := "testHolds", desc := "(ILLaidQuarrel$Bottle;LLaidQuarrel$Laid;)Z" } : Jvm.MethodName)) : Cond) ∈ lw_tbl := tb_2 (List.mem_of_getElem? (i := 110) rfl)
theorem w_2_111 : ((Jvm.Cond.code ({ cls := "LaidQuarrel$Cellar", name := "testHolds", desc := "(ILLaidQuarrel$Bottle;LLaidQuarrel$Laid;)Z" } : Jvm.MethodName) prog_3_method_10_code (6 : Nat) (Option.some Jvm.ClassFile.FieldType.boolean)) : Cond) ∈ lw_tbl := tb_2 (List.mem_of_getElem? (i := 111) rfl)
theorem w_2_112 : ((Jvm.Cond.methodLink "LaidQuarrel$Cellar" (65 : Nat) ({ cls := "LaidQuarrel$Cellar", name := "factOf", desc := "(ILLaidQuarrel$Bottle;LLaidQuarrel$Laid;)I" } : Jvm.MethodName)) : Cond) ∈ lw_tbl := tb_2 (List.mem_of_getElem? (i := 112) rfl)
theorem w_2_113 : ((Jvm.Cond.static ({ cls := "LaidQuarrel$Cellar", name := "factOf", desc := "(ILLaidQuarrel$Bottle;LLaidQuarrel$Laid;)I" } : Jvm.MethodName)) : Cond) ∈ lw_tbl := tb_2 (List.mem_of_getElem? (i := 113) rfl)
theorem w_2_114 : ((Jvm.Cond.code ({ cls := "LaidQuarrel$Cellar", name := "factOf", desc := "(ILLaidQuarrel$Bottle;LLaidQuarrel$Laid;)I" } : Jvm.MethodName) prog_3_method_11_code (3 : Nat) (Option.some Jvm.ClassFile.FieldType.int)) : Cond) ∈ lw_tbl := tb_2 (List.mem_of_getElem? (i := 114) rfl)
theorem w_2_115 : ((Jvm.Cond.methodLink "LaidQuarrel$Cellar" (86 : Nat) ({ cls := "java/lang/Math", name := "abs", desc := "(I)I" } : Jvm.MethodName)) : Cond) ∈ lw_tbl := tb_2 (List.mem_of_getElem? (i := 115) rfl)
theorem w_2_116 : ((Jvm.Cond.static ({ cls := "java/lang/Math", name := "abs", desc := "(I)I" } : Jvm.MethodName)) : Cond) ∈ lw_tbl := tb_2 (List.mem_of_getElem? (i := 116) rfl)
theorem w_2_117 : ((Jvm.Cond.code ({ cls := "java/lang/Math", name := "abs", desc := "(I)I" } : Jvm.MethodName) prog_20_method_59_code (1 : Nat) (Option.some Jvm.ClassFile.FieldType.int)) : Cond) ∈ lw_tbl := tb_2 (List.mem_of_getElem? (i := 117) rfl)
theorem w_2_118 : ((Jvm.Cond.methodLink "LaidQuarrel$Cellar" (56 : Nat) ({ cls := "java/lang/Math", name := "max", desc := "(II)I" } : Jvm.MethodName)) : Cond) ∈ lw_tbl := tb_2 (List.mem_of_getElem? (i := 118) rfl)
theorem w_2_119 : ((Jvm.Cond.methodLink "LaidQuarrel" (144 : Nat) ({ cls := "LaidQuarrel", name := "says", desc := "(LLaidQuarrel$Bottle;LLaidQuarrel$Laid;)I" } : Jvm.MethodName)) : Cond) ∈ lw_tbl := tb_2 (List.mem_of_getElem? (i := 119) rfl)
theorem w_2_120 : ((Jvm.Cond.privateMethod ({ cls := "LaidQuarrel", name := "says", desc := "(LLaidQuarrel$Bottle;LLaidQuarrel$Laid;)I" } : Jvm.MethodName)) : Cond) ∈ lw_tbl := tb_2 (List.mem_of_getElem? (i := 120) rfl)
theorem w_2_121 : ((Jvm.Cond.instanceMethod ({ cls := "LaidQuarrel", name := "says", desc := "(LLaidQuarrel$Bottle;LLaidQuarrel$Laid;)I" } : Jvm.MethodName)) : Cond) ∈ lw_tbl := tb_2 (List.mem_of_getElem? (i := 121) rfl)
theorem w_2_122 : ((Jvm.Cond.code ({ cls := "LaidQuarrel", name := "says", desc := "(LLaidQuarrel$Bottle;LLaidQuarrel$Laid;)I" } : Jvm.MethodName) prog_1_method_50_code (3 : Nat) (Option.some Jvm.ClassFile.FieldType.int)) : Cond) ∈ lw_tbl := tb_2 (List.mem_of_getElem? (i := 122) rfl)
theorem w_2_123 : ((Jvm.Cond.methodLink "LaidQuarrel" (313 : Nat) ({ cls := "LaidQuarrel$Bottle", name := "spoken", desc := "(LLaidQuarrel$Laid;I)I" } : Jvm.MethodName)) : Cond) ∈ lw_tbl := tb_2 (List.mem_of_getElem? (i := 123) rfl)
theorem w_2_124 : ((Jvm.Cond.instanceMethod ({ cls := "LaidQuarrel$Bottle", name := "spoken", desc := "(LLaidQuarrel$Laid;I)I" } : Jvm.MethodName)) : Cond) ∈ lw_tbl := tb_2 (List.mem_of_getElem? (i := 124) rfl)
theorem w_2_125 : ((Jvm.Cond.selects "LaidQuarrel$Bottle" ({ cls := "LaidQuarrel$Bottle", name := "spoken", desc := "(LLaidQuarrel$Laid;I)I" } : Jvm.MethodName) ({ cls := "LaidQuarrel$Bottle", name := "spoken", desc := "(LLaidQuarrel$Laid;I)I" } : Jvm.MethodName)) : Cond) ∈ lw_tbl := tb_2 (List.mem_of_getElem? (i := 125) rfl)
theorem w_2_126 : ((Jvm.Cond.sameMethod "LaidQuarrel$Bottle" "LaidQuarrel$Bottle" "spoken" "(LLaidQuarrel$Laid;I)I") : Cond) ∈ lw_tbl := tb_2 (List.mem_of_getElem? (i := 126) rfl)
theorem w_2_127 : ((Jvm.Cond.selects "LaidQuarrel$Corked" ({ cls := "LaidQuarrel$Bottle", name := "spoken", desc := "(LLaidQuarrel$Laid;I)I" } : Jvm.MethodName) ({ cls := "LaidQuarrel$Corked", name := "spoken", desc := "(LLaidQuarrel$Laid;I)I" } : Jvm.MethodName)) : Cond) ∈ lw_tbl := tb_2 (List.mem_of_getElem? (i := 127) rfl)
theorem w_2_128 : ((Jvm.Cond.instanceMethod ({ cls := "LaidQuarrel$Corked", name := "spoken", desc := "(LLaidQuarrel$Laid;I)I" } : Jvm.MethodName)) : Cond) ∈ lw_tbl := tb_2 (List.mem_of_getElem? (i := 128) rfl)
theorem w_2_129 : ((Jvm.Cond.code ({ cls := "LaidQuarrel$Corked", name := "spoken", desc := "(LLaidQuarrel$Laid;I)I" } : Jvm.MethodName) prog_4_method_2_code (4 : Nat) (Option.some Jvm.ClassFile.FieldType.int)) : Cond) ∈ lw_tbl := tb_2 (List.mem_of_getElem? (i := 129) rfl)
theorem w_2_130 : ((Jvm.Cond.methodLink "LaidQuarrel$Corked" (7 : Nat) ({ cls := "LaidQuarrel$Bottle", name := "spoken", desc := "(LLaidQuarrel$Laid;I)I" } : Jvm.MethodName)) : Cond) ∈ lw_tbl := tb_2 (List.mem_of_getElem? (i := 130) rfl)
theorem w_2_131 : ((Jvm.Cond.selects "LaidQuarrel$Feud" ({ cls := "LaidQuarrel$Bottle", name := "spoken", desc := "(LLaidQuarrel$Laid;I)I" } : Jvm.MethodName) ({ cls := "LaidQuarrel$Feud", name := "spoken", desc := "(LLaidQuarrel$Laid;I)I" } : Jvm.MethodName)) : Cond) ∈ lw_tbl := tb_2 (List.mem_of_getElem? (i := 131) rfl)
theorem w_2_132 : ((Jvm.Cond.instanceMethod ({ cls := "LaidQuarrel$Feud", name := "spoken", desc := "(LLaidQuarrel$Laid;I)I" } : Jvm.MethodName)) : Cond) ∈ lw_tbl := tb_2 (List.mem_of_getElem? (i := 132) rfl)
theorem w_2_133 : ((Jvm.Cond.code ({ cls := "LaidQuarrel$Feud", name := "spoken", desc := "(LLaidQuarrel$Laid;I)I" } : Jvm.MethodName) prog_5_method_2_code (4 : Nat) (Option.some Jvm.ClassFile.FieldType.int)) : Cond) ∈ lw_tbl := tb_2 (List.mem_of_getElem? (i := 133) rfl)
theorem w_2_134 : ((Jvm.Cond.methodLink "LaidQuarrel$Feud" (7 : Nat) ({ cls := "LaidQuarrel$Hard", name := "spoken", desc := "(LLaidQuarrel$Laid;I)I" } : Jvm.MethodName)) : Cond) ∈ lw_tbl := tb_2 (List.mem_of_getElem? (i := 134) rfl)
theorem w_2_135 : ((Jvm.Cond.instanceMethod ({ cls := "LaidQuarrel$Hard", name := "spoken", desc := "(LLaidQuarrel$Laid;I)I" } : Jvm.MethodName)) : Cond) ∈ lw_tbl := tb_2 (List.mem_of_getElem? (i := 135) rfl)
theorem w_2_136 : ((Jvm.Cond.code ({ cls := "LaidQuarrel$Hard", name := "spoken", desc := "(LLaidQuarrel$Laid;I)I" } : Jvm.MethodName) prog_6_method_2_code (3 : Nat) (Option.some Jvm.ClassFile.FieldType.int)) : Cond) ∈ lw_tbl := tb_2 (List.mem_of_getElem? (i := 136) rfl)
theorem w_2_137 : ((Jvm.Cond.methodLinkNest "LaidQuarrel$Hard" (13 : Nat) ({ cls := "LaidQuarrel", name := "nearer", desc := "(II)I" } : Jvm.MethodName) "LaidQuarrel") : Cond) ∈ lw_tbl := tb_2 (List.mem_of_getElem? (i := 137) rfl)
theorem w_2_138 : ((Jvm.Cond.static ({ cls := "LaidQuarrel", name := "nearer", desc := "(II)I" } : Jvm.MethodName)) : Cond) ∈ lw_tbl := tb_2 (List.mem_of_getElem? (i := 138) rfl)
theorem w_2_139 : ((Jvm.Cond.code ({ cls := "LaidQuarrel", name := "nearer", desc := "(II)I" } : Jvm.MethodName) prog_1_method_41_code (2 : Nat) (Option.some Jvm.ClassFile.FieldType.int)) : Cond) ∈ lw_tbl := tb_2 (List.mem_of_getElem? (i := 139) rfl)
theorem w_2_140 : ((Jvm.Cond.methodLink "LaidQuarrel" (286 : Nat) ({ cls := "java/lang/Math", name := "min", desc := "(II)I" } : Jvm.MethodName)) : Cond) ∈ lw_tbl := tb_2 (List.mem_of_getElem? (i := 140) rfl)
theorem w_2_141 : ((Jvm.Cond.methodLink "LaidQuarrel" (289 : Nat) ({ cls := "java/lang/Math", name := "max", desc := "(II)I" } : Jvm.MethodName)) : Cond) ∈ lw_tbl := tb_2 (List.mem_of_getElem? (i := 141) rfl)
theorem w_2_142 : ((Jvm.Cond.selects "LaidQuarrel$Hard" ({ cls := "LaidQuarrel$Bottle", name := "spoken", desc := "(LLaidQuarrel$Laid;I)I" } : Jvm.MethodName) ({ cls := "LaidQuarrel$Hard", name := "spoken", desc := "(LLaidQuarrel$Laid;I)I" } : Jvm.MethodName)) : Cond) ∈ lw_tbl := tb_2 (List.mem_of_getElem? (i := 142) rfl)
theorem w_2_143 : ((Jvm.Cond.selects "LaidQuarrel$Love" ({ cls := "LaidQuarrel$Bottle", name := "spoken", desc := "(LLaidQuarrel$Laid;I)I" } : Jvm.MethodName) ({ cls := "LaidQuarrel$Love", name := "spoken", desc := "(LLaidQuarrel$Laid;I)I" } : Jvm.MethodName)) : Cond) ∈ lw_tbl := tb_2 (List.mem_of_getElem? (i := 143) rfl)
theorem w_2_144 : ((Jvm.Cond.instanceMethod ({ cls := "LaidQuarrel$Love", name := "spoken", desc := "(LLaidQuarrel$Laid;I)I" } : Jvm.MethodName)) : Cond) ∈ lw_tbl := tb_2 (List.mem_of_getElem? (i := 144) rfl)
theorem w_2_145 : ((Jvm.Cond.code ({ cls := "LaidQuarrel$Love", name := "spoken", desc := "(LLaidQuarrel$Laid;I)I" } : Jvm.MethodName) prog_8_method_2_code (4 : Nat) (Option.some Jvm.ClassFile.FieldType.int)) : Cond) ∈ lw_tbl := tb_2 (List.mem_of_getElem? (i := 145) rfl)
theorem w_2_146 : ((Jvm.Cond.methodLink "LaidQuarrel$Love" (7 : Nat) ({ cls := "LaidQuarrel$Sweet", name := "spoken", desc := "(LLaidQuarrel$Laid;I)I" } : Jvm.MethodName)) : Cond) ∈ lw_tbl := tb_2 (List.mem_of_getElem? (i := 146) rfl)
theorem w_2_147 : ((Jvm.Cond.instanceMethod ({ cls := "LaidQuarrel$Sweet", name := "spoken", desc := "(LLaidQuarrel$Laid;I)I" } : Jvm.MethodName)) : Cond) ∈ lw_tbl := tb_2 (List.mem_of_getElem? (i := 147) rfl)
theorem w_2_148 : ((Jvm.Cond.code ({ cls := "LaidQuarrel$Sweet", name := "spoken", desc := "(LLaidQuarrel$Laid;I)I" } : Jvm.MethodName) prog_10_method_2_code (3 : Nat) (Option.some Jvm.ClassFile.FieldType.int)) : Cond) ∈ lw_tbl := tb_2 (List.mem_of_getElem? (i := 148) rfl)
theorem w_2_149 : ((Jvm.Cond.methodLinkNest "LaidQuarrel$Sweet" (13 : Nat) ({ cls := "LaidQuarrel", name := "nearer", desc := "(II)I" } : Jvm.MethodName) "LaidQuarrel") : Cond) ∈ lw_tbl := tb_2 (List.mem_of_getElem? (i := 149) rfl)
theorem w_2_150 : ((Jvm.Cond.selects "LaidQuarrel$Sweet" ({ cls := "LaidQuarrel$Bottle", name := "spoken", desc := "(LLaidQuarrel$Laid;I)I" } : Jvm.MethodName) ({ cls := "LaidQuarrel$Sweet", name := "spoken", desc := "(LLaidQuarrel$Laid;I)I" } : Jvm.MethodName)) : Cond) ∈ lw_tbl := tb_2 (List.mem_of_getElem? (i := 150) rfl)
theorem w_2_151 : ((Jvm.Cond.selects "LaidQuarrel$Told" ({ cls := "LaidQuarrel$Bottle", name := "spoken", desc := "(LLaidQuarrel$Laid;I)I" } : Jvm.MethodName) ({ cls := "LaidQuarrel$Told", name := "spoken", desc := "(LLaidQuarrel$Laid;I)I" } : Jvm.MethodName)) : Cond) ∈ lw_tbl := tb_2 (List.mem_of_getElem? (i := 151) rfl)
theorem w_2_152 : ((Jvm.Cond.instanceMethod ({ cls := "LaidQuarrel$Told", name := "spoken", desc := "(LLaidQuarrel$Laid;I)I" } : Jvm.MethodName)) : Cond) ∈ lw_tbl := tb_2 (List.mem_of_getElem? (i := 152) rfl)
theorem w_2_153 : ((Jvm.Cond.code ({ cls := "LaidQuarrel$Told", name := "spoken", desc := "(LLaidQuarrel$Laid;I)I" } : Jvm.MethodName) prog_11_method_2_code (3 : Nat) (Option.some Jvm.ClassFile.FieldType.int)) : Cond) ∈ lw_tbl := tb_2 (List.mem_of_getElem? (i := 153) rfl)
theorem w_2_154 : ((Jvm.Cond.methodLink "LaidQuarrel$Told" (7 : Nat) ({ cls := "LaidQuarrel$Corked", name := "spoken", desc := "(LLaidQuarrel$Laid;I)I" } : Jvm.MethodName)) : Cond) ∈ lw_tbl := tb_2 (List.mem_of_getElem? (i := 154) rfl)
theorem w_2_155 : ((Jvm.Cond.methodLink "LaidQuarrel$Told" (11 : Nat) ({ cls := "LaidQuarrel$Laid", name := "telling", desc := "()I" } : Jvm.MethodName)) : Cond) ∈ lw_tbl := tb_2 (List.mem_of_getElem? (i := 155) rfl)
theorem w_2_156 : ((Jvm.Cond.instanceMethod ({ cls := "LaidQuarrel$Laid", name := "telling", desc := "()I" } : Jvm.MethodName)) : Cond) ∈ lw_tbl := tb_2 (List.mem_of_getElem? (i := 156) rfl)
theorem w_2_157 : ((Jvm.Cond.selects "LaidQuarrel$Laid" ({ cls := "LaidQuarrel$Laid", name := "telling", desc := "()I" } : Jvm.MethodName) ({ cls := "LaidQuarrel$Laid", name := "telling", desc := "()I" } : Jvm.MethodName)) : Cond) ∈ lw_tbl := tb_2 (List.mem_of_getElem? (i := 157) rfl)
theorem w_2_158 : ((Jvm.Cond.code ({ cls := "LaidQuarrel$Laid", name := "telling", desc := "()I" } : Jvm.MethodName) prog_7_method_5_code (1 : Nat) (Option.some Jvm.ClassFile.FieldType.int)) : Cond) ∈ lw_tbl := tb_2 (List.mem_of_getElem? (i := 158) rfl)
theorem w_2_159 : ((Jvm.Cond.code ({ cls := "LaidQuarrel$Bottle", name := "spoken", desc := "(LLaidQuarrel$Laid;I)I" } : Jvm.MethodName) prog_2_method_6_code (3 : Nat) (Option.some Jvm.ClassFile.FieldType.int)) : Cond) ∈ lw_tbl := tb_2 (List.mem_of_getElem? (i := 159) rfl)
theorem w_2_160 : ((Jvm.Cond.methodLinkNest "LaidQuarrel$Bottle" (44 : Nat) ({ cls := "LaidQuarrel", name := "nearer", desc := "(II)I" } : Jvm.MethodName) "LaidQuarrel") : Cond) ∈ lw_tbl := tb_2 (List.mem_of_getElem? (i := 160) rfl)
theorem w_2_161 : ((Jvm.Cond.methodLink "LaidQuarrelLaw" (37 : Nat) ({ cls := "LaidQuarrel", name := "row", desc := "(III)I" } : Jvm.MethodName)) : Cond) ∈ lw_tbl := tb_2 (List.mem_of_getElem? (i := 161) rfl)
theorem w_2_162 : ((Jvm.Cond.instanceMethod ({ cls := "LaidQuarrel", name := "row", desc := "(III)I" } : Jvm.MethodName)) : Cond) ∈ lw_tbl := tb_2 (List.mem_of_getElem? (i := 162) rfl)
theorem w_2_163 : ((Jvm.Cond.selects "LaidQuarrel" ({ cls := "LaidQuarrel", name := "row", desc := "(III)I" } : Jvm.MethodName) ({ cls := "LaidQuarrel", name := "row", desc := "(III)I" } : Jvm.MethodName)) : Cond) ∈ lw_tbl := tb_2 (List.mem_of_getElem? (i := 163) rfl)
theorem w_2_164 : ((Jvm.Cond.code ({ cls := "LaidQuarrel", name := "row", desc := "(III)I" } : Jvm.MethodName) prog_1_method_7_code (5 : Nat) (Option.some Jvm.ClassFile.FieldType.int)) : Cond) ∈ lw_tbl := tb_2 (List.mem_of_getElem? (i := 164) rfl)
theorem w_2_165 : ((Jvm.Cond.methodLink "LaidQuarrel" (147 : Nat) ({ cls := "LaidQuarrel$Laid", name := "tell", desc := "(II)I" } : Jvm.MethodName)) : Cond) ∈ lw_tbl := tb_2 (List.mem_of_getElem? (i := 165) rfl)
theorem w_2_166 : ((Jvm.Cond.instanceMethod ({ cls := "LaidQuarrel$Laid", name := "tell", desc := "(II)I" } : Jvm.MethodName)) : Cond) ∈ lw_tbl := tb_2 (List.mem_of_getElem? (i := 166) rfl)
theorem w_2_167 : ((Jvm.Cond.selects "LaidQuarrel$Laid" ({ cls := "LaidQuarrel$Laid", name := "tell", desc := "(II)I" } : Jvm.MethodName) ({ cls := "LaidQuarrel$Laid", name := "tell", desc := "(II)I" } : Jvm.MethodName)) : Cond) ∈ lw_tbl := tb_2 (List.mem_of_getElem? (i := 167) rfl)
theorem w_2_168 : ((Jvm.Cond.code ({ cls := "LaidQuarrel$Laid", name := "tell", desc := "(II)I" } : Jvm.MethodName) prog_7_method_4_code (4 : Nat) (Option.some Jvm.ClassFile.FieldType.int)) : Cond) ∈ lw_tbl := tb_2 (List.mem_of_getElem? (i := 168) rfl)
theorem w_2_169 : ((Jvm.Cond.methodLink "LaidQuarrelLaw" (41 : Nat) ({ cls := "LaidQuarrel", name := "set", desc := "(III)I" } : Jvm.MethodName)) : Cond) ∈ lw_tbl := tb_2 (List.mem_of_getElem? (i := 169) rfl)
theorem w_2_170 : ((Jvm.Cond.instanceMethod ({ cls := "LaidQuarrel", name := "set", desc := "(III)I" } : Jvm.MethodName)) : Cond) ∈ lw_tbl := tb_2 (List.mem_of_getElem? (i := 170) rfl)
theorem w_2_171 : ((Jvm.Cond.selects "LaidQuarrel" ({ cls := "LaidQuarrel", name := "set", desc := "(III)I" } : Jvm.MethodName) ({ cls := "LaidQuarrel", name := "set", desc := "(III)I" } : Jvm.MethodName)) : Cond) ∈ lw_tbl := tb_2 (List.mem_of_getElem? (i := 171) rfl)
theorem w_2_172 : ((Jvm.Cond.code ({ cls := "LaidQuarrel", name := "set", desc := "(III)I" } : Jvm.MethodName) prog_1_method_8_code (6 : Nat) (Option.some Jvm.ClassFile.FieldType.int)) : Cond) ∈ lw_tbl := tb_2 (List.mem_of_getElem? (i := 172) rfl)
theorem w_2_173 : ((Jvm.Cond.methodLink "LaidQuarrelLaw" (45 : Nat) ({ cls := "LaidQuarrel", name := "mood", desc := "(I)I" } : Jvm.MethodName)) : Cond) ∈ lw_tbl := tb_2 (List.mem_of_getElem? (i := 173) rfl)
theorem w_2_174 : ((Jvm.Cond.instanceMethod ({ cls := "LaidQuarrel", name := "mood", desc := "(I)I" } : Jvm.MethodName)) : Cond) ∈ lw_tbl := tb_2 (List.mem_of_getElem? (i := 174) rfl)
theorem w_2_175 : ((Jvm.Cond.selects "LaidQuarrel" ({ cls := "LaidQuarrel", name := "mood", desc := "(I)I" } : Jvm.MethodName) ({ cls := "LaidQuarrel", name := "mood", desc := "(I)I" } : Jvm.MethodName)) : Cond) ∈ lw_tbl := tb_2 (List.mem_of_getElem? (i := 175) rfl)
theorem w_2_176 : ((Jvm.Cond.code ({ cls := "LaidQuarrel", name := "mood", desc := "(I)I" } : Jvm.MethodName) prog_1_method_9_code (2 : Nat) (Option.some Jvm.ClassFile.FieldType.int)) : Cond) ∈ lw_tbl := tb_2 (List.mem_of_getElem? (i := 176) rfl)
theorem w_2_177 : ((Jvm.Cond.methodLink "LaidQuarrel" (151 : Nat) ({ cls := "LaidQuarrel", name := "isGuest", desc := "(I)Z" } : Jvm.MethodName)) : Cond) ∈ lw_tbl := tb_2 (List.mem_of_getElem? (i := 177) rfl)
theorem w_2_178 : ((Jvm.Cond.privateMethod ({ cls := "LaidQuarrel", name := "isGuest", desc := "(I)Z" } : Jvm.MethodName)) : Cond) ∈ lw_tbl := tb_2 (List.mem_of_getElem? (i := 178) rfl)
theorem w_2_179 : ((Jvm.Cond.instanceMethod ({ cls := "LaidQuarrel", name := "isGuest", desc := "(I)Z" } : Jvm.MethodName)) : Cond) ∈ lw_tbl := tb_2 (List.mem_of_getElem? (i := 179) rfl)
theorem w_2_180 : ((Jvm.Cond.code ({ cls := "LaidQuarrel", name := "isGuest", desc := "(I)Z" } : Jvm.MethodName) prog_1_method_47_code (2 : Nat) (Option.some Jvm.ClassFile.FieldType.boolean)) : Cond) ∈ lw_tbl := tb_2 (List.mem_of_getElem? (i := 180) rfl)
theorem w_2_181 : ((Jvm.Cond.methodLink "LaidQuarrel" (155 : Nat) ({ cls := "LaidQuarrel$Shelf", name := "at", desc := "(II)I" } : Jvm.MethodName)) : Cond) ∈ lw_tbl := tb_2 (List.mem_of_getElem? (i := 181) rfl)
theorem w_2_182 : ((Jvm.Cond.methodLink "LaidQuarrelLaw" (49 : Nat) ({ cls := "LaidQuarrel", name := "told", desc := "(I)I" } : Jvm.MethodName)) : Cond) ∈ lw_tbl := tb_2 (List.mem_of_getElem? (i := 182) rfl)
theorem w_2_183 : ((Jvm.Cond.instanceMethod ({ cls := "LaidQuarrel", name := "told", desc := "(I)I" } : Jvm.MethodName)) : Cond) ∈ lw_tbl := tb_2 (List.mem_of_getElem? (i := 183) rfl)
theorem w_2_184 : ((Jvm.Cond.selects "LaidQuarrel" ({ cls := "LaidQuarrel", name := "told", desc := "(I)I" } : Jvm.MethodName) ({ cls := "LaidQuarrel", name := "told", desc := "(I)I" } : Jvm.MethodName)) : Cond) ∈ lw_tbl := tb_2 (List.mem_of_getElem? (i := 184) rfl)
theorem w_2_185 : ((Jvm.Cond.code ({ cls := "LaidQuarrel", name := "told", desc := "(I)I" } : Jvm.MethodName) prog_1_method_10_code (2 : Nat) (Option.some Jvm.ClassFile.FieldType.int)) : Cond) ∈ lw_tbl := tb_2 (List.mem_of_getElem? (i := 185) rfl)
theorem w_2_186 : ((Jvm.Cond.methodLink "LaidQuarrel" (161 : Nat) ({ cls := "LaidQuarrel$Cellar", name := "calm", desc := "()I" } : Jvm.MethodName)) : Cond) ∈ lw_tbl := tb_2 (List.mem_of_getElem? (i := 186) rfl)
theorem w_2_187 : ((Jvm.Cond.instanceMethod ({ cls := "LaidQuarrel$Cellar", name := "calm", desc := "()I" } : Jvm.MethodName)) : Cond) ∈ lw_tbl := tb_2 (List.mem_of_getElem? (i := 187) rfl)
theorem w_2_188 : ((Jvm.Cond.selects "LaidQuarrel$Cellar" ({ cls := "LaidQuarrel$Cellar", name := "calm", desc := "()I" } : Jvm.MethodName) ({ cls := "LaidQuarrel$Cellar", name := "calm", desc := "()I" } : Jvm.MethodName)) : Cond) ∈ lw_tbl := tb_2 (List.mem_of_getElem? (i := 188) rfl)
theorem w_2_189 : ((Jvm.Cond.code ({ cls := "LaidQuarrel$Cellar", name := "calm", desc := "()I" } : Jvm.MethodName) prog_3_method_5_code (1 : Nat) (Option.some Jvm.ClassFile.FieldType.int)) : Cond) ∈ lw_tbl := tb_2 (List.mem_of_getElem? (i := 189) rfl)
theorem w_2_190 : ((Jvm.Cond.methodLink "LaidQuarrel$Cellar" (36 : Nat) ({ cls := "LaidQuarrel$Cellar", name := "lastOf", desc := "(II)I" } : Jvm.MethodName)) : Cond) ∈ lw_tbl := tb_2 (List.mem_of_getElem? (i := 190) rfl)
theorem w_2_191 : ((Jvm.Cond.privateMethod ({ cls := "LaidQuarrel$Cellar", name := "lastOf", desc := "(II)I" } : Jvm.MethodName)) : Cond) ∈ lw_tbl := tb_2 (List.mem_of_getElem? (i := 191) rfl)
theorem w_2_192 : ((Jvm.Cond.instanceMethod ({ cls := "LaidQuarrel$Cellar", name := "lastOf", desc := "(II)I" } : Jvm.MethodName)) : Cond) ∈ lw_tbl := tb_2 (List.mem_of_getElem? (i := 192) rfl)
theorem w_2_193 : ((Jvm.Cond.code ({ cls := "LaidQuarrel$Cellar", name := "lastOf", desc := "(II)I" } : Jvm.MethodName) prog_3_method_7_code (5 : Nat) (Option.some Jvm.ClassFile.FieldType.int)) : Cond) ∈ lw_tbl := tb_2 (List.mem_of_getElem? (i := 193) rfl)
theorem w_2_194 : ((Jvm.Cond.methodLink "LaidQuarrel" (164 : Nat) ({ cls := "LaidQuarrel$Cellar", name := "peace", desc := "()I" } : Jvm.MethodName)) : Cond) ∈ lw_tbl := tb_2 (List.mem_of_getElem? (i := 194) rfl)
theorem w_2_195 : ((Jvm.Cond.instanceMethod ({ cls := "LaidQuarrel$Cellar", name := "peace", desc := "()I" } : Jvm.MethodName)) : Cond) ∈ lw_tbl := tb_2 (List.mem_of_getElem? (i := 195) rfl)
theorem w_2_196 : ((Jvm.Cond.selects "LaidQuarrel$Cellar" ({ cls := "LaidQuarrel$Cellar", name := "peace", desc := "()I" } : Jvm.MethodName) ({ cls := "LaidQuarrel$Cellar", name := "peace", desc := "()I" } : Jvm.MethodName)) : Cond) ∈ lw_tbl := tb_2 (List.mem_of_getElem? (i := 196) rfl)
theorem w_2_197 : ((Jvm.Cond.code ({ cls := "LaidQuarrel$Cellar", name := "peace", desc := "()I" } : Jvm.MethodName) prog_3_method_6_code (1 : Nat) (Option.some Jvm.ClassFile.FieldType.int)) : Cond) ∈ lw_tbl := tb_2 (List.mem_of_getElem? (i := 197) rfl)
theorem w_2_198 : ((Jvm.Cond.methodLink "LaidQuarrel" (167 : Nat) ({ cls := "LaidQuarrel", name := "fullOnes", desc := "()I" } : Jvm.MethodName)) : Cond) ∈ lw_tbl := tb_2 (List.mem_of_getElem? (i := 198) rfl)
theorem w_2_199 : ((Jvm.Cond.privateMethod ({ cls := "LaidQuarrel", name := "fullOnes", desc := "()I" } : Jvm.MethodName)) : Cond) ∈ lw_tbl := tb_2 (List.mem_of_getElem? (i := 199) rfl)
theorem w_2_200 : ((Jvm.Cond.instanceMethod ({ cls := "LaidQuarrel", name := "fullOnes", desc := "()I" } : Jvm.MethodName)) : Cond) ∈ lw_tbl := tb_2 (List.mem_of_getElem? (i := 200) rfl)
theorem w_2_201 : ((Jvm.Cond.code ({ cls := "LaidQuarrel", name := "fullOnes", desc := "()I" } : Jvm.MethodName) prog_1_method_52_code (3 : Nat) (Option.some Jvm.ClassFile.FieldType.int)) : Cond) ∈ lw_tbl := tb_2 (List.mem_of_getElem? (i := 201) rfl)
theorem w_2_202 : ((Jvm.Cond.methodLink "LaidQuarrel" (170 : Nat) ({ cls := "LaidQuarrel", name := "allSay", desc := "(I)I" } : Jvm.MethodName)) : Cond) ∈ lw_tbl := tb_2 (List.mem_of_getElem? (i := 202) rfl)
theorem w_2_203 : ((Jvm.Cond.privateMethod ({ cls := "LaidQuarrel", name := "allSay", desc := "(I)I" } : Jvm.MethodName)) : Cond) ∈ lw_tbl := tb_2 (List.mem_of_getElem? (i := 203) rfl)
theorem w_2_204 : ((Jvm.Cond.instanceMethod ({ cls := "LaidQuarrel", name := "allSay", desc := "(I)I" } : Jvm.MethodName)) : Cond) ∈ lw_tbl := tb_2 (List.mem_of_getElem? (i := 204) rfl)
theorem w_2_205 : ((Jvm.Cond.code ({ cls := "LaidQuarrel", name := "allSay", desc := "(I)I" } : Jvm.MethodName) prog_1_method_51_code (5 : Nat) (Option.some Jvm.ClassFile.FieldType.int)) : Cond) ∈ lw_tbl := tb_2 (List.mem_of_getElem? (i := 205) rfl)
theorem w_2_206 : ((Jvm.Cond.methodLink "LaidQuarrel" (194 : Nat) ({ cls := "LaidQuarrel$Bottle", name := "tryBehind", desc := "(I)LLaidQuarrel$Laid;" } : Jvm.MethodName)) : Cond) ∈ lw_tbl := tb_2 (List.mem_of_getElem? (i := 206) rfl)
theorem w_2_207 : ((Jvm.Cond.instanceMethod ({ cls := "LaidQuarrel$Bottle", name := "tryBehind", desc := "(I)LLaidQuarrel$Laid;" } : Jvm.MethodName)) : Cond) ∈ lw_tbl := tb_2 (List.mem_of_getElem? (i := 207) rfl)
theorem w_2_208 : ((Jvm.Cond.selects "LaidQuarrel$Bottle" ({ cls := "LaidQuarrel$Bottle", name := "tryBehind", desc := "(I)LLaidQuarrel$Laid;" } : Jvm.MethodName) ({ cls := "LaidQuarrel$Bottle", name := "tryBehind", desc := "(I)LLaidQuarrel$Laid;" } : Jvm.MethodName)) : Cond) ∈ lw_tbl := tb_2 (List.mem_of_getElem? (i := 208) rfl)
theorem w_2_209 : ((Jvm.Cond.sameMethod "LaidQuarrel$Bottle" "LaidQuarrel$Bottle" "tryBehind" "(I)LLaidQuarrel$Laid;") : Cond) ∈ lw_tbl := tb_2 (List.mem_of_getElem? (i := 209) rfl)
theorem w_2_210 : ((Jvm.Cond.selects "LaidQuarrel$Corked" ({ cls := "LaidQuarrel$Bottle", name := "tryBehind", desc := "(I)LLaidQuarrel$Laid;" } : Jvm.MethodName) ({ cls := "LaidQuarrel$Bottle", name := "tryBehind", desc := "(I)LLaidQuarrel$Laid;" } : Jvm.MethodName)) : Cond) ∈ lw_tbl := tb_2 (List.mem_of_getElem? (i := 210) rfl)
theorem w_2_211 : ((Jvm.Cond.selects "LaidQuarrel$Feud" ({ cls := "LaidQuarrel$Bottle", name := "tryBehind", desc := "(I)LLaidQuarrel$Laid;" } : Jvm.MethodName) ({ cls := "LaidQuarrel$Bottle", name := "tryBehind", desc := "(I)LLaidQuarrel$Laid;" } : Jvm.MethodName)) : Cond) ∈ lw_tbl := tb_2 (List.mem_of_getElem? (i := 211) rfl)
theorem w_2_212 : ((Jvm.Cond.selects "LaidQuarrel$Hard" ({ cls := "LaidQuarrel$Bottle", name := "tryBehind", desc := "(I)LLaidQuarrel$Laid;" } : Jvm.MethodName) ({ cls := "LaidQuarrel$Bottle", name := "tryBehind", desc := "(I)LLaidQuarrel$Laid;" } : Jvm.MethodName)) : Cond) ∈ lw_tbl := tb_2 (List.mem_of_getElem? (i := 212) rfl)
theorem w_2_213 : ((Jvm.Cond.selects "LaidQuarrel$Love" ({ cls := "LaidQuarrel$Bottle", name := "tryBehind", desc := "(I)LLaidQuarrel$Laid;" } : Jvm.MethodName) ({ cls := "LaidQuarrel$Bottle", name := "tryBehind", desc := "(I)LLaidQuarrel$Laid;" } : Jvm.MethodName)) : Cond) ∈ lw_tbl := tb_2 (List.mem_of_getElem? (i := 213) rfl)
theorem w_2_214 : ((Jvm.Cond.selects "LaidQuarrel$Sweet" ({ cls := "LaidQuarrel$Bottle", name := "tryBehind", desc := "(I)LLaidQuarrel$Laid;" } : Jvm.MethodName) ({ cls := "LaidQuarrel$Bottle", name := "tryBehind", desc := "(I)LLaidQuarrel$Laid;" } : Jvm.MethodName)) : Cond) ∈ lw_tbl := tb_2 (List.mem_of_getElem? (i := 214) rfl)
theorem w_2_215 : ((Jvm.Cond.selects "LaidQuarrel$Told" ({ cls := "LaidQuarrel$Bottle", name := "tryBehind", desc := "(I)LLaidQuarrel$Laid;" } : Jvm.MethodName) ({ cls := "LaidQuarrel$Bottle", name := "tryBehind", desc := "(I)LLaidQuarrel$Laid;" } : Jvm.MethodName)) : Cond) ∈ lw_tbl := tb_2 (List.mem_of_getElem? (i := 215) rfl)
theorem w_2_216 : ((Jvm.Cond.code ({ cls := "LaidQuarrel$Bottle", name := "tryBehind", desc := "(I)LLaidQuarrel$Laid;" } : Jvm.MethodName) prog_2_method_5_code (2 : Nat) (Option.some (Jvm.ClassFile.FieldType.object "LaidQuarrel$Laid"))) : Cond) ∈ lw_tbl := tb_2 (List.mem_of_getElem? (i := 216) rfl)
theorem w_2_217 : ((Jvm.Cond.methodLink "LaidQuarrel$Bottle" (33 : Nat) ({ cls := "LaidQuarrel$Laid", name := "copyFrom", desc := "(LLaidQuarrel$Laid;)V" } : Jvm.MethodName)) : Cond) ∈ lw_tbl := tb_2 (List.mem_of_getElem? (i := 217) rfl)
theorem w_2_218 : ((Jvm.Cond.instanceMethod ({ cls := "LaidQuarrel$Laid", name := "copyFrom", desc := "(LLaidQuarrel$Laid;)V" } : Jvm.MethodName)) : Cond) ∈ lw_tbl := tb_2 (List.mem_of_getElem? (i := 218) rfl)
theorem w_2_219 : ((Jvm.Cond.selects "LaidQuarrel$Laid" ({ cls := "LaidQuarrel$Laid", name := "copyFrom", desc := "(LLaidQuarrel$Laid;)V" } : Jvm.MethodName) ({ cls := "LaidQuarrel$Laid", name := "copyFrom", desc := "(LLaidQuarrel$Laid;)V" } : Jvm.MethodName)) : Cond) ∈ lw_tbl := tb_2 (List.mem_of_getElem? (i := 219) rfl)
theorem w_2_220 : ((Jvm.Cond.code ({ cls := "LaidQuarrel$Laid", name := "copyFrom", desc := "(LLaidQuarrel$Laid;)V" } : Jvm.MethodName) prog_7_method_2_code (2 : Nat) (Option.none : Option Jvm.ClassFile.FieldType)) : Cond) ∈ lw_tbl := tb_2 (List.mem_of_getElem? (i := 220) rfl)
theorem w_2_221 : ((Jvm.Cond.methodLinkNest "LaidQuarrel$Laid" (32 : Nat) ({ cls := "LaidQuarrel$Shelf", name := "copy", desc := "([I[I)V" } : Jvm.MethodName) "LaidQuarrel") : Cond) ∈ lw_tbl := tb_2 (List.mem_of_getElem? (i := 221) rfl)
theorem w_2_222 : ((Jvm.Cond.methodLink "LaidQuarrel$Bottle" (37 : Nat) ({ cls := "LaidQuarrel$Laid", name := "age", desc := "(I)V" } : Jvm.MethodName)) : Cond) ∈ lw_tbl := tb_2 (List.mem_of_getElem? (i := 222) rfl)
theorem w_2_223 : ((Jvm.Cond.instanceMethod ({ cls := "LaidQuarrel$Laid", name := "age", desc := "(I)V" } : Jvm.MethodName)) : Cond) ∈ lw_tbl := tb_2 (List.mem_of_getElem? (i := 223) rfl)
theorem w_2_224 : ((Jvm.Cond.selects "LaidQuarrel$Laid" ({ cls := "LaidQuarrel$Laid", name := "age", desc := "(I)V" } : Jvm.MethodName) ({ cls := "LaidQuarrel$Laid", name := "age", desc := "(I)V" } : Jvm.MethodName)) : Cond) ∈ lw_tbl := tb_2 (List.mem_of_getElem? (i := 224) rfl)
theorem w_2_225 : ((Jvm.Cond.code ({ cls := "LaidQuarrel$Laid", name := "age", desc := "(I)V" } : Jvm.MethodName) prog_7_method_3_code (2 : Nat) (Option.none : Option Jvm.ClassFile.FieldType)) : Cond) ∈ lw_tbl := tb_2 (List.mem_of_getElem? (i := 225) rfl)
theorem w_2_226 : ((Jvm.Cond.methodLink "LaidQuarrel$Laid" (38 : Nat) ({ cls := "java/lang/Math", name := "min", desc := "(II)I" } : Jvm.MethodName)) : Cond) ∈ lw_tbl := tb_2 (List.mem_of_getElem? (i := 226) rfl)
theorem w_2_227 : ((Jvm.Cond.methodLink "LaidQuarrel" (174 : Nat) ({ cls := "LaidQuarrel", name := "sum", desc := "(LLaidQuarrel$Shelf;)I" } : Jvm.MethodName)) : Cond) ∈ lw_tbl := tb_2 (List.mem_of_getElem? (i := 227) rfl)
theorem w_2_228 : ((Jvm.Cond.static ({ cls := "LaidQuarrel", name := "sum", desc := "(LLaidQuarrel$Shelf;)I" } : Jvm.MethodName)) : Cond) ∈ lw_tbl := tb_2 (List.mem_of_getElem? (i := 228) rfl)
theorem w_2_229 : ((Jvm.Cond.code ({ cls := "LaidQuarrel", name := "sum", desc := "(LLaidQuarrel$Shelf;)I" } : Jvm.MethodName) prog_1_method_45_code (3 : Nat) (Option.some Jvm.ClassFile.FieldType.int)) : Cond) ∈ lw_tbl := tb_2 (List.mem_of_getElem? (i := 229) rfl)
theorem w_2_230 : ((Jvm.Cond.methodLink "LaidQuarrelLaw" (53 : Nat) ({ cls := "LaidQuarrel", name := "pour", desc := "(II)I" } : Jvm.MethodName)) : Cond) ∈ lw_tbl := tb_2 (List.mem_of_getElem? (i := 230) rfl)
theorem w_2_231 : ((Jvm.Cond.instanceMethod ({ cls := "LaidQuarrel", name := "pour", desc := "(II)I" } : Jvm.MethodName)) : Cond) ∈ lw_tbl := tb_2 (List.mem_of_getElem? (i := 231) rfl)
theorem w_2_232 : ((Jvm.Cond.selects "LaidQuarrel" ({ cls := "LaidQuarrel", name := "pour", desc := "(II)I" } : Jvm.MethodName) ({ cls := "LaidQuarrel", name := "pour", desc := "(II)I" } : Jvm.MethodName)) : Cond) ∈ lw_tbl := tb_2 (List.mem_of_getElem? (i := 232) rfl)
theorem w_2_233 : ((Jvm.Cond.code ({ cls := "LaidQuarrel", name := "pour", desc := "(II)I" } : Jvm.MethodName) prog_1_method_11_code (4 : Nat) (Option.some Jvm.ClassFile.FieldType.int)) : Cond) ∈ lw_tbl := tb_2 (List.mem_of_getElem? (i := 233) rfl)
theorem w_2_234 : ((Jvm.Cond.methodLink "LaidQuarrel" (178 : Nat) ({ cls := "LaidQuarrel", name := "lift", desc := "(LLaidQuarrel$Shelf;II)I" } : Jvm.MethodName)) : Cond) ∈ lw_tbl := tb_2 (List.mem_of_getElem? (i := 234) rfl)
theorem w_2_235 : ((Jvm.Cond.static ({ cls := "LaidQuarrel", name := "lift", desc := "(LLaidQuarrel$Shelf;II)I" } : Jvm.MethodName)) : Cond) ∈ lw_tbl := tb_2 (List.mem_of_getElem? (i := 235) rfl)
theorem w_2_236 : ((Jvm.Cond.code ({ cls := "LaidQuarrel", name := "lift", desc := "(LLaidQuarrel$Shelf;II)I" } : Jvm.MethodName) prog_1_method_55_code (4 : Nat) (Option.some Jvm.ClassFile.FieldType.int)) : Cond) ∈ lw_tbl := tb_2 (List.mem_of_getElem? (i := 236) rfl)
theorem w_2_237 : ((Jvm.Cond.methodLink "LaidQuarrel" (241 : Nat) ({ cls := "LaidQuarrel", name := "heldMood", desc := "(I)I" } : Jvm.MethodName)) : Cond) ∈ lw_tbl := tb_2 (List.mem_of_getElem? (i := 237) rfl)
theorem w_2_238 : ((Jvm.Cond.static ({ cls := "LaidQuarrel", name := "heldMood", desc := "(I)I" } : Jvm.MethodName)) : Cond) ∈ lw_tbl := tb_2 (List.mem_of_getElem? (i := 238) rfl)
theorem w_2_239 : ((Jvm.Cond.code ({ cls := "LaidQuarrel", name := "heldMood", desc := "(I)I" } : Jvm.MethodName) prog_1_method_42_code (1 : Nat) (Option.some Jvm.ClassFile.FieldType.int)) : Cond) ∈ lw_tbl := tb_2 (List.mem_of_getElem? (i := 239) rfl)
theorem w_3_0 : ((Jvm.Cond.methodLink "LaidQuarrel" (317 : Nat) ({ cls := "LaidQuarrel$Shelf", name := "put", desc := "(II)V" } : Jvm.MethodName)) : Cond) ∈ lw_tbl := tb_3 (List.mem_of_getElem? (i := 0) rfl)
theorem w_3_1 : ((Jvm.Cond.instanceMethod ({ cls := "LaidQuarrel$Shelf", name := "put", desc := "(II)V" } : Jvm.MethodName)) : Cond) ∈ lw_tbl := tb_3 (List.mem_of_getElem? (i := 1) rfl)
theorem w_3_2 : ((Jvm.Cond.selects "LaidQuarrel$Shelf" ({ cls := "LaidQuarrel$Shelf", name := "put", desc := "(II)V" } : Jvm.MethodName) ({ cls := "LaidQuarrel$Shelf", name := "put", desc := "(II)V" } : Jvm.MethodName)) : Cond) ∈ lw_tbl := tb_3 (List.mem_of_getElem? (i := 2) rfl)
theorem w_3_3 : ((Jvm.Cond.code ({ cls := "LaidQuarrel$Shelf", name := "put", desc := "(II)V" } : Jvm.MethodName) prog_9_method_4_code (4 : Nat) (Option.none : Option Jvm.ClassFile.FieldType)) : Cond) ∈ lw_tbl := tb_3 (List.mem_of_getElem? (i := 3) rfl)
theorem w_3_4 : ((Jvm.Cond.methodLink "LaidQuarrelLaw" (57 : Nat) ({ cls := "LaidQuarrel", name := "both", desc := "(III)I" } : Jvm.MethodName)) : Cond) ∈ lw_tbl := tb_3 (List.mem_of_getElem? (i := 4) rfl)
theorem w_3_5 : ((Jvm.Cond.instanceMethod ({ cls := "LaidQuarrel", name := "both", desc := "(III)I" } : Jvm.MethodName)) : Cond) ∈ lw_tbl := tb_3 (List.mem_of_getElem? (i := 5) rfl)
theorem w_3_6 : ((Jvm.Cond.selects "LaidQuarrel" ({ cls := "LaidQuarrel", name := "both", desc := "(III)I" } : Jvm.MethodName) ({ cls := "LaidQuarrel", name := "both", desc := "(III)I" } : Jvm.MethodName)) : Cond) ∈ lw_tbl := tb_3 (List.mem_of_getElem? (i := 6) rfl)
theorem w_3_7 : ((Jvm.Cond.code ({ cls := "LaidQuarrel", name := "both", desc := "(III)I" } : Jvm.MethodName) prog_1_method_12_code (6 : Nat) (Option.some Jvm.ClassFile.FieldType.int)) : Cond) ∈ lw_tbl := tb_3 (List.mem_of_getElem? (i := 7) rfl)
theorem w_3_8 : ((Jvm.Cond.methodLink "LaidQuarrelLaw" (61 : Nat) ({ cls := "LaidQuarrel", name := "pass", desc := "(I)I" } : Jvm.MethodName)) : Cond) ∈ lw_tbl := tb_3 (List.mem_of_getElem? (i := 8) rfl)
theorem w_3_9 : ((Jvm.Cond.instanceMethod ({ cls := "LaidQuarrel", name := "pass", desc := "(I)I" } : Jvm.MethodName)) : Cond) ∈ lw_tbl := tb_3 (List.mem_of_getElem? (i := 9) rfl)
theorem w_3_10 : ((Jvm.Cond.selects "LaidQuarrel" ({ cls := "LaidQuarrel", name := "pass", desc := "(I)I" } : Jvm.MethodName) ({ cls := "LaidQuarrel", name := "pass", desc := "(I)I" } : Jvm.MethodName)) : Cond) ∈ lw_tbl := tb_3 (List.mem_of_getElem? (i := 10) rfl)
theorem w_3_11 : ((Jvm.Cond.code ({ cls := "LaidQuarrel", name := "pass", desc := "(I)I" } : Jvm.MethodName) prog_1_method_13_code (3 : Nat) (Option.some Jvm.ClassFile.FieldType.int)) : Cond) ∈ lw_tbl := tb_3 (List.mem_of_getElem? (i := 11) rfl)
theorem w_3_12 : ((Jvm.Cond.methodLink "LaidQuarrel" (186 : Nat) ({ cls := "LaidQuarrel$Laid", name := "age", desc := "(I)V" } : Jvm.MethodName)) : Cond) ∈ lw_tbl := tb_3 (List.mem_of_getElem? (i := 12) rfl)
theorem w_3_13 : ((Jvm.Cond.methodLink "LaidQuarrel" (190 : Nat) ({ cls := "LaidQuarrel", name := "calmDown", desc := "(LLaidQuarrel$Shelf;I)V" } : Jvm.MethodName)) : Cond) ∈ lw_tbl := tb_3 (List.mem_of_getElem? (i := 13) rfl)
theorem w_3_14 : ((Jvm.Cond.privateMethod ({ cls := "LaidQuarrel", name := "calmDown", desc := "(LLaidQuarrel$Shelf;I)V" } : Jvm.MethodName)) : Cond) ∈ lw_tbl := tb_3 (List.mem_of_getElem? (i := 14) rfl)
theorem w_3_15 : ((Jvm.Cond.instanceMethod ({ cls := "LaidQuarrel", name := "calmDown", desc := "(LLaidQuarrel$Shelf;I)V" } : Jvm.MethodName)) : Cond) ∈ lw_tbl := tb_3 (List.mem_of_getElem? (i := 15) rfl)
theorem w_3_16 : ((Jvm.Cond.code ({ cls := "LaidQuarrel", name := "calmDown", desc := "(LLaidQuarrel$Shelf;I)V" } : Jvm.MethodName) prog_1_method_56_code (5 : Nat) (Option.none : Option Jvm.ClassFile.FieldType)) : Cond) ∈ lw_tbl := tb_3 (List.mem_of_getElem? (i := 16) rfl)
theorem w_3_17 : ((Jvm.Cond.methodLink "LaidQuarrel" (320 : Nat) ({ cls := "LaidQuarrel", name := "nearer", desc := "(II)I" } : Jvm.MethodName)) : Cond) ∈ lw_tbl := tb_3 (List.mem_of_getElem? (i := 17) rfl)
theorem w_3_18 : ((Jvm.Cond.methodLink "LaidQuarrelLaw" (65 : Nat) ({ cls := "LaidQuarrel", name := "on", desc := "(II)I" } : Jvm.MethodName)) : Cond) ∈ lw_tbl := tb_3 (List.mem_of_getElem? (i := 18) rfl)
theorem w_3_19 : ((Jvm.Cond.instanceMethod ({ cls := "LaidQuarrel", name := "on", desc := "(II)I" } : Jvm.MethodName)) : Cond) ∈ lw_tbl := tb_3 (List.mem_of_getElem? (i := 19) rfl)
theorem w_3_20 : ((Jvm.Cond.selects "LaidQuarrel" ({ cls := "LaidQuarrel", name := "on", desc := "(II)I" } : Jvm.MethodName) ({ cls := "LaidQuarrel", name := "on", desc := "(II)I" } : Jvm.MethodName)) : Cond) ∈ lw_tbl := tb_3 (List.mem_of_getElem? (i := 20) rfl)
theorem w_3_21 : ((Jvm.Cond.code ({ cls := "LaidQuarrel", name := "on", desc := "(II)I" } : Jvm.MethodName) prog_1_method_14_code (6 : Nat) (Option.some Jvm.ClassFile.FieldType.int)) : Cond) ∈ lw_tbl := tb_3 (List.mem_of_getElem? (i := 21) rfl)
theorem w_3_22 : ((Jvm.Cond.methodLink "LaidQuarrel" (198 : Nat) ({ cls := "LaidQuarrel$Shelf", name := "copyFrom", desc := "(LLaidQuarrel$Shelf;)V" } : Jvm.MethodName)) : Cond) ∈ lw_tbl := tb_3 (List.mem_of_getElem? (i := 22) rfl)
theorem w_3_23 : ((Jvm.Cond.methodLink "LaidQuarrelLaw" (69 : Nat) ({ cls := "LaidQuarrel", name := "when", desc := "(II)I" } : Jvm.MethodName)) : Cond) ∈ lw_tbl := tb_3 (List.mem_of_getElem? (i := 23) rfl)
theorem w_3_24 : ((Jvm.Cond.instanceMethod ({ cls := "LaidQuarrel", name := "when", desc := "(II)I" } : Jvm.MethodName)) : Cond) ∈ lw_tbl := tb_3 (List.mem_of_getElem? (i := 24) rfl)
theorem w_3_25 : ((Jvm.Cond.selects "LaidQuarrel" ({ cls := "LaidQuarrel", name := "when", desc := "(II)I" } : Jvm.MethodName) ({ cls := "LaidQuarrel", name := "when", desc := "(II)I" } : Jvm.MethodName)) : Cond) ∈ lw_tbl := tb_3 (List.mem_of_getElem? (i := 25) rfl)
theorem w_3_26 : ((Jvm.Cond.code ({ cls := "LaidQuarrel", name := "when", desc := "(II)I" } : Jvm.MethodName) prog_1_method_15_code (8 : Nat) (Option.some Jvm.ClassFile.FieldType.int)) : Cond) ∈ lw_tbl := tb_3 (List.mem_of_getElem? (i := 26) rfl)
theorem w_3_27 : ((Jvm.Cond.methodLink "LaidQuarrelLaw" (73 : Nat) ({ cls := "LaidQuarrel", name := "ripe", desc := "(I)I" } : Jvm.MethodName)) : Cond) ∈ lw_tbl := tb_3 (List.mem_of_getElem? (i := 27) rfl)
theorem w_3_28 : ((Jvm.Cond.instanceMethod ({ cls := "LaidQuarrel", name := "ripe", desc := "(I)I" } : Jvm.MethodName)) : Cond) ∈ lw_tbl := tb_3 (List.mem_of_getElem? (i := 28) rfl)
theorem w_3_29 : ((Jvm.Cond.selects "LaidQuarrel" ({ cls := "LaidQuarrel", name := "ripe", desc := "(I)I" } : Jvm.MethodName) ({ cls := "LaidQuarrel", name := "ripe", desc := "(I)I" } : Jvm.MethodName)) : Cond) ∈ lw_tbl := tb_3 (List.mem_of_getElem? (i := 29) rfl)
theorem w_3_30 : ((Jvm.Cond.code ({ cls := "LaidQuarrel", name := "ripe", desc := "(I)I" } : Jvm.MethodName) prog_1_method_16_code (4 : Nat) (Option.some Jvm.ClassFile.FieldType.int)) : Cond) ∈ lw_tbl := tb_3 (List.mem_of_getElem? (i := 30) rfl)
theorem w_3_31 : ((Jvm.Cond.methodLink "LaidQuarrelLaw" (77 : Nat) ({ cls := "LaidQuarrel", name := "lies", desc := "(I)I" } : Jvm.MethodName)) : Cond) ∈ lw_tbl := tb_3 (List.mem_of_getElem? (i := 31) rfl)
theorem w_3_32 : ((Jvm.Cond.instanceMethod ({ cls := "LaidQuarrel", name := "lies", desc := "(I)I" } : Jvm.MethodName)) : Cond) ∈ lw_tbl := tb_3 (List.mem_of_getElem? (i := 32) rfl)
theorem w_3_33 : ((Jvm.Cond.selects "LaidQuarrel" ({ cls := "LaidQuarrel", name := "lies", desc := "(I)I" } : Jvm.MethodName) ({ cls := "LaidQuarrel", name := "lies", desc := "(I)I" } : Jvm.MethodName)) : Cond) ∈ lw_tbl := tb_3 (List.mem_of_getElem? (i := 33) rfl)
theorem w_3_34 : ((Jvm.Cond.code ({ cls := "LaidQuarrel", name := "lies", desc := "(I)I" } : Jvm.MethodName) prog_1_method_17_code (8 : Nat) (Option.some Jvm.ClassFile.FieldType.int)) : Cond) ∈ lw_tbl := tb_3 (List.mem_of_getElem? (i := 34) rfl)
theorem w_3_35 : ((Jvm.Cond.methodLink "LaidQuarrel" (200 : Nat) ({ cls := "LaidQuarrel$Bottle", name := "tryNow", desc := "()LLaidQuarrel$Laid;" } : Jvm.MethodName)) : Cond) ∈ lw_tbl := tb_3 (List.mem_of_getElem? (i := 35) rfl)
theorem w_3_36 : ((Jvm.Cond.instanceMethod ({ cls := "LaidQuarrel$Bottle", name := "tryNow", desc := "()LLaidQuarrel$Laid;" } : Jvm.MethodName)) : Cond) ∈ lw_tbl := tb_3 (List.mem_of_getElem? (i := 36) rfl)
theorem w_3_37 : ((Jvm.Cond.selects "LaidQuarrel$Bottle" ({ cls := "LaidQuarrel$Bottle", name := "tryNow", desc := "()LLaidQuarrel$Laid;" } : Jvm.MethodName) ({ cls := "LaidQuarrel$Bottle", name := "tryNow", desc := "()LLaidQuarrel$Laid;" } : Jvm.MethodName)) : Cond) ∈ lw_tbl := tb_3 (List.mem_of_getElem? (i := 37) rfl)
theorem w_3_38 : ((Jvm.Cond.sameMethod "LaidQuarrel$Bottle" "LaidQuarrel$Bottle" "tryNow" "()LLaidQuarrel$Laid;") : Cond) ∈ lw_tbl := tb_3 (List.mem_of_getElem? (i := 38) rfl)
theorem w_3_39 : ((Jvm.Cond.selects "LaidQuarrel$Corked" ({ cls := "LaidQuarrel$Bottle", name := "tryNow", desc := "()LLaidQuarrel$Laid;" } : Jvm.MethodName) ({ cls := "LaidQuarrel$Bottle", name := "tryNow", desc := "()LLaidQuarrel$Laid;" } : Jvm.MethodName)) : Cond) ∈ lw_tbl := tb_3 (List.mem_of_getElem? (i := 39) rfl)
theorem w_3_40 : ((Jvm.Cond.selects "LaidQuarrel$Feud" ({ cls := "LaidQuarrel$Bottle", name := "tryNow", desc := "()LLaidQuarrel$Laid;" } : Jvm.MethodName) ({ cls := "LaidQuarrel$Bottle", name := "tryNow", desc := "()LLaidQuarrel$Laid;" } : Jvm.MethodName)) : Cond) ∈ lw_tbl := tb_3 (List.mem_of_getElem? (i := 40) rfl)
theorem w_3_41 : ((Jvm.Cond.selects "LaidQuarrel$Hard" ({ cls := "LaidQuarrel$Bottle", name := "tryNow", desc := "()LLaidQuarrel$Laid;" } : Jvm.MethodName) ({ cls := "LaidQuarrel$Bottle", name := "tryNow", desc := "()LLaidQuarrel$Laid;" } : Jvm.MethodName)) : Cond) ∈ lw_tbl := tb_3 (List.mem_of_getElem? (i := 41) rfl)
theorem w_3_42 : ((Jvm.Cond.selects "LaidQuarrel$Love" ({ cls := "LaidQuarrel$Bottle", name := "tryNow", desc := "()LLaidQuarrel$Laid;" } : Jvm.MethodName) ({ cls := "LaidQuarrel$Bottle", name := "tryNow", desc := "()LLaidQuarrel$Laid;" } : Jvm.MethodName)) : Cond) ∈ lw_tbl := tb_3 (List.mem_of_getElem? (i := 42) rfl)
theorem w_3_43 : ((Jvm.Cond.selects "LaidQuarrel$Sweet" ({ cls := "LaidQuarrel$Bottle", name := "tryNow", desc := "()LLaidQuarrel$Laid;" } : Jvm.MethodName) ({ cls := "LaidQuarrel$Bottle", name := "tryNow", desc := "()LLaidQuarrel$Laid;" } : Jvm.MethodName)) : Cond) ∈ lw_tbl := tb_3 (List.mem_of_getElem? (i := 43) rfl)
theorem w_3_44 : ((Jvm.Cond.selects "LaidQuarrel$Told" ({ cls := "LaidQuarrel$Bottle", name := "tryNow", desc := "()LLaidQuarrel$Laid;" } : Jvm.MethodName) ({ cls := "LaidQuarrel$Bottle", name := "tryNow", desc := "()LLaidQuarrel$Laid;" } : Jvm.MethodName)) : Cond) ∈ lw_tbl := tb_3 (List.mem_of_getElem? (i := 44) rfl)
theorem w_3_45 : ((Jvm.Cond.code ({ cls := "LaidQuarrel$Bottle", name := "tryNow", desc := "()LLaidQuarrel$Laid;" } : Jvm.MethodName) prog_2_method_4_code (1 : Nat) (Option.some (Jvm.ClassFile.FieldType.object "LaidQuarrel$Laid"))) : Cond) ∈ lw_tbl := tb_3 (List.mem_of_getElem? (i := 45) rfl)
theorem w_3_46 : ((Jvm.Cond.methodLink "LaidQuarrelLaw" (81 : Nat) ({ cls := "LaidQuarrel", name := "choose", desc := "(II)I" } : Jvm.MethodName)) : Cond) ∈ lw_tbl := tb_3 (List.mem_of_getElem? (i := 46) rfl)
theorem w_3_47 : ((Jvm.Cond.instanceMethod ({ cls := "LaidQuarrel", name := "choose", desc := "(II)I" } : Jvm.MethodName)) : Cond) ∈ lw_tbl := tb_3 (List.mem_of_getElem? (i := 47) rfl)
theorem w_3_48 : ((Jvm.Cond.selects "LaidQuarrel" ({ cls := "LaidQuarrel", name := "choose", desc := "(II)I" } : Jvm.MethodName) ({ cls := "LaidQuarrel", name := "choose", desc := "(II)I" } : Jvm.MethodName)) : Cond) ∈ lw_tbl := tb_3 (List.mem_of_getElem? (i := 48) rfl)
theorem w_3_49 : ((Jvm.Cond.code ({ cls := "LaidQuarrel", name := "choose", desc := "(II)I" } : Jvm.MethodName) prog_1_method_18_code (8 : Nat) (Option.some Jvm.ClassFile.FieldType.int)) : Cond) ∈ lw_tbl := tb_3 (List.mem_of_getElem? (i := 49) rfl)
theorem w_3_50 : ((Jvm.Cond.methodLink "LaidQuarrel" (204 : Nat) ({ cls := "LaidQuarrel", name := "hearAll", desc := "()V" } : Jvm.MethodName)) : Cond) ∈ lw_tbl := tb_3 (List.mem_of_getElem? (i := 50) rfl)
theorem w_3_51 : ((Jvm.Cond.privateMethod ({ cls := "LaidQuarrel", name := "hearAll", desc := "()V" } : Jvm.MethodName)) : Cond) ∈ lw_tbl := tb_3 (List.mem_of_getElem? (i := 51) rfl)
theorem w_3_52 : ((Jvm.Cond.instanceMethod ({ cls := "LaidQuarrel", name := "hearAll", desc := "()V" } : Jvm.MethodName)) : Cond) ∈ lw_tbl := tb_3 (List.mem_of_getElem? (i := 52) rfl)
theorem w_3_53 : ((Jvm.Cond.code ({ cls := "LaidQuarrel", name := "hearAll", desc := "()V" } : Jvm.MethodName) prog_1_method_53_code (3 : Nat) (Option.none : Option Jvm.ClassFile.FieldType)) : Cond) ∈ lw_tbl := tb_3 (List.mem_of_getElem? (i := 53) rfl)
theorem w_3_54 : ((Jvm.Cond.methodLink "LaidQuarrel" (207 : Nat) ({ cls := "java/lang/Integer", name := "bitCount", desc := "(I)I" } : Jvm.MethodName)) : Cond) ∈ lw_tbl := tb_3 (List.mem_of_getElem? (i := 54) rfl)
theorem w_3_55 : ((Jvm.Cond.static ({ cls := "java/lang/Integer", name := "bitCount", desc := "(I)I" } : Jvm.MethodName)) : Cond) ∈ lw_tbl := tb_3 (List.mem_of_getElem? (i := 55) rfl)
theorem w_3_56 : ((Jvm.Cond.code ({ cls := "java/lang/Integer", name := "bitCount", desc := "(I)I" } : Jvm.MethodName) prog_18_method_49_code (1 : Nat) (Option.some Jvm.ClassFile.FieldType.int)) : Cond) ∈ lw_tbl := tb_3 (List.mem_of_getElem? (i := 56) rfl)
theorem w_3_57 : ((Jvm.Cond.constant "java/lang/Integer" (265 : Nat) (1431655765 : Int32)) : Cond) ∈ lw_tbl := tb_3 (List.mem_of_getElem? (i := 57) rfl)
theorem w_3_58 : ((Jvm.Cond.constant "java/lang/Integer" (266 : Nat) (858993459 : Int32)) : Cond) ∈ lw_tbl := tb_3 (List.mem_of_getElem? (i := 58) rfl)
theorem w_3_59 : ((Jvm.Cond.constant "java/lang/Integer" (267 : Nat) (252645135 : Int32)) : Cond) ∈ lw_tbl := tb_3 (List.mem_of_getElem? (i := 59) rfl)
theorem w_3_60 : ((Jvm.Cond.methodLink "LaidQuarrel" (212 : Nat) ({ cls := "LaidQuarrel", name := "saidBy", desc := "(I)I" } : Jvm.MethodName)) : Cond) ∈ lw_tbl := tb_3 (List.mem_of_getElem? (i := 60) rfl)
theorem w_3_61 : ((Jvm.Cond.privateMethod ({ cls := "LaidQuarrel", name := "saidBy", desc := "(I)I" } : Jvm.MethodName)) : Cond) ∈ lw_tbl := tb_3 (List.mem_of_getElem? (i := 61) rfl)
theorem w_3_62 : ((Jvm.Cond.instanceMethod ({ cls := "LaidQuarrel", name := "saidBy", desc := "(I)I" } : Jvm.MethodName)) : Cond) ∈ lw_tbl := tb_3 (List.mem_of_getElem? (i := 62) rfl)
theorem w_3_63 : ((Jvm.Cond.code ({ cls := "LaidQuarrel", name := "saidBy", desc := "(I)I" } : Jvm.MethodName) prog_1_method_54_code (4 : Nat) (Option.some Jvm.ClassFile.FieldType.int)) : Cond) ∈ lw_tbl := tb_3 (List.mem_of_getElem? (i := 63) rfl)
theorem w_3_64 : ((Jvm.Cond.methodLink "LaidQuarrel" (226 : Nat) ({ cls := "LaidQuarrel", name := "isIn", desc := "(II)Z" } : Jvm.MethodName)) : Cond) ∈ lw_tbl := tb_3 (List.mem_of_getElem? (i := 64) rfl)
theorem w_3_65 : ((Jvm.Cond.static ({ cls := "LaidQuarrel", name := "isIn", desc := "(II)Z" } : Jvm.MethodName)) : Cond) ∈ lw_tbl := tb_3 (List.mem_of_getElem? (i := 65) rfl)
theorem w_3_66 : ((Jvm.Cond.code ({ cls := "LaidQuarrel", name := "isIn", desc := "(II)Z" } : Jvm.MethodName) prog_1_method_40_code (2 : Nat) (Option.some Jvm.ClassFile.FieldType.boolean)) : Cond) ∈ lw_tbl := tb_3 (List.mem_of_getElem? (i := 66) rfl)
theorem w_3_67 : ((Jvm.Cond.methodLink "LaidQuarrelLaw" (85 : Nat) ({ cls := "LaidQuarrel", name := "line", desc := "(II)I" } : Jvm.MethodName)) : Cond) ∈ lw_tbl := tb_3 (List.mem_of_getElem? (i := 67) rfl)
theorem w_3_68 : ((Jvm.Cond.instanceMethod ({ cls := "LaidQuarrel", name := "line", desc := "(II)I" } : Jvm.MethodName)) : Cond) ∈ lw_tbl := tb_3 (List.mem_of_getElem? (i := 68) rfl)
theorem w_3_69 : ((Jvm.Cond.selects "LaidQuarrel" ({ cls := "LaidQuarrel", name := "line", desc := "(II)I" } : Jvm.MethodName) ({ cls := "LaidQuarrel", name := "line", desc := "(II)I" } : Jvm.MethodName)) : Cond) ∈ lw_tbl := tb_3 (List.mem_of_getElem? (i := 69) rfl)
theorem w_3_70 : ((Jvm.Cond.code ({ cls := "LaidQuarrel", name := "line", desc := "(II)I" } : Jvm.MethodName) prog_1_method_19_code (6 : Nat) (Option.some Jvm.ClassFile.FieldType.int)) : Cond) ∈ lw_tbl := tb_3 (List.mem_of_getElem? (i := 70) rfl)
theorem w_3_71 : ((Jvm.Cond.methodLink "LaidQuarrel" (215 : Nat) ({ cls := "LaidQuarrel", name := "bestLine", desc := "(LLaidQuarrel$Shelf;III)I" } : Jvm.MethodName)) : Cond) ∈ lw_tbl := tb_3 (List.mem_of_getElem? (i := 71) rfl)
theorem w_3_72 : ((Jvm.Cond.static ({ cls := "LaidQuarrel", name := "bestLine", desc := "(LLaidQuarrel$Shelf;III)I" } : Jvm.MethodName)) : Cond) ∈ lw_tbl := tb_3 (List.mem_of_getElem? (i := 72) rfl)
theorem w_3_73 : ((Jvm.Cond.code ({ cls := "LaidQuarrel", name := "bestLine", desc := "(LLaidQuarrel$Shelf;III)I" } : Jvm.MethodName) prog_1_method_57_code (7 : Nat) (Option.some Jvm.ClassFile.FieldType.int)) : Cond) ∈ lw_tbl := tb_3 (List.mem_of_getElem? (i := 73) rfl)
theorem w_3_74 : ((Jvm.Cond.methodLink "LaidQuarrel" (218 : Nat) ({ cls := "LaidQuarrel", name := "moodOf", desc := "(I)I" } : Jvm.MethodName)) : Cond) ∈ lw_tbl := tb_3 (List.mem_of_getElem? (i := 74) rfl)
theorem w_3_75 : ((Jvm.Cond.static ({ cls := "LaidQuarrel", name := "moodOf", desc := "(I)I" } : Jvm.MethodName)) : Cond) ∈ lw_tbl := tb_3 (List.mem_of_getElem? (i := 75) rfl)
theorem w_3_76 : ((Jvm.Cond.code ({ cls := "LaidQuarrel", name := "moodOf", desc := "(I)I" } : Jvm.MethodName) prog_1_method_58_code (1 : Nat) (Option.some Jvm.ClassFile.FieldType.int)) : Cond) ∈ lw_tbl := tb_3 (List.mem_of_getElem? (i := 76) rfl)
theorem w_3_77 : ((Jvm.Cond.methodLink "LaidQuarrelLaw" (89 : Nat) ({ cls := "LaidQuarrel", name := "pair", desc := "()I" } : Jvm.MethodName)) : Cond) ∈ lw_tbl := tb_3 (List.mem_of_getElem? (i := 77) rfl)
theorem w_3_78 : ((Jvm.Cond.instanceMethod ({ cls := "LaidQuarrel", name := "pair", desc := "()I" } : Jvm.MethodName)) : Cond) ∈ lw_tbl := tb_3 (List.mem_of_getElem? (i := 78) rfl)
theorem w_3_79 : ((Jvm.Cond.selects "LaidQuarrel" ({ cls := "LaidQuarrel", name := "pair", desc := "()I" } : Jvm.MethodName) ({ cls := "LaidQuarrel", name := "pair", desc := "()I" } : Jvm.MethodName)) : Cond) ∈ lw_tbl := tb_3 (List.mem_of_getElem? (i := 79) rfl)
theorem w_3_80 : ((Jvm.Cond.code ({ cls := "LaidQuarrel", name := "pair", desc := "()I" } : Jvm.MethodName) prog_1_method_20_code (7 : Nat) (Option.some Jvm.ClassFile.FieldType.int)) : Cond) ∈ lw_tbl := tb_3 (List.mem_of_getElem? (i := 80) rfl)
theorem w_3_81 : ((Jvm.Cond.methodLink "LaidQuarrel" (221 : Nat) ({ cls := "java/lang/Math", name := "abs", desc := "(I)I" } : Jvm.MethodName)) : Cond) ∈ lw_tbl := tb_3 (List.mem_of_getElem? (i := 81) rfl)
theorem w_3_82 : ((Jvm.Cond.methodLink "LaidQuarrelLaw" (93 : Nat) ({ cls := "LaidQuarrel", name := "match", desc := "(I)I" } : Jvm.MethodName)) : Cond) ∈ lw_tbl := tb_3 (List.mem_of_getElem? (i := 82) rfl)
theorem w_3_83 : ((Jvm.Cond.instanceMethod ({ cls := "LaidQuarrel", name := "match", desc := "(I)I" } : Jvm.MethodName)) : Cond) ∈ lw_tbl := tb_3 (List.mem_of_getElem? (i := 83) rfl)
theorem w_3_84 : ((Jvm.Cond.selects "LaidQuarrel" ({ cls := "LaidQuarrel", name := "match", desc := "(I)I" } : Jvm.MethodName) ({ cls := "LaidQuarrel", name := "match", desc := "(I)I" } : Jvm.MethodName)) : Cond) ∈ lw_tbl := tb_3 (List.mem_of_getElem? (i := 84) rfl)
theorem w_3_85 : ((Jvm.Cond.code ({ cls := "LaidQuarrel", name := "match", desc := "(I)I" } : Jvm.MethodName) prog_1_method_21_code (4 : Nat) (Option.some Jvm.ClassFile.FieldType.int)) : Cond) ∈ lw_tbl := tb_3 (List.mem_of_getElem? (i := 85) rfl)
theorem w_3_86 : ((Jvm.Cond.methodLink "LaidQuarrel" (230 : Nat) ({ cls := "LaidQuarrel", name := "countPairs", desc := "(I)V" } : Jvm.MethodName)) : Cond) ∈ lw_tbl := tb_3 (List.mem_of_getElem? (i := 86) rfl)
theorem w_3_87 : ((Jvm.Cond.privateMethod ({ cls := "LaidQuarrel", name := "countPairs", desc := "(I)V" } : Jvm.MethodName)) : Cond) ∈ lw_tbl := tb_3 (List.mem_of_getElem? (i := 87) rfl)
theorem w_3_88 : ((Jvm.Cond.instanceMethod ({ cls := "LaidQuarrel", name := "countPairs", desc := "(I)V" } : Jvm.MethodName)) : Cond) ∈ lw_tbl := tb_3 (List.mem_of_getElem? (i := 88) rfl)
theorem w_3_89 : ((Jvm.Cond.code ({ cls := "LaidQuarrel", name := "countPairs", desc := "(I)V" } : Jvm.MethodName) prog_1_method_59_code (7 : Nat) (Option.none : Option Jvm.ClassFile.FieldType)) : Cond) ∈ lw_tbl := tb_3 (List.mem_of_getElem? (i := 89) rfl)
theorem w_3_90 : ((Jvm.Cond.methodLink "LaidQuarrel" (323 : Nat) ({ cls := "java/lang/Integer", name := "numberOfTrailingZeros", desc := "(I)I" } : Jvm.MethodName)) : Cond) ∈ lw_tbl := tb_3 (List.mem_of_getElem? (i := 90) rfl)
theorem w_3_91 : ((Jvm.Cond.static ({ cls := "java/lang/Integer", name := "numberOfTrailingZeros", desc := "(I)I" } : Jvm.MethodName)) : Cond) ∈ lw_tbl := tb_3 (List.mem_of_getElem? (i := 91) rfl)
theorem w_3_92 : ((Jvm.Cond.code ({ cls := "java/lang/Integer", name := "numberOfTrailingZeros", desc := "(I)I" } : Jvm.MethodName) prog_18_method_48_code (2 : Nat) (Option.some Jvm.ClassFile.FieldType.int)) : Cond) ∈ lw_tbl := tb_3 (List.mem_of_getElem? (i := 92) rfl)
theorem w_3_93 : ((Jvm.Cond.constant "java/lang/Integer" (264 : Nat) (65536 : Int32)) : Cond) ∈ lw_tbl := tb_3 (List.mem_of_getElem? (i := 93) rfl)
theorem w_3_94 : ((Jvm.Cond.methodLink "LaidQuarrel" (326 : Nat) ({ cls := "LaidQuarrel", name := "makesPeace", desc := "(II)Z" } : Jvm.MethodName)) : Cond) ∈ lw_tbl := tb_3 (List.mem_of_getElem? (i := 94) rfl)
theorem w_3_95 : ((Jvm.Cond.privateMethod ({ cls := "LaidQuarrel", name := "makesPeace", desc := "(II)Z" } : Jvm.MethodName)) : Cond) ∈ lw_tbl := tb_3 (List.mem_of_getElem? (i := 95) rfl)
theorem w_3_96 : ((Jvm.Cond.instanceMethod ({ cls := "LaidQuarrel", name := "makesPeace", desc := "(II)Z" } : Jvm.MethodName)) : Cond) ∈ lw_tbl := tb_3 (List.mem_of_getElem? (i := 96) rfl)
theorem w_3_97 : ((Jvm.Cond.code ({ cls := "LaidQuarrel", name := "makesPeace", desc := "(II)Z" } : Jvm.MethodName) prog_1_method_60_code (3 : Nat) (Option.some Jvm.ClassFile.FieldType.boolean)) : Cond) ∈ lw_tbl := tb_3 (List.mem_of_getElem? (i := 97) rfl)
theorem w_3_98 : ((Jvm.Cond.methodLink "LaidQuarrel" (233 : Nat) ({ cls := "LaidQuarrel", name := "partnerOf", desc := "(II)I" } : Jvm.MethodName)) : Cond) ∈ lw_tbl := tb_3 (List.mem_of_getElem? (i := 98) rfl)
theorem w_3_99 : ((Jvm.Cond.privateMethod ({ cls := "LaidQuarrel", name := "partnerOf", desc := "(II)I" } : Jvm.MethodName)) : Cond) ∈ lw_tbl := tb_3 (List.mem_of_getElem? (i := 99) rfl)
theorem w_3_100 : ((Jvm.Cond.instanceMethod ({ cls := "LaidQuarrel", name := "partnerOf", desc := "(II)I" } : Jvm.MethodName)) : Cond) ∈ lw_tbl := tb_3 (List.mem_of_getElem? (i := 100) rfl)
theorem w_3_101 : ((Jvm.Cond.code ({ cls := "LaidQuarrel", name := "partnerOf", desc := "(II)I" } : Jvm.MethodName) prog_1_method_61_code (6 : Nat) (Option.some Jvm.ClassFile.FieldType.int)) : Cond) ∈ lw_tbl := tb_3 (List.mem_of_getElem? (i := 101) rfl)
theorem w_3_102 : ((Jvm.Cond.methodLink "LaidQuarrel" (329 : Nat) ({ cls := "LaidQuarrel", name := "leastPartner", desc := "(II)I" } : Jvm.MethodName)) : Cond) ∈ lw_tbl := tb_3 (List.mem_of_getElem? (i := 102) rfl)
theorem w_3_103 : ((Jvm.Cond.privateMethod ({ cls := "LaidQuarrel", name := "leastPartner", desc := "(II)I" } : Jvm.MethodName)) : Cond) ∈ lw_tbl := tb_3 (List.mem_of_getElem? (i := 103) rfl)
theorem w_3_104 : ((Jvm.Cond.instanceMethod ({ cls := "LaidQuarrel", name := "leastPartner", desc := "(II)I" } : Jvm.MethodName)) : Cond) ∈ lw_tbl := tb_3 (List.mem_of_getElem? (i := 104) rfl)
theorem w_3_105 : ((Jvm.Cond.code ({ cls := "LaidQuarrel", name := "leastPartner", desc := "(II)I" } : Jvm.MethodName) prog_1_method_62_code (5 : Nat) (Option.some Jvm.ClassFile.FieldType.int)) : Cond) ∈ lw_tbl := tb_3 (List.mem_of_getElem? (i := 105) rfl)
theorem w_3_106 : ((Jvm.Cond.methodLink "LaidQuarrelLaw" (97 : Nat) ({ cls := "LaidQuarrel", name := "words", desc := "(III)I" } : Jvm.MethodName)) : Cond) ∈ lw_tbl := tb_3 (List.mem_of_getElem? (i := 106) rfl)
theorem w_3_107 : ((Jvm.Cond.instanceMethod ({ cls := "LaidQuarrel", name := "words", desc := "(III)I" } : Jvm.MethodName)) : Cond) ∈ lw_tbl := tb_3 (List.mem_of_getElem? (i := 107) rfl)
theorem w_3_108 : ((Jvm.Cond.selects "LaidQuarrel" ({ cls := "LaidQuarrel", name := "words", desc := "(III)I" } : Jvm.MethodName) ({ cls := "LaidQuarrel", name := "words", desc := "(III)I" } : Jvm.MethodName)) : Cond) ∈ lw_tbl := tb_3 (List.mem_of_getElem? (i := 108) rfl)
theorem w_3_109 : ((Jvm.Cond.code ({ cls := "LaidQuarrel", name := "words", desc := "(III)I" } : Jvm.MethodName) prog_1_method_22_code (9 : Nat) (Option.some Jvm.ClassFile.FieldType.int)) : Cond) ∈ lw_tbl := tb_3 (List.mem_of_getElem? (i := 109) rfl)
theorem w_3_110 : ((Jvm.Cond.methodLink "LaidQuarrelLaw" (101 : Nat) ({ cls := "LaidQuarrel", name := "see", desc := "(III)I" } : Jvm.MethodName)) : Cond) ∈ lw_tbl := tb_3 (List.mem_of_getElem? (i := 110) rfl)
theorem w_3_111 : ((Jvm.Cond.instanceMethod ({ cls := "LaidQuarrel", name := "see", desc := "(III)I" } : Jvm.MethodName)) : Cond) ∈ lw_tbl := tb_3 (List.mem_of_getElem? (i := 111) rfl)
theorem w_3_112 : ((Jvm.Cond.selects "LaidQuarrel" ({ cls := "LaidQuarrel", name := "see", desc := "(III)I" } : Jvm.MethodName) ({ cls := "LaidQuarrel", name := "see", desc := "(III)I" } : Jvm.MethodName)) : Cond) ∈ lw_tbl := tb_3 (List.mem_of_getElem? (i := 112) rfl)
theorem w_3_113 : ((Jvm.Cond.code ({ cls := "LaidQuarrel", name := "see", desc := "(III)I" } : Jvm.MethodName) prog_1_method_23_code (4 : Nat) (Option.some Jvm.ClassFile.FieldType.int)) : Cond) ∈ lw_tbl := tb_3 (List.mem_of_getElem? (i := 113) rfl)
theorem w_3_114 : ((Jvm.Cond.methodLink "LaidQuarrelLaw" (105 : Nat) ({ cls := "LaidQuarrel", name := "old", desc := "(II)I" } : Jvm.MethodName)) : Cond) ∈ lw_tbl := tb_3 (List.mem_of_getElem? (i := 114) rfl)
theorem w_3_115 : ((Jvm.Cond.instanceMethod ({ cls := "LaidQuarrel", name := "old", desc := "(II)I" } : Jvm.MethodName)) : Cond) ∈ lw_tbl := tb_3 (List.mem_of_getElem? (i := 115) rfl)
theorem w_3_116 : ((Jvm.Cond.selects "LaidQuarrel" ({ cls := "LaidQuarrel", name := "old", desc := "(II)I" } : Jvm.MethodName) ({ cls := "LaidQuarrel", name := "old", desc := "(II)I" } : Jvm.MethodName)) : Cond) ∈ lw_tbl := tb_3 (List.mem_of_getElem? (i := 116) rfl)
theorem w_3_117 : ((Jvm.Cond.code ({ cls := "LaidQuarrel", name := "old", desc := "(II)I" } : Jvm.MethodName) prog_1_method_24_code (7 : Nat) (Option.some Jvm.ClassFile.FieldType.int)) : Cond) ∈ lw_tbl := tb_3 (List.mem_of_getElem? (i := 117) rfl)
theorem w_3_118 : ((Jvm.Cond.methodLink "LaidQuarrel" (236 : Nat) ({ cls := "LaidQuarrel", name := "allSeenIsSo", desc := "(III)Z" } : Jvm.MethodName)) : Cond) ∈ lw_tbl := tb_3 (List.mem_of_getElem? (i := 118) rfl)
theorem w_3_119 : ((Jvm.Cond.privateMethod ({ cls := "LaidQuarrel", name := "allSeenIsSo", desc := "(III)Z" } : Jvm.MethodName)) : Cond) ∈ lw_tbl := tb_3 (List.mem_of_getElem? (i := 119) rfl)
theorem w_3_120 : ((Jvm.Cond.instanceMethod ({ cls := "LaidQuarrel", name := "allSeenIsSo", desc := "(III)Z" } : Jvm.MethodName)) : Cond) ∈ lw_tbl := tb_3 (List.mem_of_getElem? (i := 120) rfl)
theorem w_3_121 : ((Jvm.Cond.code ({ cls := "LaidQuarrel", name := "allSeenIsSo", desc := "(III)Z" } : Jvm.MethodName) prog_1_method_63_code (8 : Nat) (Option.some Jvm.ClassFile.FieldType.boolean)) : Cond) ∈ lw_tbl := tb_3 (List.mem_of_getElem? (i := 121) rfl)
theorem w_3_122 : ((Jvm.Cond.methodLink "LaidQuarrelLaw" (109 : Nat) ({ cls := "LaidQuarrel", name := "firm", desc := "(II)I" } : Jvm.MethodName)) : Cond) ∈ lw_tbl := tb_3 (List.mem_of_getElem? (i := 122) rfl)
theorem w_3_123 : ((Jvm.Cond.instanceMethod ({ cls := "LaidQuarrel", name := "firm", desc := "(II)I" } : Jvm.MethodName)) : Cond) ∈ lw_tbl := tb_3 (List.mem_of_getElem? (i := 123) rfl)
theorem w_3_124 : ((Jvm.Cond.selects "LaidQuarrel" ({ cls := "LaidQuarrel", name := "firm", desc := "(II)I" } : Jvm.MethodName) ({ cls := "LaidQuarrel", name := "firm", desc := "(II)I" } : Jvm.MethodName)) : Cond) ∈ lw_tbl := tb_3 (List.mem_of_getElem? (i := 124) rfl)
theorem w_3_125 : ((Jvm.Cond.code ({ cls := "LaidQuarrel", name := "firm", desc := "(II)I" } : Jvm.MethodName) prog_1_method_25_code (7 : Nat) (Option.some Jvm.ClassFile.FieldType.int)) : Cond) ∈ lw_tbl := tb_3 (List.mem_of_getElem? (i := 125) rfl)
theorem w_3_126 : ((Jvm.Cond.methodLink "LaidQuarrelLaw" (113 : Nat) ({ cls := "LaidQuarrel", name := "whose", desc := "(II)I" } : Jvm.MethodName)) : Cond) ∈ lw_tbl := tb_3 (List.mem_of_getElem? (i := 126) rfl)
theorem w_3_127 : ((Jvm.Cond.instanceMethod ({ cls := "LaidQuarrel", name := "whose", desc := "(II)I" } : Jvm.MethodName)) : Cond) ∈ lw_tbl := tb_3 (List.mem_of_getElem? (i := 127) rfl)
theorem w_3_128 : ((Jvm.Cond.selects "LaidQuarrel" ({ cls := "LaidQuarrel", name := "whose", desc := "(II)I" } : Jvm.MethodName) ({ cls := "LaidQuarrel", name := "whose", desc := "(II)I" } : Jvm.MethodName)) : Cond) ∈ lw_tbl := tb_3 (List.mem_of_getElem? (i := 128) rfl)
theorem w_3_129 : ((Jvm.Cond.code ({ cls := "LaidQuarrel", name := "whose", desc := "(II)I" } : Jvm.MethodName) prog_1_method_26_code (6 : Nat) (Option.some Jvm.ClassFile.FieldType.int)) : Cond) ∈ lw_tbl := tb_3 (List.mem_of_getElem? (i := 129) rfl)
theorem w_3_130 : ((Jvm.Cond.methodLink "LaidQuarrelLaw" (117 : Nat) ({ cls := "LaidQuarrel", name := "odds", desc := "(III)J" } : Jvm.MethodName)) : Cond) ∈ lw_tbl := tb_3 (List.mem_of_getElem? (i := 130) rfl)
theorem w_3_131 : ((Jvm.Cond.instanceMethod ({ cls := "LaidQuarrel", name := "odds", desc := "(III)J" } : Jvm.MethodName)) : Cond) ∈ lw_tbl := tb_3 (List.mem_of_getElem? (i := 131) rfl)
theorem w_3_132 : ((Jvm.Cond.selects "LaidQuarrel" ({ cls := "LaidQuarrel", name := "odds", desc := "(III)J" } : Jvm.MethodName) ({ cls := "LaidQuarrel", name := "odds", desc := "(III)J" } : Jvm.MethodName)) : Cond) ∈ lw_tbl := tb_3 (List.mem_of_getElem? (i := 132) rfl)
theorem w_3_133 : ((Jvm.Cond.code ({ cls := "LaidQuarrel", name := "odds", desc := "(III)J" } : Jvm.MethodName) prog_1_method_27_code (7 : Nat) (Option.some Jvm.ClassFile.FieldType.long)) : Cond) ∈ lw_tbl := tb_3 (List.mem_of_getElem? (i := 133) rfl)
theorem w_3_134 : ((Jvm.Cond.constantLong "LaidQuarrel" (239 : Nat) (-9223372036854775808 : Int64)) : Cond) ∈ lw_tbl := tb_3 (List.mem_of_getElem? (i := 134) rfl)
theorem w_3_135 : ((Jvm.Cond.methodLink "LaidQuarrel" (244 : Nat) ({ cls := "LaidQuarrel", name := "fraction", desc := "(III)J" } : Jvm.MethodName)) : Cond) ∈ lw_tbl := tb_3 (List.mem_of_getElem? (i := 135) rfl)
theorem w_3_136 : ((Jvm.Cond.static ({ cls := "LaidQuarrel", name := "fraction", desc := "(III)J" } : Jvm.MethodName)) : Cond) ∈ lw_tbl := tb_3 (List.mem_of_getElem? (i := 136) rfl)
theorem w_3_137 : ((Jvm.Cond.code ({ cls := "LaidQuarrel", name := "fraction", desc := "(III)J" } : Jvm.MethodName) prog_1_method_46_code (5 : Nat) (Option.some Jvm.ClassFile.FieldType.long)) : Cond) ∈ lw_tbl := tb_3 (List.mem_of_getElem? (i := 137) rfl)
theorem w_3_138 : ((Jvm.Cond.methodLink "LaidQuarrelLaw" (122 : Nat) ({ cls := "LaidQuarrel", name := "mean", desc := "(II)J" } : Jvm.MethodName)) : Cond) ∈ lw_tbl := tb_3 (List.mem_of_getElem? (i := 138) rfl)
theorem w_3_139 : ((Jvm.Cond.instanceMethod ({ cls := "LaidQuarrel", name := "mean", desc := "(II)J" } : Jvm.MethodName)) : Cond) ∈ lw_tbl := tb_3 (List.mem_of_getElem? (i := 139) rfl)
theorem w_3_140 : ((Jvm.Cond.selects "LaidQuarrel" ({ cls := "LaidQuarrel", name := "mean", desc := "(II)J" } : Jvm.MethodName) ({ cls := "LaidQuarrel", name := "mean", desc := "(II)J" } : Jvm.MethodName)) : Cond) ∈ lw_tbl := tb_3 (List.mem_of_getElem? (i := 140) rfl)
theorem w_3_141 : ((Jvm.Cond.code ({ cls := "LaidQuarrel", name := "mean", desc := "(II)J" } : Jvm.MethodName) prog_1_method_28_code (3 : Nat) (Option.some Jvm.ClassFile.FieldType.long)) : Cond) ∈ lw_tbl := tb_3 (List.mem_of_getElem? (i := 141) rfl)
theorem w_3_142 : ((Jvm.Cond.methodLink "LaidQuarrelLaw" (127 : Nat) ({ cls := "LaidQuarrel", name := "evening", desc := "(III)I" } : Jvm.MethodName)) : Cond) ∈ lw_tbl := tb_3 (List.mem_of_getElem? (i := 142) rfl)
theorem w_3_143 : ((Jvm.Cond.instanceMethod ({ cls := "LaidQuarrel", name := "evening", desc := "(III)I" } : Jvm.MethodName)) : Cond) ∈ lw_tbl := tb_3 (List.mem_of_getElem? (i := 143) rfl)
theorem w_3_144 : ((Jvm.Cond.selects "LaidQuarrel" ({ cls := "LaidQuarrel", name := "evening", desc := "(III)I" } : Jvm.MethodName) ({ cls := "LaidQuarrel", name := "evening", desc := "(III)I" } : Jvm.MethodName)) : Cond) ∈ lw_tbl := tb_3 (List.mem_of_getElem? (i := 144) rfl)
theorem w_3_145 : ((Jvm.Cond.code ({ cls := "LaidQuarrel", name := "evening", desc := "(III)I" } : Jvm.MethodName) prog_1_method_29_code (4 : Nat) (Option.some Jvm.ClassFile.FieldType.int)) : Cond) ∈ lw_tbl := tb_3 (List.mem_of_getElem? (i := 145) rfl)
theorem w_3_146 : ((Jvm.Cond.methodLink "LaidQuarrelLaw" (131 : Nat) ({ cls := "LaidQuarrel", name := "done", desc := "(I)I" } : Jvm.MethodName)) : Cond) ∈ lw_tbl := tb_3 (List.mem_of_getElem? (i := 146) rfl)
theorem w_3_147 : ((Jvm.Cond.instanceMethod ({ cls := "LaidQuarrel", name := "done", desc := "(I)I" } : Jvm.MethodName)) : Cond) ∈ lw_tbl := tb_3 (List.mem_of_getElem? (i := 147) rfl)
theorem w_3_148 : ((Jvm.Cond.selects "LaidQuarrel" ({ cls := "LaidQuarrel", name := "done", desc := "(I)I" } : Jvm.MethodName) ({ cls := "LaidQuarrel", name := "done", desc := "(I)I" } : Jvm.MethodName)) : Cond) ∈ lw_tbl := tb_3 (List.mem_of_getElem? (i := 148) rfl)
theorem w_3_149 : ((Jvm.Cond.code ({ cls := "LaidQuarrel", name := "done", desc := "(I)I" } : Jvm.MethodName) prog_1_method_30_code (3 : Nat) (Option.some Jvm.ClassFile.FieldType.int)) : Cond) ∈ lw_tbl := tb_3 (List.mem_of_getElem? (i := 149) rfl)
theorem w_3_150 : ((Jvm.Cond.methodLink "LaidQuarrel" (248 : Nat) ({ cls := "LaidQuarrel", name := "tryRow", desc := "(ILLaidQuarrel$Bottle;I)V" } : Jvm.MethodName)) : Cond) ∈ lw_tbl := tb_3 (List.mem_of_getElem? (i := 150) rfl)
theorem w_3_151 : ((Jvm.Cond.privateMethod ({ cls := "LaidQuarrel", name := "tryRow", desc := "(ILLaidQuarrel$Bottle;I)V" } : Jvm.MethodName)) : Cond) ∈ lw_tbl := tb_3 (List.mem_of_getElem? (i := 151) rfl)
theorem w_3_152 : ((Jvm.Cond.instanceMethod ({ cls := "LaidQuarrel", name := "tryRow", desc := "(ILLaidQuarrel$Bottle;I)V" } : Jvm.MethodName)) : Cond) ∈ lw_tbl := tb_3 (List.mem_of_getElem? (i := 152) rfl)
theorem w_3_153 : ((Jvm.Cond.code ({ cls := "LaidQuarrel", name := "tryRow", desc := "(ILLaidQuarrel$Bottle;I)V" } : Jvm.MethodName) prog_1_method_64_code (5 : Nat) (Option.none : Option Jvm.ClassFile.FieldType)) : Cond) ∈ lw_tbl := tb_3 (List.mem_of_getElem? (i := 153) rfl)
theorem w_3_154 : ((Jvm.Cond.methodLink "LaidQuarrel" (252 : Nat) ({ cls := "LaidQuarrel", name := "allSayAsTried", desc := "()I" } : Jvm.MethodName)) : Cond) ∈ lw_tbl := tb_3 (List.mem_of_getElem? (i := 154) rfl)
theorem w_3_155 : ((Jvm.Cond.privateMethod ({ cls := "LaidQuarrel", name := "allSayAsTried", desc := "()I" } : Jvm.MethodName)) : Cond) ∈ lw_tbl := tb_3 (List.mem_of_getElem? (i := 155) rfl)
theorem w_3_156 : ((Jvm.Cond.instanceMethod ({ cls := "LaidQuarrel", name := "allSayAsTried", desc := "()I" } : Jvm.MethodName)) : Cond) ∈ lw_tbl := tb_3 (List.mem_of_getElem? (i := 156) rfl)
theorem w_3_157 : ((Jvm.Cond.code ({ cls := "LaidQuarrel", name := "allSayAsTried", desc := "()I" } : Jvm.MethodName) prog_1_method_65_code (4 : Nat) (Option.some Jvm.ClassFile.FieldType.int)) : Cond) ∈ lw_tbl := tb_3 (List.mem_of_getElem? (i := 157) rfl)
theorem w_3_158 : ((Jvm.Cond.methodLink "LaidQuarrelLaw" (135 : Nat) ({ cls := "LaidQuarrel", name := "book", desc := "(II)I" } : Jvm.MethodName)) : Cond) ∈ lw_tbl := tb_3 (List.mem_of_getElem? (i := 158) rfl)
theorem w_3_159 : ((Jvm.Cond.instanceMethod ({ cls := "LaidQuarrel", name := "book", desc := "(II)I" } : Jvm.MethodName)) : Cond) ∈ lw_tbl := tb_3 (List.mem_of_getElem? (i := 159) rfl)
theorem w_3_160 : ((Jvm.Cond.selects "LaidQuarrel" ({ cls := "LaidQuarrel", name := "book", desc := "(II)I" } : Jvm.MethodName) ({ cls := "LaidQuarrel", name := "book", desc := "(II)I" } : Jvm.MethodName)) : Cond) ∈ lw_tbl := tb_3 (List.mem_of_getElem? (i := 160) rfl)
theorem w_3_161 : ((Jvm.Cond.code ({ cls := "LaidQuarrel", name := "book", desc := "(II)I" } : Jvm.MethodName) prog_1_method_31_code (3 : Nat) (Option.some Jvm.ClassFile.FieldType.int)) : Cond) ∈ lw_tbl := tb_3 (List.mem_of_getElem? (i := 161) rfl)
theorem w_3_162 : ((Jvm.Cond.methodLink "LaidQuarrelLaw" (139 : Nat) ({ cls := "LaidQuarrel", name := "looked", desc := "()I" } : Jvm.MethodName)) : Cond) ∈ lw_tbl := tb_3 (List.mem_of_getElem? (i := 162) rfl)
theorem w_3_163 : ((Jvm.Cond.instanceMethod ({ cls := "LaidQuarrel", name := "looked", desc := "()I" } : Jvm.MethodName)) : Cond) ∈ lw_tbl := tb_3 (List.mem_of_getElem? (i := 163) rfl)
theorem w_3_164 : ((Jvm.Cond.selects "LaidQuarrel" ({ cls := "LaidQuarrel", name := "looked", desc := "()I" } : Jvm.MethodName) ({ cls := "LaidQuarrel", name := "looked", desc := "()I" } : Jvm.MethodName)) : Cond) ∈ lw_tbl := tb_3 (List.mem_of_getElem? (i := 164) rfl)
theorem w_3_165 : ((Jvm.Cond.code ({ cls := "LaidQuarrel", name := "looked", desc := "()I" } : Jvm.MethodName) prog_1_method_32_code (3 : Nat) (Option.some Jvm.ClassFile.FieldType.int)) : Cond) ∈ lw_tbl := tb_3 (List.mem_of_getElem? (i := 165) rfl)
theorem w_3_166 : ((Jvm.Cond.methodLink "LaidQuarrelLaw" (143 : Nat) ({ cls := "LaidQuarrel", name := "act", desc := "(III)I" } : Jvm.MethodName)) : Cond) ∈ lw_tbl := tb_3 (List.mem_of_getElem? (i := 166) rfl)
theorem w_3_167 : ((Jvm.Cond.instanceMethod ({ cls := "LaidQuarrel", name := "act", desc := "(III)I" } : Jvm.MethodName)) : Cond) ∈ lw_tbl := tb_3 (List.mem_of_getElem? (i := 167) rfl)
theorem w_3_168 : ((Jvm.Cond.selects "LaidQuarrel" ({ cls := "LaidQuarrel", name := "act", desc := "(III)I" } : Jvm.MethodName) ({ cls := "LaidQuarrel", name := "act", desc := "(III)I" } : Jvm.MethodName)) : Cond) ∈ lw_tbl := tb_3 (List.mem_of_getElem? (i := 168) rfl)
theorem w_3_169 : ((Jvm.Cond.code ({ cls := "LaidQuarrel", name := "act", desc := "(III)I" } : Jvm.MethodName) prog_1_method_33_code (5 : Nat) (Option.some Jvm.ClassFile.FieldType.int)) : Cond) ∈ lw_tbl := tb_3 (List.mem_of_getElem? (i := 169) rfl)
theorem w_3_170 : ((Jvm.Cond.methodLink "LaidQuarrel" (255 : Nat) ({ cls := "LaidQuarrel$Bottle", name := "utters", desc := "(I)I" } : Jvm.MethodName)) : Cond) ∈ lw_tbl := tb_3 (List.mem_of_getElem? (i := 170) rfl)
theorem w_3_171 : ((Jvm.Cond.instanceMethod ({ cls := "LaidQuarrel$Bottle", name := "utters", desc := "(I)I" } : Jvm.MethodName)) : Cond) ∈ lw_tbl := tb_3 (List.mem_of_getElem? (i := 171) rfl)
theorem w_3_172 : ((Jvm.Cond.selects "LaidQuarrel$Bottle" ({ cls := "LaidQuarrel$Bottle", name := "utters", desc := "(I)I" } : Jvm.MethodName) ({ cls := "LaidQuarrel$Bottle", name := "utters", desc := "(I)I" } : Jvm.MethodName)) : Cond) ∈ lw_tbl := tb_3 (List.mem_of_getElem? (i := 172) rfl)
theorem w_3_173 : ((Jvm.Cond.sameMethod "LaidQuarrel$Bottle" "LaidQuarrel$Bottle" "utters" "(I)I") : Cond) ∈ lw_tbl := tb_3 (List.mem_of_getElem? (i := 173) rfl)
theorem w_3_174 : ((Jvm.Cond.selects "LaidQuarrel$Corked" ({ cls := "LaidQuarrel$Bottle", name := "utters", desc := "(I)I" } : Jvm.MethodName) ({ cls := "LaidQuarrel$Bottle", name := "utters", desc := "(I)I" } : Jvm.MethodName)) : Cond) ∈ lw_tbl := tb_3 (List.mem_of_getElem? (i := 174) rfl)
theorem w_3_175 : ((Jvm.Cond.selects "LaidQuarrel$Feud" ({ cls := "LaidQuarrel$Bottle", name := "utters", desc := "(I)I" } : Jvm.MethodName) ({ cls := "LaidQuarrel$Hard", name := "utters", desc := "(I)I" } : Jvm.MethodName)) : Cond) ∈ lw_tbl := tb_3 (List.mem_of_getElem? (i := 175) rfl)
theorem w_3_176 : ((Jvm.Cond.instanceMethod ({ cls := "LaidQuarrel$Hard", name := "utters", desc := "(I)I" } : Jvm.MethodName)) : Cond) ∈ lw_tbl := tb_3 (List.mem_of_getElem? (i := 176) rfl)
theorem w_3_177 : ((Jvm.Cond.code ({ cls := "LaidQuarrel$Hard", name := "utters", desc := "(I)I" } : Jvm.MethodName) prog_6_method_3_code (2 : Nat) (Option.some Jvm.ClassFile.FieldType.int)) : Cond) ∈ lw_tbl := tb_3 (List.mem_of_getElem? (i := 177) rfl)
theorem w_3_178 : ((Jvm.Cond.methodLink "LaidQuarrel$Hard" (25 : Nat) ({ cls := "LaidQuarrel$Shelf", name := "add", desc := "(III)Z" } : Jvm.MethodName)) : Cond) ∈ lw_tbl := tb_3 (List.mem_of_getElem? (i := 178) rfl)
theorem w_3_179 : ((Jvm.Cond.methodLink "LaidQuarrel$Hard" (31 : Nat) ({ cls := "LaidQuarrel$Bottle", name := "utters", desc := "(I)I" } : Jvm.MethodName)) : Cond) ∈ lw_tbl := tb_3 (List.mem_of_getElem? (i := 179) rfl)
theorem w_3_180 : ((Jvm.Cond.selects "LaidQuarrel$Hard" ({ cls := "LaidQuarrel$Bottle", name := "utters", desc := "(I)I" } : Jvm.MethodName) ({ cls := "LaidQuarrel$Hard", name := "utters", desc := "(I)I" } : Jvm.MethodName)) : Cond) ∈ lw_tbl := tb_3 (List.mem_of_getElem? (i := 180) rfl)
theorem w_3_181 : ((Jvm.Cond.selects "LaidQuarrel$Love" ({ cls := "LaidQuarrel$Bottle", name := "utters", desc := "(I)I" } : Jvm.MethodName) ({ cls := "LaidQuarrel$Love", name := "utters", desc := "(I)I" } : Jvm.MethodName)) : Cond) ∈ lw_tbl := tb_3 (List.mem_of_getElem? (i := 181) rfl)
theorem w_3_182 : ((Jvm.Cond.instanceMethod ({ cls := "LaidQuarrel$Love", name := "utters", desc := "(I)I" } : Jvm.MethodName)) : Cond) ∈ lw_tbl := tb_3 (List.mem_of_getElem? (i := 182) rfl)
theorem w_3_183 : ((Jvm.Cond.code ({ cls := "LaidQuarrel$Love", name := "utters", desc := "(I)I" } : Jvm.MethodName) prog_8_method_3_code (2 : Nat) (Option.some Jvm.ClassFile.FieldType.int)) : Cond) ∈ lw_tbl := tb_3 (List.mem_of_getElem? (i := 183) rfl)
theorem w_3_184 : ((Jvm.Cond.methodLink "LaidQuarrel$Love" (29 : Nat) ({ cls := "LaidQuarrel$Shelf", name := "add", desc := "(III)Z" } : Jvm.MethodName)) : Cond) ∈ lw_tbl := tb_3 (List.mem_of_getElem? (i := 184) rfl)
theorem w_3_185 : ((Jvm.Cond.methodLink "LaidQuarrel$Love" (35 : Nat) ({ cls := "LaidQuarrel$Sweet", name := "utters", desc := "(I)I" } : Jvm.MethodName)) : Cond) ∈ lw_tbl := tb_3 (List.mem_of_getElem? (i := 185) rfl)
theorem w_3_186 : ((Jvm.Cond.sameMethod "LaidQuarrel$Sweet" "LaidQuarrel$Bottle" "utters" "(I)I") : Cond) ∈ lw_tbl := tb_3 (List.mem_of_getElem? (i := 186) rfl)
theorem w_3_187 : ((Jvm.Cond.declares ({ cls := "LaidQuarrel$Bottle", name := "utters", desc := "(I)I" } : Jvm.MethodName)) : Cond) ∈ lw_tbl := tb_3 (List.mem_of_getElem? (i := 187) rfl)
theorem w_3_188 : ((Jvm.Cond.selects "LaidQuarrel$Sweet" ({ cls := "LaidQuarrel$Bottle", name := "utters", desc := "(I)I" } : Jvm.MethodName) ({ cls := "LaidQuarrel$Bottle", name := "utters", desc := "(I)I" } : Jvm.MethodName)) : Cond) ∈ lw_tbl := tb_3 (List.mem_of_getElem? (i := 188) rfl)
theorem w_3_189 : ((Jvm.Cond.selects "LaidQuarrel$Told" ({ cls := "LaidQuarrel$Bottle", name := "utters", desc := "(I)I" } : Jvm.MethodName) ({ cls := "LaidQuarrel$Bottle", name := "utters", desc := "(I)I" } : Jvm.MethodName)) : Cond) ∈ lw_tbl := tb_3 (List.mem_of_getElem? (i := 189) rfl)
theorem w_3_190 : ((Jvm.Cond.code ({ cls := "LaidQuarrel$Bottle", name := "utters", desc := "(I)I" } : Jvm.MethodName) prog_2_method_7_code (2 : Nat) (Option.some Jvm.ClassFile.FieldType.int)) : Cond) ∈ lw_tbl := tb_3 (List.mem_of_getElem? (i := 190) rfl)
theorem w_3_191 : ((Jvm.Cond.methodLink "LaidQuarrel$Bottle" (50 : Nat) ({ cls := "LaidQuarrel$Shelf", name := "add", desc := "(III)Z" } : Jvm.MethodName)) : Cond) ∈ lw_tbl := tb_3 (List.mem_of_getElem? (i := 191) rfl)
theorem w_3_192 : ((Jvm.Cond.methodLink "LaidQuarrel" (258 : Nat) ({ cls := "LaidQuarrel$Bottle", name := "keeps", desc := "(I)I" } : Jvm.MethodName)) : Cond) ∈ lw_tbl := tb_3 (List.mem_of_getElem? (i := 192) rfl)
theorem w_3_193 : ((Jvm.Cond.instanceMethod ({ cls := "LaidQuarrel$Bottle", name := "keeps", desc := "(I)I" } : Jvm.MethodName)) : Cond) ∈ lw_tbl := tb_3 (List.mem_of_getElem? (i := 193) rfl)
theorem w_3_194 : ((Jvm.Cond.selects "LaidQuarrel$Bottle" ({ cls := "LaidQuarrel$Bottle", name := "keeps", desc := "(I)I" } : Jvm.MethodName) ({ cls := "LaidQuarrel$Bottle", name := "keeps", desc := "(I)I" } : Jvm.MethodName)) : Cond) ∈ lw_tbl := tb_3 (List.mem_of_getElem? (i := 194) rfl)
theorem w_3_195 : ((Jvm.Cond.sameMethod "LaidQuarrel$Bottle" "LaidQuarrel$Bottle" "keeps" "(I)I") : Cond) ∈ lw_tbl := tb_3 (List.mem_of_getElem? (i := 195) rfl)
theorem w_3_196 : ((Jvm.Cond.selects "LaidQuarrel$Corked" ({ cls := "LaidQuarrel$Bottle", name := "keeps", desc := "(I)I" } : Jvm.MethodName) ({ cls := "LaidQuarrel$Bottle", name := "keeps", desc := "(I)I" } : Jvm.MethodName)) : Cond) ∈ lw_tbl := tb_3 (List.mem_of_getElem? (i := 196) rfl)
theorem w_3_197 : ((Jvm.Cond.selects "LaidQuarrel$Feud" ({ cls := "LaidQuarrel$Bottle", name := "keeps", desc := "(I)I" } : Jvm.MethodName) ({ cls := "LaidQuarrel$Bottle", name := "keeps", desc := "(I)I" } : Jvm.MethodName)) : Cond) ∈ lw_tbl := tb_3 (List.mem_of_getElem? (i := 197) rfl)
theorem w_3_198 : ((Jvm.Cond.selects "LaidQuarrel$Hard" ({ cls := "LaidQuarrel$Bottle", name := "keeps", desc := "(I)I" } : Jvm.MethodName) ({ cls := "LaidQuarrel$Bottle", name := "keeps", desc := "(I)I" } : Jvm.MethodName)) : Cond) ∈ lw_tbl := tb_3 (List.mem_of_getElem? (i := 198) rfl)
theorem w_3_199 : ((Jvm.Cond.selects "LaidQuarrel$Love" ({ cls := "LaidQuarrel$Bottle", name := "keeps", desc := "(I)I" } : Jvm.MethodName) ({ cls := "LaidQuarrel$Sweet", name := "keeps", desc := "(I)I" } : Jvm.MethodName)) : Cond) ∈ lw_tbl := tb_3 (List.mem_of_getElem? (i := 199) rfl)
theorem w_3_200 : ((Jvm.Cond.instanceMethod ({ cls := "LaidQuarrel$Sweet", name := "keeps", desc := "(I)I" } : Jvm.MethodName)) : Cond) ∈ lw_tbl := tb_3 (List.mem_of_getElem? (i := 200) rfl)
theorem w_3_201 : ((Jvm.Cond.code ({ cls := "LaidQuarrel$Sweet", name := "keeps", desc := "(I)I" } : Jvm.MethodName) prog_10_method_3_code (2 : Nat) (Option.some Jvm.ClassFile.FieldType.int)) : Cond) ∈ lw_tbl := tb_3 (List.mem_of_getElem? (i := 201) rfl)
theorem w_3_202 : ((Jvm.Cond.methodLink "LaidQuarrel$Sweet" (25 : Nat) ({ cls := "LaidQuarrel$Shelf", name := "add", desc := "(III)Z" } : Jvm.MethodName)) : Cond) ∈ lw_tbl := tb_3 (List.mem_of_getElem? (i := 202) rfl)
theorem w_3_203 : ((Jvm.Cond.methodLink "LaidQuarrel$Sweet" (31 : Nat) ({ cls := "LaidQuarrel$Bottle", name := "keeps", desc := "(I)I" } : Jvm.MethodName)) : Cond) ∈ lw_tbl := tb_3 (List.mem_of_getElem? (i := 203) rfl)
theorem w_3_204 : ((Jvm.Cond.selects "LaidQuarrel$Sweet" ({ cls := "LaidQuarrel$Bottle", name := "keeps", desc := "(I)I" } : Jvm.MethodName) ({ cls := "LaidQuarrel$Sweet", name := "keeps", desc := "(I)I" } : Jvm.MethodName)) : Cond) ∈ lw_tbl := tb_3 (List.mem_of_getElem? (i := 204) rfl)
theorem w_3_205 : ((Jvm.Cond.selects "LaidQuarrel$Told" ({ cls := "LaidQuarrel$Bottle", name := "keeps", desc := "(I)I" } : Jvm.MethodName) ({ cls := "LaidQuarrel$Told", name := "keeps", desc := "(I)I" } : Jvm.MethodName)) : Cond) ∈ lw_tbl := tb_3 (List.mem_of_getElem? (i := 205) rfl)
theorem w_3_206 : ((Jvm.Cond.instanceMethod ({ cls := "LaidQuarrel$Told", name := "keeps", desc := "(I)I" } : Jvm.MethodName)) : Cond) ∈ lw_tbl := tb_3 (List.mem_of_getElem? (i := 206) rfl)
theorem w_3_207 : ((Jvm.Cond.code ({ cls := "LaidQuarrel$Told", name := "keeps", desc := "(I)I" } : Jvm.MethodName) prog_11_method_3_code (2 : Nat) (Option.some Jvm.ClassFile.FieldType.int)) : Cond) ∈ lw_tbl := tb_3 (List.mem_of_getElem? (i := 207) rfl)
theorem w_3_208 : ((Jvm.Cond.methodLink "LaidQuarrel$Told" (23 : Nat) ({ cls := "LaidQuarrel$Shelf", name := "add", desc := "(III)Z" } : Jvm.MethodName)) : Cond) ∈ lw_tbl := tb_3 (List.mem_of_getElem? (i := 208) rfl)
theorem w_3_209 : ((Jvm.Cond.methodLink "LaidQuarrel$Told" (29 : Nat) ({ cls := "LaidQuarrel$Corked", name := "keeps", desc := "(I)I" } : Jvm.MethodName)) : Cond) ∈ lw_tbl := tb_3 (List.mem_of_getElem? (i := 209) rfl)
theorem w_3_210 : ((Jvm.Cond.sameMethod "LaidQuarrel$Corked" "LaidQuarrel$Bottle" "keeps" "(I)I") : Cond) ∈ lw_tbl := tb_3 (List.mem_of_getElem? (i := 210) rfl)
theorem w_3_211 : ((Jvm.Cond.declares ({ cls := "LaidQuarrel$Bottle", name := "keeps", desc := "(I)I" } : Jvm.MethodName)) : Cond) ∈ lw_tbl := tb_3 (List.mem_of_getElem? (i := 211) rfl)
theorem w_3_212 : ((Jvm.Cond.code ({ cls := "LaidQuarrel$Bottle", name := "keeps", desc := "(I)I" } : Jvm.MethodName) prog_2_method_8_code (2 : Nat) (Option.some Jvm.ClassFile.FieldType.int)) : Cond) ∈ lw_tbl := tb_3 (List.mem_of_getElem? (i := 212) rfl)
theorem w_3_213 : ((Jvm.Cond.methodLink "LaidQuarrel$Bottle" (56 : Nat) ({ cls := "LaidQuarrel$Bottle", name := "utters", desc := "(I)I" } : Jvm.MethodName)) : Cond) ∈ lw_tbl := tb_3 (List.mem_of_getElem? (i := 213) rfl)
theorem w_3_214 : ((Jvm.Cond.methodLink "LaidQuarrel" (261 : Nat) ({ cls := "LaidQuarrel$Bottle", name := "tells", desc := "(I)I" } : Jvm.MethodName)) : Cond) ∈ lw_tbl := tb_3 (List.mem_of_getElem? (i := 214) rfl)
theorem w_3_215 : ((Jvm.Cond.instanceMethod ({ cls := "LaidQuarrel$Bottle", name := "tells", desc := "(I)I" } : Jvm.MethodName)) : Cond) ∈ lw_tbl := tb_3 (List.mem_of_getElem? (i := 215) rfl)
theorem w_3_216 : ((Jvm.Cond.selects "LaidQuarrel$Bottle" ({ cls := "LaidQuarrel$Bottle", name := "tells", desc := "(I)I" } : Jvm.MethodName) ({ cls := "LaidQuarrel$Bottle", name := "tells", desc := "(I)I" } : Jvm.MethodName)) : Cond) ∈ lw_tbl := tb_3 (List.mem_of_getElem? (i := 216) rfl)
theorem w_3_217 : ((Jvm.Cond.sameMethod "LaidQuarrel$Bottle" "LaidQuarrel$Bottle" "tells" "(I)I") : Cond) ∈ lw_tbl := tb_3 (List.mem_of_getElem? (i := 217) rfl)
theorem w_3_218 : ((Jvm.Cond.selects "LaidQuarrel$Corked" ({ cls := "LaidQuarrel$Bottle", name := "tells", desc := "(I)I" } : Jvm.MethodName) ({ cls := "LaidQuarrel$Corked", name := "tells", desc := "(I)I" } : Jvm.MethodName)) : Cond) ∈ lw_tbl := tb_3 (List.mem_of_getElem? (i := 218) rfl)
theorem w_3_219 : ((Jvm.Cond.instanceMethod ({ cls := "LaidQuarrel$Corked", name := "tells", desc := "(I)I" } : Jvm.MethodName)) : Cond) ∈ lw_tbl := tb_3 (List.mem_of_getElem? (i := 219) rfl)
theorem w_3_220 : ((Jvm.Cond.code ({ cls := "LaidQuarrel$Corked", name := "tells", desc := "(I)I" } : Jvm.MethodName) prog_4_method_3_code (2 : Nat) (Option.some Jvm.ClassFile.FieldType.int)) : Cond) ∈ lw_tbl := tb_3 (List.mem_of_getElem? (i := 220) rfl)
theorem w_3_221 : ((Jvm.Cond.methodLink "LaidQuarrel$Corked" (23 : Nat) ({ cls := "LaidQuarrel$Shelf", name := "add", desc := "(III)Z" } : Jvm.MethodName)) : Cond) ∈ lw_tbl := tb_3 (List.mem_of_getElem? (i := 221) rfl)
theorem w_3_222 : ((Jvm.Cond.methodLink "LaidQuarrel$Corked" (29 : Nat) ({ cls := "LaidQuarrel$Bottle", name := "tells", desc := "(I)I" } : Jvm.MethodName)) : Cond) ∈ lw_tbl := tb_3 (List.mem_of_getElem? (i := 222) rfl)
theorem w_3_223 : ((Jvm.Cond.selects "LaidQuarrel$Feud" ({ cls := "LaidQuarrel$Bottle", name := "tells", desc := "(I)I" } : Jvm.MethodName) ({ cls := "LaidQuarrel$Feud", name := "tells", desc := "(I)I" } : Jvm.MethodName)) : Cond) ∈ lw_tbl := tb_3 (List.mem_of_getElem? (i := 223) rfl)
theorem w_3_224 : ((Jvm.Cond.instanceMethod ({ cls := "LaidQuarrel$Feud", name := "tells", desc := "(I)I" } : Jvm.MethodName)) : Cond) ∈ lw_tbl := tb_3 (List.mem_of_getElem? (i := 224) rfl)
theorem w_3_225 : ((Jvm.Cond.code ({ cls := "LaidQuarrel$Feud", name := "tells", desc := "(I)I" } : Jvm.MethodName) prog_5_method_3_code (2 : Nat) (Option.some Jvm.ClassFile.FieldType.int)) : Cond) ∈ lw_tbl := tb_3 (List.mem_of_getElem? (i := 225) rfl)
theorem w_3_226 : ((Jvm.Cond.methodLink "LaidQuarrel$Feud" (26 : Nat) ({ cls := "LaidQuarrel$Shelf", name := "add", desc := "(III)Z" } : Jvm.MethodName)) : Cond) ∈ lw_tbl := tb_3 (List.mem_of_getElem? (i := 226) rfl)
theorem w_3_227 : ((Jvm.Cond.methodLink "LaidQuarrel$Feud" (32 : Nat) ({ cls := "LaidQuarrel$Hard", name := "tells", desc := "(I)I" } : Jvm.MethodName)) : Cond) ∈ lw_tbl := tb_3 (List.mem_of_getElem? (i := 227) rfl)
theorem w_3_228 : ((Jvm.Cond.sameMethod "LaidQuarrel$Hard" "LaidQuarrel$Bottle" "tells" "(I)I") : Cond) ∈ lw_tbl := tb_3 (List.mem_of_getElem? (i := 228) rfl)
theorem w_3_229 : ((Jvm.Cond.declares ({ cls := "LaidQuarrel$Bottle", name := "tells", desc := "(I)I" } : Jvm.MethodName)) : Cond) ∈ lw_tbl := tb_3 (List.mem_of_getElem? (i := 229) rfl)
theorem w_3_230 : ((Jvm.Cond.methodLink "LaidQuarrel$Feud" (36 : Nat) ({ cls := "LaidQuarrel$Feud", name := "utters", desc := "(I)I" } : Jvm.MethodName)) : Cond) ∈ lw_tbl := tb_3 (List.mem_of_getElem? (i := 230) rfl)
theorem w_3_231 : ((Jvm.Cond.sameMethod "LaidQuarrel$Feud" "LaidQuarrel$Hard" "utters" "(I)I") : Cond) ∈ lw_tbl := tb_3 (List.mem_of_getElem? (i := 231) rfl)
theorem w_3_232 : ((Jvm.Cond.declares ({ cls := "LaidQuarrel$Hard", name := "utters", desc := "(I)I" } : Jvm.MethodName)) : Cond) ∈ lw_tbl := tb_3 (List.mem_of_getElem? (i := 232) rfl)
theorem w_3_233 : ((Jvm.Cond.selects "LaidQuarrel$Feud" ({ cls := "LaidQuarrel$Feud", name := "utters", desc := "(I)I" } : Jvm.MethodName) ({ cls := "LaidQuarrel$Hard", name := "utters", desc := "(I)I" } : Jvm.MethodName)) : Cond) ∈ lw_tbl := tb_3 (List.mem_of_getElem? (i := 233) rfl)
theorem w_3_234 : ((Jvm.Cond.selects "LaidQuarrel$Hard" ({ cls := "LaidQuarrel$Bottle", name := "tells", desc := "(I)I" } : Jvm.MethodName) ({ cls := "LaidQuarrel$Bottle", name := "tells", desc := "(I)I" } : Jvm.MethodName)) : Cond) ∈ lw_tbl := tb_3 (List.mem_of_getElem? (i := 234) rfl)
theorem w_3_235 : ((Jvm.Cond.selects "LaidQuarrel$Love" ({ cls := "LaidQuarrel$Bottle", name := "tells", desc := "(I)I" } : Jvm.MethodName) ({ cls := "LaidQuarrel$Bottle", name := "tells", desc := "(I)I" } : Jvm.MethodName)) : Cond) ∈ lw_tbl := tb_3 (List.mem_of_getElem? (i := 235) rfl)
theorem w_3_236 : ((Jvm.Cond.selects "LaidQuarrel$Sweet" ({ cls := "LaidQuarrel$Bottle", name := "tells", desc := "(I)I" } : Jvm.MethodName) ({ cls := "LaidQuarrel$Bottle", name := "tells", desc := "(I)I" } : Jvm.MethodName)) : Cond) ∈ lw_tbl := tb_3 (List.mem_of_getElem? (i := 236) rfl)
theorem w_3_237 : ((Jvm.Cond.selects "LaidQuarrel$Told" ({ cls := "LaidQuarrel$Bottle", name := "tells", desc := "(I)I" } : Jvm.MethodName) ({ cls := "LaidQuarrel$Corked", name := "tells", desc := "(I)I" } : Jvm.MethodName)) : Cond) ∈ lw_tbl := tb_3 (List.mem_of_getElem? (i := 237) rfl)
theorem w_3_238 : ((Jvm.Cond.code ({ cls := "LaidQuarrel$Bottle", name := "tells", desc := "(I)I" } : Jvm.MethodName) prog_2_method_9_code (2 : Nat) (Option.some Jvm.ClassFile.FieldType.int)) : Cond) ∈ lw_tbl := tb_3 (List.mem_of_getElem? (i := 238) rfl)
theorem w_3_239 : ((Jvm.Cond.methodLink "LaidQuarrel$Bottle" (63 : Nat) ({ cls := "LaidQuarrel$Bottle", name := "keeps", desc := "(I)I" } : Jvm.MethodName)) : Cond) ∈ lw_tbl := tb_3 (List.mem_of_getElem? (i := 239) rfl)
theorem w_4_0 : ((Jvm.Cond.methodLink "LaidQuarrelLaw" (147 : Nat) ({ cls := "LaidQuarrel", name := "trace", desc := "(I)I" } : Jvm.MethodName)) : Cond) ∈ lw_tbl := tb_4 (List.mem_of_getElem? (i := 0) rfl)
theorem w_4_1 : ((Jvm.Cond.instanceMethod ({ cls := "LaidQuarrel", name := "trace", desc := "(I)I" } : Jvm.MethodName)) : Cond) ∈ lw_tbl := tb_4 (List.mem_of_getElem? (i := 1) rfl)
theorem w_4_2 : ((Jvm.Cond.selects "LaidQuarrel" ({ cls := "LaidQuarrel", name := "trace", desc := "(I)I" } : Jvm.MethodName) ({ cls := "LaidQuarrel", name := "trace", desc := "(I)I" } : Jvm.MethodName)) : Cond) ∈ lw_tbl := tb_4 (List.mem_of_getElem? (i := 2) rfl)
theorem w_4_3 : ((Jvm.Cond.code ({ cls := "LaidQuarrel", name := "trace", desc := "(I)I" } : Jvm.MethodName) prog_1_method_34_code (2 : Nat) (Option.some Jvm.ClassFile.FieldType.int)) : Cond) ∈ lw_tbl := tb_4 (List.mem_of_getElem? (i := 3) rfl)
theorem w_4_4 : ((Jvm.Cond.methodLink "LaidQuarrelLaw" (151 : Nat) ({ cls := "LaidQuarrel", name := "as", desc := "(II)I" } : Jvm.MethodName)) : Cond) ∈ lw_tbl := tb_4 (List.mem_of_getElem? (i := 4) rfl)
theorem w_4_5 : ((Jvm.Cond.instanceMethod ({ cls := "LaidQuarrel", name := "as", desc := "(II)I" } : Jvm.MethodName)) : Cond) ∈ lw_tbl := tb_4 (List.mem_of_getElem? (i := 5) rfl)
theorem w_4_6 : ((Jvm.Cond.selects "LaidQuarrel" ({ cls := "LaidQuarrel", name := "as", desc := "(II)I" } : Jvm.MethodName) ({ cls := "LaidQuarrel", name := "as", desc := "(II)I" } : Jvm.MethodName)) : Cond) ∈ lw_tbl := tb_4 (List.mem_of_getElem? (i := 6) rfl)
theorem w_4_7 : ((Jvm.Cond.code ({ cls := "LaidQuarrel", name := "as", desc := "(II)I" } : Jvm.MethodName) prog_1_method_35_code (5 : Nat) (Option.some Jvm.ClassFile.FieldType.int)) : Cond) ∈ lw_tbl := tb_4 (List.mem_of_getElem? (i := 7) rfl)
theorem w_4_8 : ((Jvm.Cond.methodLink "LaidQuarrel" (264 : Nat) ({ cls := "LaidQuarrel", name := "kindAbove", desc := "(I)I" } : Jvm.MethodName)) : Cond) ∈ lw_tbl := tb_4 (List.mem_of_getElem? (i := 8) rfl)
theorem w_4_9 : ((Jvm.Cond.static ({ cls := "LaidQuarrel", name := "kindAbove", desc := "(I)I" } : Jvm.MethodName)) : Cond) ∈ lw_tbl := tb_4 (List.mem_of_getElem? (i := 9) rfl)
theorem w_4_10 : ((Jvm.Cond.code ({ cls := "LaidQuarrel", name := "kindAbove", desc := "(I)I" } : Jvm.MethodName) prog_1_method_43_code (1 : Nat) (Option.some Jvm.ClassFile.FieldType.int)) : Cond) ∈ lw_tbl := tb_4 (List.mem_of_getElem? (i := 10) rfl)
theorem w_4_11 : ((Jvm.Cond.methodLink "LaidQuarrelLaw" (155 : Nat) ({ cls := "LaidQuarrel", name := "image", desc := "()I" } : Jvm.MethodName)) : Cond) ∈ lw_tbl := tb_4 (List.mem_of_getElem? (i := 11) rfl)
theorem w_4_12 : ((Jvm.Cond.instanceMethod ({ cls := "LaidQuarrel", name := "image", desc := "()I" } : Jvm.MethodName)) : Cond) ∈ lw_tbl := tb_4 (List.mem_of_getElem? (i := 12) rfl)
theorem w_4_13 : ((Jvm.Cond.selects "LaidQuarrel" ({ cls := "LaidQuarrel", name := "image", desc := "()I" } : Jvm.MethodName) ({ cls := "LaidQuarrel", name := "image", desc := "()I" } : Jvm.MethodName)) : Cond) ∈ lw_tbl := tb_4 (List.mem_of_getElem? (i := 13) rfl)
theorem w_4_14 : ((Jvm.Cond.code ({ cls := "LaidQuarrel", name := "image", desc := "()I" } : Jvm.MethodName) prog_1_method_36_code (2 : Nat) (Option.some Jvm.ClassFile.FieldType.int)) : Cond) ∈ lw_tbl := tb_4 (List.mem_of_getElem? (i := 14) rfl)
theorem w_4_15 : ((Jvm.Cond.methodLink "LaidQuarrel" (267 : Nat) ({ cls := "LaidQuarrel$Shelf", name := "keep", desc := "()V" } : Jvm.MethodName)) : Cond) ∈ lw_tbl := tb_4 (List.mem_of_getElem? (i := 15) rfl)
theorem w_4_16 : ((Jvm.Cond.instanceMethod ({ cls := "LaidQuarrel$Shelf", name := "keep", desc := "()V" } : Jvm.MethodName)) : Cond) ∈ lw_tbl := tb_4 (List.mem_of_getElem? (i := 16) rfl)
theorem w_4_17 : ((Jvm.Cond.selects "LaidQuarrel$Shelf" ({ cls := "LaidQuarrel$Shelf", name := "keep", desc := "()V" } : Jvm.MethodName) ({ cls := "LaidQuarrel$Shelf", name := "keep", desc := "()V" } : Jvm.MethodName)) : Cond) ∈ lw_tbl := tb_4 (List.mem_of_getElem? (i := 17) rfl)
theorem w_4_18 : ((Jvm.Cond.code ({ cls := "LaidQuarrel$Shelf", name := "keep", desc := "()V" } : Jvm.MethodName) prog_9_method_7_code (1 : Nat) (Option.none : Option Jvm.ClassFile.FieldType)) : Cond) ∈ lw_tbl := tb_4 (List.mem_of_getElem? (i := 18) rfl)
theorem w_4_19 : ((Jvm.Cond.methodLink "LaidQuarrel" (270 : Nat) ({ cls := "LaidQuarrel$Cellar", name := "keep", desc := "()V" } : Jvm.MethodName)) : Cond) ∈ lw_tbl := tb_4 (List.mem_of_getElem? (i := 19) rfl)
theorem w_4_20 : ((Jvm.Cond.instanceMethod ({ cls := "LaidQuarrel$Cellar", name := "keep", desc := "()V" } : Jvm.MethodName)) : Cond) ∈ lw_tbl := tb_4 (List.mem_of_getElem? (i := 20) rfl)
theorem w_4_21 : ((Jvm.Cond.selects "LaidQuarrel$Cellar" ({ cls := "LaidQuarrel$Cellar", name := "keep", desc := "()V" } : Jvm.MethodName) ({ cls := "LaidQuarrel$Cellar", name := "keep", desc := "()V" } : Jvm.MethodName)) : Cond) ∈ lw_tbl := tb_4 (List.mem_of_getElem? (i := 21) rfl)
theorem w_4_22 : ((Jvm.Cond.code ({ cls := "LaidQuarrel$Cellar", name := "keep", desc := "()V" } : Jvm.MethodName) prog_3_method_3_code (1 : Nat) (Option.none : Option Jvm.ClassFile.FieldType)) : Cond) ∈ lw_tbl := tb_4 (List.mem_of_getElem? (i := 22) rfl)
theorem w_4_23 : ((Jvm.Cond.methodLink "LaidQuarrel$Cellar" (30 : Nat) ({ cls := "LaidQuarrel$Shelf", name := "keep", desc := "()V" } : Jvm.MethodName)) : Cond) ∈ lw_tbl := tb_4 (List.mem_of_getElem? (i := 23) rfl)
theorem w_4_24 : ((Jvm.Cond.methodLink "LaidQuarrel" (271 : Nat) ({ cls := "LaidQuarrel$Bottle", name := "keep", desc := "()V" } : Jvm.MethodName)) : Cond) ∈ lw_tbl := tb_4 (List.mem_of_getElem? (i := 24) rfl)
theorem w_4_25 : ((Jvm.Cond.instanceMethod ({ cls := "LaidQuarrel$Bottle", name := "keep", desc := "()V" } : Jvm.MethodName)) : Cond) ∈ lw_tbl := tb_4 (List.mem_of_getElem? (i := 25) rfl)
theorem w_4_26 : ((Jvm.Cond.selects "LaidQuarrel$Bottle" ({ cls := "LaidQuarrel$Bottle", name := "keep", desc := "()V" } : Jvm.MethodName) ({ cls := "LaidQuarrel$Bottle", name := "keep", desc := "()V" } : Jvm.MethodName)) : Cond) ∈ lw_tbl := tb_4 (List.mem_of_getElem? (i := 26) rfl)
theorem w_4_27 : ((Jvm.Cond.sameMethod "LaidQuarrel$Bottle" "LaidQuarrel$Bottle" "keep" "()V") : Cond) ∈ lw_tbl := tb_4 (List.mem_of_getElem? (i := 27) rfl)
theorem w_4_28 : ((Jvm.Cond.selects "LaidQuarrel$Corked" ({ cls := "LaidQuarrel$Bottle", name := "keep", desc := "()V" } : Jvm.MethodName) ({ cls := "LaidQuarrel$Bottle", name := "keep", desc := "()V" } : Jvm.MethodName)) : Cond) ∈ lw_tbl := tb_4 (List.mem_of_getElem? (i := 28) rfl)
theorem w_4_29 : ((Jvm.Cond.selects "LaidQuarrel$Feud" ({ cls := "LaidQuarrel$Bottle", name := "keep", desc := "()V" } : Jvm.MethodName) ({ cls := "LaidQuarrel$Bottle", name := "keep", desc := "()V" } : Jvm.MethodName)) : Cond) ∈ lw_tbl := tb_4 (List.mem_of_getElem? (i := 29) rfl)
theorem w_4_30 : ((Jvm.Cond.selects "LaidQuarrel$Hard" ({ cls := "LaidQuarrel$Bottle", name := "keep", desc := "()V" } : Jvm.MethodName) ({ cls := "LaidQuarrel$Bottle", name := "keep", desc := "()V" } : Jvm.MethodName)) : Cond) ∈ lw_tbl := tb_4 (List.mem_of_getElem? (i := 30) rfl)
theorem w_4_31 : ((Jvm.Cond.selects "LaidQuarrel$Love" ({ cls := "LaidQuarrel$Bottle", name := "keep", desc := "()V" } : Jvm.MethodName) ({ cls := "LaidQuarrel$Bottle", name := "keep", desc := "()V" } : Jvm.MethodName)) : Cond) ∈ lw_tbl := tb_4 (List.mem_of_getElem? (i := 31) rfl)
theorem w_4_32 : ((Jvm.Cond.selects "LaidQuarrel$Sweet" ({ cls := "LaidQuarrel$Bottle", name := "keep", desc := "()V" } : Jvm.MethodName) ({ cls := "LaidQuarrel$Bottle", name := "keep", desc := "()V" } : Jvm.MethodName)) : Cond) ∈ lw_tbl := tb_4 (List.mem_of_getElem? (i := 32) rfl)
theorem w_4_33 : ((Jvm.Cond.selects "LaidQuarrel$Told" ({ cls := "LaidQuarrel$Bottle", name := "keep", desc := "()V" } : Jvm.MethodName) ({ cls := "LaidQuarrel$Bottle", name := "keep", desc := "()V" } : Jvm.MethodName)) : Cond) ∈ lw_tbl := tb_4 (List.mem_of_getElem? (i := 33) rfl)
theorem w_4_34 : ((Jvm.Cond.code ({ cls := "LaidQuarrel$Bottle", name := "keep", desc := "()V" } : Jvm.MethodName) prog_2_method_2_code (1 : Nat) (Option.none : Option Jvm.ClassFile.FieldType)) : Cond) ∈ lw_tbl := tb_4 (List.mem_of_getElem? (i := 34) rfl)
theorem w_4_35 : ((Jvm.Cond.methodLink "LaidQuarrelLaw" (159 : Nat) ({ cls := "LaidQuarrel", name := "undo", desc := "()I" } : Jvm.MethodName)) : Cond) ∈ lw_tbl := tb_4 (List.mem_of_getElem? (i := 35) rfl)
theorem w_4_36 : ((Jvm.Cond.instanceMethod ({ cls := "LaidQuarrel", name := "undo", desc := "()I" } : Jvm.MethodName)) : Cond) ∈ lw_tbl := tb_4 (List.mem_of_getElem? (i := 36) rfl)
theorem w_4_37 : ((Jvm.Cond.selects "LaidQuarrel" ({ cls := "LaidQuarrel", name := "undo", desc := "()I" } : Jvm.MethodName) ({ cls := "LaidQuarrel", name := "undo", desc := "()I" } : Jvm.MethodName)) : Cond) ∈ lw_tbl := tb_4 (List.mem_of_getElem? (i := 37) rfl)
theorem w_4_38 : ((Jvm.Cond.code ({ cls := "LaidQuarrel", name := "undo", desc := "()I" } : Jvm.MethodName) prog_1_method_37_code (2 : Nat) (Option.some Jvm.ClassFile.FieldType.int)) : Cond) ∈ lw_tbl := tb_4 (List.mem_of_getElem? (i := 38) rfl)
theorem w_4_39 : ((Jvm.Cond.methodLink "LaidQuarrel" (278 : Nat) ({ cls := "LaidQuarrel$Shelf", name := "restore", desc := "()V" } : Jvm.MethodName)) : Cond) ∈ lw_tbl := tb_4 (List.mem_of_getElem? (i := 39) rfl)
theorem w_4_40 : ((Jvm.Cond.instanceMethod ({ cls := "LaidQuarrel$Shelf", name := "restore", desc := "()V" } : Jvm.MethodName)) : Cond) ∈ lw_tbl := tb_4 (List.mem_of_getElem? (i := 40) rfl)
theorem w_4_41 : ((Jvm.Cond.selects "LaidQuarrel$Shelf" ({ cls := "LaidQuarrel$Shelf", name := "restore", desc := "()V" } : Jvm.MethodName) ({ cls := "LaidQuarrel$Shelf", name := "restore", desc := "()V" } : Jvm.MethodName)) : Cond) ∈ lw_tbl := tb_4 (List.mem_of_getElem? (i := 41) rfl)
theorem w_4_42 : ((Jvm.Cond.code ({ cls := "LaidQuarrel$Shelf", name := "restore", desc := "()V" } : Jvm.MethodName) prog_9_method_8_code (1 : Nat) (Option.none : Option Jvm.ClassFile.FieldType)) : Cond) ∈ lw_tbl := tb_4 (List.mem_of_getElem? (i := 42) rfl)
theorem w_4_43 : ((Jvm.Cond.methodLink "LaidQuarrel" (281 : Nat) ({ cls := "LaidQuarrel$Cellar", name := "restore", desc := "()V" } : Jvm.MethodName)) : Cond) ∈ lw_tbl := tb_4 (List.mem_of_getElem? (i := 43) rfl)
theorem w_4_44 : ((Jvm.Cond.instanceMethod ({ cls := "LaidQuarrel$Cellar", name := "restore", desc := "()V" } : Jvm.MethodName)) : Cond) ∈ lw_tbl := tb_4 (List.mem_of_getElem? (i := 44) rfl)
theorem w_4_45 : ((Jvm.Cond.selects "LaidQuarrel$Cellar" ({ cls := "LaidQuarrel$Cellar", name := "restore", desc := "()V" } : Jvm.MethodName) ({ cls := "LaidQuarrel$Cellar", name := "restore", desc := "()V" } : Jvm.MethodName)) : Cond) ∈ lw_tbl := tb_4 (List.mem_of_getElem? (i := 45) rfl)
theorem w_4_46 : ((Jvm.Cond.code ({ cls := "LaidQuarrel$Cellar", name := "restore", desc := "()V" } : Jvm.MethodName) prog_3_method_4_code (1 : Nat) (Option.none : Option Jvm.ClassFile.FieldType)) : Cond) ∈ lw_tbl := tb_4 (List.mem_of_getElem? (i := 46) rfl)
theorem w_4_47 : ((Jvm.Cond.methodLink "LaidQuarrel$Cellar" (33 : Nat) ({ cls := "LaidQuarrel$Shelf", name := "restore", desc := "()V" } : Jvm.MethodName)) : Cond) ∈ lw_tbl := tb_4 (List.mem_of_getElem? (i := 47) rfl)
theorem w_4_48 : ((Jvm.Cond.interfaceEntry "LaidQuarrel" (282 : Nat)) : Cond) ∈ lw_tbl := tb_4 (List.mem_of_getElem? (i := 48) rfl)
theorem w_4_49 : ((Jvm.Cond.methodLink "LaidQuarrel" (282 : Nat) ({ cls := "java/util/List", name := "remove", desc := "(I)Ljava/lang/Object;" } : Jvm.MethodName)) : Cond) ∈ lw_tbl := tb_4 (List.mem_of_getElem? (i := 49) rfl)
theorem w_4_50 : ((Jvm.Cond.interfaceMethod "java/util/List" "java/util/List" "remove" "(I)Ljava/lang/Object;") : Cond) ∈ lw_tbl := tb_4 (List.mem_of_getElem? (i := 50) rfl)
theorem w_4_51 : ((Jvm.Cond.declares ({ cls := "java/util/List", name := "remove", desc := "(I)Ljava/lang/Object;" } : Jvm.MethodName)) : Cond) ∈ lw_tbl := tb_4 (List.mem_of_getElem? (i := 51) rfl)
theorem w_4_52 : ((Jvm.Cond.selects "java/util/ArrayList" ({ cls := "java/util/List", name := "remove", desc := "(I)Ljava/lang/Object;" } : Jvm.MethodName) ({ cls := "java/util/ArrayList", name := "remove", desc := "(I)Ljava/lang/Object;" } : Jvm.MethodName)) : Cond) ∈ lw_tbl := tb_4 (List.mem_of_getElem? (i := 52) rfl)
theorem w_4_53 : ((Jvm.Cond.unhidden "java/util/ArrayList" "remove" "(I)Ljava/lang/Object;") : Cond) ∈ lw_tbl := tb_4 (List.mem_of_getElem? (i := 53) rfl)
theorem w_4_54 : ((Jvm.Cond.instanceMethod ({ cls := "java/util/ArrayList", name := "remove", desc := "(I)Ljava/lang/Object;" } : Jvm.MethodName)) : Cond) ∈ lw_tbl := tb_4 (List.mem_of_getElem? (i := 54) rfl)
theorem w_4_55 : ((Jvm.Cond.publicMethod ({ cls := "java/util/ArrayList", name := "remove", desc := "(I)Ljava/lang/Object;" } : Jvm.MethodName)) : Cond) ∈ lw_tbl := tb_4 (List.mem_of_getElem? (i := 55) rfl)
theorem w_4_56 : ((Jvm.Cond.code ({ cls := "java/util/ArrayList", name := "remove", desc := "(I)Ljava/lang/Object;" } : Jvm.MethodName) prog_29_method_29_code (4 : Nat) (Option.some (Jvm.ClassFile.FieldType.object "java/lang/Object"))) : Cond) ∈ lw_tbl := tb_4 (List.mem_of_getElem? (i := 56) rfl)
theorem w_4_57 : ((Jvm.Cond.methodLink "java/util/ArrayList" (144 : Nat) ({ cls := "java/util/ArrayList", name := "fastRemove", desc := "([Ljava/lang/Object;I)V" } : Jvm.MethodName)) : Cond) ∈ lw_tbl := tb_4 (List.mem_of_getElem? (i := 57) rfl)
theorem w_4_58 : ((Jvm.Cond.privateMethod ({ cls := "java/util/ArrayList", name := "fastRemove", desc := "([Ljava/lang/Object;I)V" } : Jvm.MethodName)) : Cond) ∈ lw_tbl := tb_4 (List.mem_of_getElem? (i := 58) rfl)
theorem w_4_59 : ((Jvm.Cond.instanceMethod ({ cls := "java/util/ArrayList", name := "fastRemove", desc := "([Ljava/lang/Object;I)V" } : Jvm.MethodName)) : Cond) ∈ lw_tbl := tb_4 (List.mem_of_getElem? (i := 59) rfl)
theorem w_4_60 : ((Jvm.Cond.code ({ cls := "java/util/ArrayList", name := "fastRemove", desc := "([Ljava/lang/Object;I)V" } : Jvm.MethodName) prog_29_method_39_code (4 : Nat) (Option.none : Option Jvm.ClassFile.FieldType)) : Cond) ∈ lw_tbl := tb_4 (List.mem_of_getElem? (i := 60) rfl)
theorem w_4_61 : ((Jvm.Cond.methodLink "java/util/ArrayList" (112 : Nat) ({ cls := "java/lang/System", name := "arraycopy", desc := "(Ljava/lang/Object;ILjava/lang/Object;II)V" } : Jvm.MethodName)) : Cond) ∈ lw_tbl := tb_4 (List.mem_of_getElem? (i := 61) rfl)
theorem w_4_62 : ((Jvm.Cond.methodLink "LaidQuarrel" (285 : Nat) ({ cls := "LaidQuarrel$Bottle", name := "restore", desc := "()V" } : Jvm.MethodName)) : Cond) ∈ lw_tbl := tb_4 (List.mem_of_getElem? (i := 62) rfl)
theorem w_4_63 : ((Jvm.Cond.instanceMethod ({ cls := "LaidQuarrel$Bottle", name := "restore", desc := "()V" } : Jvm.MethodName)) : Cond) ∈ lw_tbl := tb_4 (List.mem_of_getElem? (i := 63) rfl)
theorem w_4_64 : ((Jvm.Cond.selects "LaidQuarrel$Bottle" ({ cls := "LaidQuarrel$Bottle", name := "restore", desc := "()V" } : Jvm.MethodName) ({ cls := "LaidQuarrel$Bottle", name := "restore", desc := "()V" } : Jvm.MethodName)) : Cond) ∈ lw_tbl := tb_4 (List.mem_of_getElem? (i := 64) rfl)
theorem w_4_65 : ((Jvm.Cond.sameMethod "LaidQuarrel$Bottle" "LaidQuarrel$Bottle" "restore" "()V") : Cond) ∈ lw_tbl := tb_4 (List.mem_of_getElem? (i := 65) rfl)
theorem w_4_66 : ((Jvm.Cond.selects "LaidQuarrel$Corked" ({ cls := "LaidQuarrel$Bottle", name := "restore", desc := "()V" } : Jvm.MethodName) ({ cls := "LaidQuarrel$Bottle", name := "restore", desc := "()V" } : Jvm.MethodName)) : Cond) ∈ lw_tbl := tb_4 (List.mem_of_getElem? (i := 66) rfl)
theorem w_4_67 : ((Jvm.Cond.selects "LaidQuarrel$Feud" ({ cls := "LaidQuarrel$Bottle", name := "restore", desc := "()V" } : Jvm.MethodName) ({ cls := "LaidQuarrel$Bottle", name := "restore", desc := "()V" } : Jvm.MethodName)) : Cond) ∈ lw_tbl := tb_4 (List.mem_of_getElem? (i := 67) rfl)
theorem w_4_68 : ((Jvm.Cond.selects "LaidQuarrel$Hard" ({ cls := "LaidQuarrel$Bottle", name := "restore", desc := "()V" } : Jvm.MethodName) ({ cls := "LaidQuarrel$Bottle", name := "restore", desc := "()V" } : Jvm.MethodName)) : Cond) ∈ lw_tbl := tb_4 (List.mem_of_getElem? (i := 68) rfl)
theorem w_4_69 : ((Jvm.Cond.selects "LaidQuarrel$Love" ({ cls := "LaidQuarrel$Bottle", name := "restore", desc := "()V" } : Jvm.MethodName) ({ cls := "LaidQuarrel$Bottle", name := "restore", desc := "()V" } : Jvm.MethodName)) : Cond) ∈ lw_tbl := tb_4 (List.mem_of_getElem? (i := 69) rfl)
theorem w_4_70 : ((Jvm.Cond.selects "LaidQuarrel$Sweet" ({ cls := "LaidQuarrel$Bottle", name := "restore", desc := "()V" } : Jvm.MethodName) ({ cls := "LaidQuarrel$Bottle", name := "restore", desc := "()V" } : Jvm.MethodName)) : Cond) ∈ lw_tbl := tb_4 (List.mem_of_getElem? (i := 70) rfl)
theorem w_4_71 : ((Jvm.Cond.selects "LaidQuarrel$Told" ({ cls := "LaidQuarrel$Bottle", name := "restore", desc := "()V" } : Jvm.MethodName) ({ cls := "LaidQuarrel$Bottle", name := "restore", desc := "()V" } : Jvm.MethodName)) : Cond) ∈ lw_tbl := tb_4 (List.mem_of_getElem? (i := 71) rfl)
theorem w_4_72 : ((Jvm.Cond.code ({ cls := "LaidQuarrel$Bottle", name := "restore", desc := "()V" } : Jvm.MethodName) prog_2_method_3_code (1 : Nat) (Option.none : Option Jvm.ClassFile.FieldType)) : Cond) ∈ lw_tbl := tb_4 (List.mem_of_getElem? (i := 72) rfl)
theorem w_4_73 : ((Jvm.Cond.methodLink "LaidQuarrelLaw" (163 : Nat) ({ cls := "LaidQuarrel", name := "count", desc := "(I)I" } : Jvm.MethodName)) : Cond) ∈ lw_tbl := tb_4 (List.mem_of_getElem? (i := 73) rfl)
theorem w_4_74 : ((Jvm.Cond.instanceMethod ({ cls := "LaidQuarrel", name := "count", desc := "(I)I" } : Jvm.MethodName)) : Cond) ∈ lw_tbl := tb_4 (List.mem_of_getElem? (i := 74) rfl)
theorem w_4_75 : ((Jvm.Cond.selects "LaidQuarrel" ({ cls := "LaidQuarrel", name := "count", desc := "(I)I" } : Jvm.MethodName) ({ cls := "LaidQuarrel", name := "count", desc := "(I)I" } : Jvm.MethodName)) : Cond) ∈ lw_tbl := tb_4 (List.mem_of_getElem? (i := 75) rfl)
theorem w_4_76 : ((Jvm.Cond.code ({ cls := "LaidQuarrel", name := "count", desc := "(I)I" } : Jvm.MethodName) prog_1_method_38_code (2 : Nat) (Option.some Jvm.ClassFile.FieldType.int)) : Cond) ∈ lw_tbl := tb_4 (List.mem_of_getElem? (i := 76) rfl)
theorem w_4_77 : ((Jvm.Cond.classLink "LaidQuarrelLaw" (10 : Nat) "LaidQuarrelModel") : Cond) ∈ lw_tbl := tb_4 (List.mem_of_getElem? (i := 77) rfl)
theorem w_4_78 : ((Jvm.Cond.instantiable "LaidQuarrelModel" (24 : Nat)) : Cond) ∈ lw_tbl := tb_4 (List.mem_of_getElem? (i := 78) rfl)
theorem w_4_79 : ((Jvm.Cond.methodLink "LaidQuarrelLaw" (12 : Nat) ({ cls := "LaidQuarrelModel", name := "<init>", desc := "()V" } : Jvm.MethodName)) : Cond) ∈ lw_tbl := tb_4 (List.mem_of_getElem? (i := 79) rfl)
theorem w_4_80 : ((Jvm.Cond.instanceMethod ({ cls := "LaidQuarrelModel", name := "<init>", desc := "()V" } : Jvm.MethodName)) : Cond) ∈ lw_tbl := tb_4 (List.mem_of_getElem? (i := 80) rfl)
theorem w_4_81 : ((Jvm.Cond.code ({ cls := "LaidQuarrelModel", name := "<init>", desc := "()V" } : Jvm.MethodName) prog_13_method_1_code (1 : Nat) (Option.none : Option Jvm.ClassFile.FieldType)) : Cond) ∈ lw_tbl := tb_4 (List.mem_of_getElem? (i := 81) rfl)
theorem w_4_82 : ((Jvm.Cond.methodLink "LaidQuarrelModel" (3 : Nat) ({ cls := "java/lang/Object", name := "<init>", desc := "()V" } : Jvm.MethodName)) : Cond) ∈ lw_tbl := tb_4 (List.mem_of_getElem? (i := 82) rfl)
theorem w_4_83 : ((Jvm.Cond.fieldLink "LaidQuarrelModel" (9 : Nat) "LaidQuarrelModel" "s" "[I") : Cond) ∈ lw_tbl := tb_4 (List.mem_of_getElem? (i := 83) rfl)
theorem w_4_84 : ((Jvm.Cond.fieldLink "LaidQuarrelModel" (15 : Nat) "LaidQuarrelModel" "image" "[I") : Cond) ∈ lw_tbl := tb_4 (List.mem_of_getElem? (i := 84) rfl)
theorem w_4_85 : ((Jvm.Cond.fieldLink "LaidQuarrelModel" (18 : Nat) "LaidQuarrelModel" "frame" "[I") : Cond) ∈ lw_tbl := tb_4 (List.mem_of_getElem? (i := 85) rfl)
theorem w_4_86 : ((Jvm.Cond.fieldLink "LaidQuarrelModel" (276 : Nat) "LaidQuarrelModel" "hasImage" "Z") : Cond) ∈ lw_tbl := tb_4 (List.mem_of_getElem? (i := 86) rfl)
theorem w_4_87 : ((Jvm.Cond.fieldLink "LaidQuarrelModel" (85 : Nat) "LaidQuarrelModel" "act" "I") : Cond) ∈ lw_tbl := tb_4 (List.mem_of_getElem? (i := 87) rfl)
theorem w_4_88 : ((Jvm.Cond.fieldLink "LaidQuarrelModel" (58 : Nat) "LaidQuarrelModel" "spot" "I") : Cond) ∈ lw_tbl := tb_4 (List.mem_of_getElem? (i := 88) rfl)
theorem w_4_89 : ((Jvm.Cond.fieldLink "LaidQuarrelModel" (61 : Nat) "LaidQuarrelModel" "end" "I") : Cond) ∈ lw_tbl := tb_4 (List.mem_of_getElem? (i := 89) rfl)
theorem w_4_90 : ((Jvm.Cond.fieldLink "LaidQuarrelModel" (64 : Nat) "LaidQuarrelModel" "isWrong" "Z") : Cond) ∈ lw_tbl := tb_4 (List.mem_of_getElem? (i := 90) rfl)
theorem w_4_91 : ((Jvm.Cond.fieldLink "LaidQuarrelModel" (88 : Nat) "LaidQuarrelModel" "open" "I") : Cond) ∈ lw_tbl := tb_4 (List.mem_of_getElem? (i := 91) rfl)
theorem w_4_92 : ((Jvm.Cond.fieldLink "LaidQuarrelModel" (21 : Nat) "LaidQuarrelModel" "by" "[I") : Cond) ∈ lw_tbl := tb_4 (List.mem_of_getElem? (i := 92) rfl)
theorem w_4_93 : ((Jvm.Cond.fieldLink "LaidQuarrelModel" (24 : Nat) "LaidQuarrelModel" "truths" "[Z") : Cond) ∈ lw_tbl := tb_4 (List.mem_of_getElem? (i := 93) rfl)
theorem w_4_94 : ((Jvm.Cond.fieldLink "LaidQuarrelModel" (28 : Nat) "LaidQuarrelModel" "sayings" "[I") : Cond) ∈ lw_tbl := tb_4 (List.mem_of_getElem? (i := 94) rfl)
theorem w_4_95 : ((Jvm.Cond.fieldLink "LaidQuarrelModel" (31 : Nat) "LaidQuarrelModel" "inLine" "[I") : Cond) ∈ lw_tbl := tb_4 (List.mem_of_getElem? (i := 95) rfl)
theorem w_4_96 : ((Jvm.Cond.fieldLink "LaidQuarrelModel" (34 : Nat) "LaidQuarrelModel" "bestRow" "[I") : Cond) ∈ lw_tbl := tb_4 (List.mem_of_getElem? (i := 96) rfl)
theorem w_4_97 : ((Jvm.Cond.fieldLink "LaidQuarrelModel" (207 : Nat) "LaidQuarrelModel" "bestMood" "I") : Cond) ∈ lw_tbl := tb_4 (List.mem_of_getElem? (i := 97) rfl)
theorem w_4_98 : ((Jvm.Cond.fieldLink "LaidQuarrelModel" (37 : Nat) "LaidQuarrelModel" "partner" "[I") : Cond) ∈ lw_tbl := tb_4 (List.mem_of_getElem? (i := 98) rfl)
theorem w_4_99 : ((Jvm.Cond.fieldLink "LaidQuarrelModel" (40 : Nat) "LaidQuarrelModel" "bestPartner" "[I") : Cond) ∈ lw_tbl := tb_4 (List.mem_of_getElem? (i := 99) rfl)
theorem w_4_100 : ((Jvm.Cond.fieldLink "LaidQuarrelModel" (214 : Nat) "LaidQuarrelModel" "mostPairs" "I") : Cond) ∈ lw_tbl := tb_4 (List.mem_of_getElem? (i := 100) rfl)
theorem w_4_101 : ((Jvm.Cond.fieldLink "LaidQuarrelModel" (43 : Nat) "LaidQuarrelModel" "bodies" "[I") : Cond) ∈ lw_tbl := tb_4 (List.mem_of_getElem? (i := 101) rfl)
theorem w_4_102 : ((Jvm.Cond.fieldLink "LaidQuarrelModel" (239 : Nat) "LaidQuarrelModel" "ran" "I") : Cond) ∈ lw_tbl := tb_4 (List.mem_of_getElem? (i := 102) rfl)
theorem w_4_103 : ((Jvm.Cond.fieldLink "LaidQuarrelModel" (248 : Nat) "LaidQuarrelModel" "kind" "I") : Cond) ∈ lw_tbl := tb_4 (List.mem_of_getElem? (i := 103) rfl)
theorem w_4_104 : ((Jvm.Cond.fieldLink "LaidQuarrelModel" (245 : Nat) "LaidQuarrelModel" "number" "I") : Cond) ∈ lw_tbl := tb_4 (List.mem_of_getElem? (i := 104) rfl)
theorem w_4_105 : ((Jvm.Cond.fieldLink "LaidQuarrelModel" (261 : Nat) "LaidQuarrelModel" "tellsV" "I") : Cond) ∈ lw_tbl := tb_4 (List.mem_of_getElem? (i := 105) rfl)
theorem w_4_106 : ((Jvm.Cond.lays "LaidQuarrelModel" "LaidQuarrelModel" "thrown" "I") : Cond) ∈ lw_tbl := tb_4 (List.mem_of_getElem? (i := 106) rfl)
theorem w_4_107 : ((Jvm.Cond.soleField "LaidQuarrelModel" "thrown") : Cond) ∈ lw_tbl := tb_4 (List.mem_of_getElem? (i := 107) rfl)
theorem w_4_108 : ((Jvm.Cond.laysFinal "LaidQuarrelModel" "LaidQuarrelModel" "s" "[I") : Cond) ∈ lw_tbl := tb_4 (List.mem_of_getElem? (i := 108) rfl)
theorem w_4_109 : ((Jvm.Cond.soleField "LaidQuarrelModel" "s") : Cond) ∈ lw_tbl := tb_4 (List.mem_of_getElem? (i := 109) rfl)
theorem w_4_110 : ((Jvm.Cond.laysFinal "LaidQuarrelModel" "LaidQuarrelModel" "image" "[I") : Cond) ∈ lw_tbl := tb_4 (List.mem_of_getElem? (i := 110) rfl)
theorem w_4_111 : ((Jvm.Cond.soleField "LaidQuarrelModel" "image") : Cond) ∈ lw_tbl := tb_4 (List.mem_of_getElem? (i := 111) rfl)
theorem w_4_112 : ((Jvm.Cond.laysFinal "LaidQuarrelModel" "LaidQuarrelModel" "frame" "[I") : Cond) ∈ lw_tbl := tb_4 (List.mem_of_getElem? (i := 112) rfl)
theorem w_4_113 : ((Jvm.Cond.soleField "LaidQuarrelModel" "frame") : Cond) ∈ lw_tbl := tb_4 (List.mem_of_getElem? (i := 113) rfl)
theorem w_4_114 : ((Jvm.Cond.lays "LaidQuarrelModel" "LaidQuarrelModel" "hasImage" "Z") : Cond) ∈ lw_tbl := tb_4 (List.mem_of_getElem? (i := 114) rfl)
theorem w_4_115 : ((Jvm.Cond.soleField "LaidQuarrelModel" "hasImage") : Cond) ∈ lw_tbl := tb_4 (List.mem_of_getElem? (i := 115) rfl)
theorem w_4_116 : ((Jvm.Cond.lays "LaidQuarrelModel" "LaidQuarrelModel" "act" "I") : Cond) ∈ lw_tbl := tb_4 (List.mem_of_getElem? (i := 116) rfl)
theorem w_4_117 : ((Jvm.Cond.soleField "LaidQuarrelModel" "act") : Cond) ∈ lw_tbl := tb_4 (List.mem_of_getElem? (i := 117) rfl)
theorem w_4_118 : ((Jvm.Cond.lays "LaidQuarrelModel" "LaidQuarrelModel" "spot" "I") : Cond) ∈ lw_tbl := tb_4 (List.mem_of_getElem? (i := 118) rfl)
theorem w_4_119 : ((Jvm.Cond.soleField "LaidQuarrelModel" "spot") : Cond) ∈ lw_tbl := tb_4 (List.mem_of_getElem? (i := 119) rfl)
theorem w_4_120 : ((Jvm.Cond.lays "LaidQuarrelModel" "LaidQuarrelModel" "end" "I") : Cond) ∈ lw_tbl := tb_4 (List.mem_of_getElem? (i := 120) rfl)
theorem w_4_121 : ((Jvm.Cond.soleField "LaidQuarrelModel" "end") : Cond) ∈ lw_tbl := tb_4 (List.mem_of_getElem? (i := 121) rfl)
theorem w_4_122 : ((Jvm.Cond.lays "LaidQuarrelModel" "LaidQuarrelModel" "isWrong" "Z") : Cond) ∈ lw_tbl := tb_4 (List.mem_of_getElem? (i := 122) rfl)
theorem w_4_123 : ((Jvm.Cond.soleField "LaidQuarrelModel" "isWrong") : Cond) ∈ lw_tbl := tb_4 (List.mem_of_getElem? (i := 123) rfl)
theorem w_4_124 : ((Jvm.Cond.lays "LaidQuarrelModel" "LaidQuarrelModel" "open" "I") : Cond) ∈ lw_tbl := tb_4 (List.mem_of_getElem? (i := 124) rfl)
theorem w_4_125 : ((Jvm.Cond.soleField "LaidQuarrelModel" "open") : Cond) ∈ lw_tbl := tb_4 (List.mem_of_getElem? (i := 125) rfl)
theorem w_4_126 : ((Jvm.Cond.laysFinal "LaidQuarrelModel" "LaidQuarrelModel" "by" "[I") : Cond) ∈ lw_tbl := tb_4 (List.mem_of_getElem? (i := 126) rfl)
theorem w_4_127 : ((Jvm.Cond.soleField "LaidQuarrelModel" "by") : Cond) ∈ lw_tbl := tb_4 (List.mem_of_getElem? (i := 127) rfl)
theorem w_4_128 : ((Jvm.Cond.laysFinal "LaidQuarrelModel" "LaidQuarrelModel" "truths" "[Z") : Cond) ∈ lw_tbl := tb_4 (List.mem_of_getElem? (i := 128) rfl)
theorem w_4_129 : ((Jvm.Cond.soleField "LaidQuarrelModel" "truths") : Cond) ∈ lw_tbl := tb_4 (List.mem_of_getElem? (i := 129) rfl)
theorem w_4_130 : ((Jvm.Cond.laysFinal "LaidQuarrelModel" "LaidQuarrelModel" "sayings" "[I") : Cond) ∈ lw_tbl := tb_4 (List.mem_of_getElem? (i := 130) rfl)
theorem w_4_131 : ((Jvm.Cond.soleField "LaidQuarrelModel" "sayings") : Cond) ∈ lw_tbl := tb_4 (List.mem_of_getElem? (i := 131) rfl)
theorem w_4_132 : ((Jvm.Cond.laysFinal "LaidQuarrelModel" "LaidQuarrelModel" "inLine" "[I") : Cond) ∈ lw_tbl := tb_4 (List.mem_of_getElem? (i := 132) rfl)
theorem w_4_133 : ((Jvm.Cond.soleField "LaidQuarrelModel" "inLine") : Cond) ∈ lw_tbl := tb_4 (List.mem_of_getElem? (i := 133) rfl)
theorem w_4_134 : ((Jvm.Cond.laysFinal "LaidQuarrelModel" "LaidQuarrelModel" "bestRow" "[I") : Cond) ∈ lw_tbl := tb_4 (List.mem_of_getElem? (i := 134) rfl)
theorem w_4_135 : ((Jvm.Cond.soleField "LaidQuarrelModel" "bestRow") : Cond) ∈ lw_tbl := tb_4 (List.mem_of_getElem? (i := 135) rfl)
theorem w_4_136 : ((Jvm.Cond.lays "LaidQuarrelModel" "LaidQuarrelModel" "bestMood" "I") : Cond) ∈ lw_tbl := tb_4 (List.mem_of_getElem? (i := 136) rfl)
theorem w_4_137 : ((Jvm.Cond.soleField "LaidQuarrelModel" "bestMood") : Cond) ∈ lw_tbl := tb_4 (List.mem_of_getElem? (i := 137) rfl)
theorem w_4_138 : ((Jvm.Cond.laysFinal "LaidQuarrelModel" "LaidQuarrelModel" "partner" "[I") : Cond) ∈ lw_tbl := tb_4 (List.mem_of_getElem? (i := 138) rfl)
theorem w_4_139 : ((Jvm.Cond.soleField "LaidQuarrelModel" "partner") : Cond) ∈ lw_tbl := tb_4 (List.mem_of_getElem? (i := 139) rfl)
theorem w_4_140 : ((Jvm.Cond.laysFinal "LaidQuarrelModel" "LaidQuarrelModel" "bestPartner" "[I") : Cond) ∈ lw_tbl := tb_4 (List.mem_of_getElem? (i := 140) rfl)
theorem w_4_141 : ((Jvm.Cond.soleField "LaidQuarrelModel" "bestPartner") : Cond) ∈ lw_tbl := tb_4 (List.mem_of_getElem? (i := 141) rfl)
theorem w_4_142 : ((Jvm.Cond.lays "LaidQuarrelModel" "LaidQuarrelModel" "mostPairs" "I") : Cond) ∈ lw_tbl := tb_4 (List.mem_of_getElem? (i := 142) rfl)
theorem w_4_143 : ((Jvm.Cond.soleField "LaidQuarrelModel" "mostPairs") : Cond) ∈ lw_tbl := tb_4 (List.mem_of_getElem? (i := 143) rfl)
theorem w_4_144 : ((Jvm.Cond.laysFinal "LaidQuarrelModel" "LaidQuarrelModel" "bodies" "[I") : Cond) ∈ lw_tbl := tb_4 (List.mem_of_getElem? (i := 144) rfl)
theorem w_4_145 : ((Jvm.Cond.soleField "LaidQuarrelModel" "bodies") : Cond) ∈ lw_tbl := tb_4 (List.mem_of_getElem? (i := 145) rfl)
theorem w_4_146 : ((Jvm.Cond.lays "LaidQuarrelModel" "LaidQuarrelModel" "ran" "I") : Cond) ∈ lw_tbl := tb_4 (List.mem_of_getElem? (i := 146) rfl)
theorem w_4_147 : ((Jvm.Cond.soleField "LaidQuarrelModel" "ran") : Cond) ∈ lw_tbl := tb_4 (List.mem_of_getElem? (i := 147) rfl)
theorem w_4_148 : ((Jvm.Cond.lays "LaidQuarrelModel" "LaidQuarrelModel" "kind" "I") : Cond) ∈ lw_tbl := tb_4 (List.mem_of_getElem? (i := 148) rfl)
theorem w_4_149 : ((Jvm.Cond.soleField "LaidQuarrelModel" "kind") : Cond) ∈ lw_tbl := tb_4 (List.mem_of_getElem? (i := 149) rfl)
theorem w_4_150 : ((Jvm.Cond.lays "LaidQuarrelModel" "LaidQuarrelModel" "number" "I") : Cond) ∈ lw_tbl := tb_4 (List.mem_of_getElem? (i := 150) rfl)
theorem w_4_151 : ((Jvm.Cond.soleField "LaidQuarrelModel" "number") : Cond) ∈ lw_tbl := tb_4 (List.mem_of_getElem? (i := 151) rfl)
theorem w_4_152 : ((Jvm.Cond.lays "LaidQuarrelModel" "LaidQuarrelModel" "tellsV" "I") : Cond) ∈ lw_tbl := tb_4 (List.mem_of_getElem? (i := 152) rfl)
theorem w_4_153 : ((Jvm.Cond.soleField "LaidQuarrelModel" "tellsV") : Cond) ∈ lw_tbl := tb_4 (List.mem_of_getElem? (i := 153) rfl)
theorem w_4_154 : ((Jvm.Cond.superclass "LaidQuarrelModel" "java/lang/Object") : Cond) ∈ lw_tbl := tb_4 (List.mem_of_getElem? (i := 154) rfl)
theorem w_4_155 : ((Jvm.Cond.arrayClass Jvm.ClassFile.FieldType.boolean) : Cond) ∈ lw_tbl := tb_4 (List.mem_of_getElem? (i := 155) rfl)
theorem w_4_156 : ((Jvm.Cond.methodLink "LaidQuarrelLaw" (17 : Nat) ({ cls := "LaidQuarrelModel", name := "feed", desc := "(I)I" } : Jvm.MethodName)) : Cond) ∈ lw_tbl := tb_4 (List.mem_of_getElem? (i := 156) rfl)
theorem w_4_157 : ((Jvm.Cond.instanceMethod ({ cls := "LaidQuarrelModel", name := "feed", desc := "(I)I" } : Jvm.MethodName)) : Cond) ∈ lw_tbl := tb_4 (List.mem_of_getElem? (i := 157) rfl)
theorem w_4_158 : ((Jvm.Cond.selects "LaidQuarrelModel" ({ cls := "LaidQuarrelModel", name := "feed", desc := "(I)I" } : Jvm.MethodName) ({ cls := "LaidQuarrelModel", name := "feed", desc := "(I)I" } : Jvm.MethodName)) : Cond) ∈ lw_tbl := tb_4 (List.mem_of_getElem? (i := 158) rfl)
theorem w_4_159 : ((Jvm.Cond.code ({ cls := "LaidQuarrelModel", name := "feed", desc := "(I)I" } : Jvm.MethodName) prog_13_method_13_code (2 : Nat) (Option.some Jvm.ClassFile.FieldType.int)) : Cond) ∈ lw_tbl := tb_4 (List.mem_of_getElem? (i := 159) rfl)
theorem w_4_160 : ((Jvm.Cond.methodLink "LaidQuarrelModel" (54 : Nat) ({ cls := "LaidQuarrelModel", name := "in", desc := "(III)Z" } : Jvm.MethodName)) : Cond) ∈ lw_tbl := tb_4 (List.mem_of_getElem? (i := 160) rfl)
theorem w_4_161 : ((Jvm.Cond.static ({ cls := "LaidQuarrelModel", name := "in", desc := "(III)Z" } : Jvm.MethodName)) : Cond) ∈ lw_tbl := tb_4 (List.mem_of_getElem? (i := 161) rfl)
theorem w_4_162 : ((Jvm.Cond.code ({ cls := "LaidQuarrelModel", name := "in", desc := "(III)Z" } : Jvm.MethodName) prog_13_method_3_code (3 : Nat) (Option.some Jvm.ClassFile.FieldType.boolean)) : Cond) ∈ lw_tbl := tb_4 (List.mem_of_getElem? (i := 162) rfl)
theorem w_4_163 : ((Jvm.Cond.methodLink "LaidQuarrelLaw" (22 : Nat) ({ cls := "LaidQuarrelModel", name := "cellar", desc := "()I" } : Jvm.MethodName)) : Cond) ∈ lw_tbl := tb_4 (List.mem_of_getElem? (i := 163) rfl)
theorem w_4_164 : ((Jvm.Cond.instanceMethod ({ cls := "LaidQuarrelModel", name := "cellar", desc := "()I" } : Jvm.MethodName)) : Cond) ∈ lw_tbl := tb_4 (List.mem_of_getElem? (i := 164) rfl)
theorem w_4_165 : ((Jvm.Cond.selects "LaidQuarrelModel" ({ cls := "LaidQuarrelModel", name := "cellar", desc := "()I" } : Jvm.MethodName) ({ cls := "LaidQuarrelModel", name := "cellar", desc := "()I" } : Jvm.MethodName)) : Cond) ∈ lw_tbl := tb_4 (List.mem_of_getElem? (i := 165) rfl)
theorem w_4_166 : ((Jvm.Cond.code ({ cls := "LaidQuarrelModel", name := "cellar", desc := "()I" } : Jvm.MethodName) prog_13_method_27_code (2 : Nat) (Option.some Jvm.ClassFile.FieldType.int)) : Cond) ∈ lw_tbl := tb_4 (List.mem_of_getElem? (i := 166) rfl)
theorem w_4_167 : ((Jvm.Cond.methodLink "LaidQuarrelModel" (136 : Nat) ({ cls := "LaidQuarrelModel", name := "clauseHere", desc := "()V" } : Jvm.MethodName)) : Cond) ∈ lw_tbl := tb_4 (List.mem_of_getElem? (i := 167) rfl)
theorem w_4_168 : ((Jvm.Cond.privateMethod ({ cls := "LaidQuarrelModel", name := "clauseHere", desc := "()V" } : Jvm.MethodName)) : Cond) ∈ lw_tbl := tb_4 (List.mem_of_getElem? (i := 168) rfl)
theorem w_4_169 : ((Jvm.Cond.instanceMethod ({ cls := "LaidQuarrelModel", name := "clauseHere", desc := "()V" } : Jvm.MethodName)) : Cond) ∈ lw_tbl := tb_4 (List.mem_of_getElem? (i := 169) rfl)
theorem w_4_170 : ((Jvm.Cond.code ({ cls := "LaidQuarrelModel", name := "clauseHere", desc := "()V" } : Jvm.MethodName) prog_13_method_26_code (1 : Nat) (Option.none : Option Jvm.ClassFile.FieldType)) : Cond) ∈ lw_tbl := tb_4 (List.mem_of_getElem? (i := 170) rfl)
theorem w_4_171 : ((Jvm.Cond.methodLink "LaidQuarrelModel" (68 : Nat) ({ cls := "LaidQuarrelModel", name := "here", desc := "()I" } : Jvm.MethodName)) : Cond) ∈ lw_tbl := tb_4 (List.mem_of_getElem? (i := 171) rfl)
theorem w_4_172 : ((Jvm.Cond.privateMethod ({ cls := "LaidQuarrelModel", name := "here", desc := "()I" } : Jvm.MethodName)) : Cond) ∈ lw_tbl := tb_4 (List.mem_of_getElem? (i := 172) rfl)
theorem w_4_173 : ((Jvm.Cond.instanceMethod ({ cls := "LaidQuarrelModel", name := "here", desc := "()I" } : Jvm.MethodName)) : Cond) ∈ lw_tbl := tb_4 (List.mem_of_getElem? (i := 173) rfl)
theorem w_4_174 : ((Jvm.Cond.code ({ cls := "LaidQuarrelModel", name := "here", desc := "()I" } : Jvm.MethodName) prog_13_method_14_code (1 : Nat) (Option.some Jvm.ClassFile.FieldType.int)) : Cond) ∈ lw_tbl := tb_4 (List.mem_of_getElem? (i := 174) rfl)
theorem w_4_175 : ((Jvm.Cond.stringRef "LaidQuarrelModel" (126 : Nat) "calm ") : Cond) ∈ lw_tbl := tb_4 (List.mem_of_getElem? (i := 175) rfl)
theorem w_4_176 : ((Jvm.Cond.methodLink "LaidQuarrelModel" (128 : Nat) ({ cls := "LaidQuarrelModel", name := "tellsHere", desc := "(ILjava/lang/String;)V" } : Jvm.MethodName)) : Cond) ∈ lw_tbl := tb_4 (List.mem_of_getElem? (i := 176) rfl)
theorem w_4_177 : ((Jvm.Cond.privateMethod ({ cls := "LaidQuarrelModel", name := "tellsHere", desc := "(ILjava/lang/String;)V" } : Jvm.MethodName)) : Cond) ∈ lw_tbl := tb_4 (List.mem_of_getElem? (i := 177) rfl)
theorem w_4_178 : ((Jvm.Cond.instanceMethod ({ cls := "LaidQuarrelModel", name := "tellsHere", desc := "(ILjava/lang/String;)V" } : Jvm.MethodName)) : Cond) ∈ lw_tbl := tb_4 (List.mem_of_getElem? (i := 178) rfl)
theorem w_4_179 : ((Jvm.Cond.code ({ cls := "LaidQuarrelModel", name := "tellsHere", desc := "(ILjava/lang/String;)V" } : Jvm.MethodName) prog_13_method_24_code (4 : Nat) (Option.none : Option Jvm.ClassFile.FieldType)) : Cond) ∈ lw_tbl := tb_4 (List.mem_of_getElem? (i := 179) rfl)
theorem w_4_180 : ((Jvm.Cond.methodLink "LaidQuarrelModel" (114 : Nat) ({ cls := "LaidQuarrelModel", name := "spells", desc := "(Ljava/lang/String;)V" } : Jvm.MethodName)) : Cond) ∈ lw_tbl := tb_4 (List.mem_of_getElem? (i := 180) rfl)
theorem w_4_181 : ((Jvm.Cond.privateMethod ({ cls := "LaidQuarrelModel", name := "spells", desc := "(Ljava/lang/String;)V" } : Jvm.MethodName)) : Cond) ∈ lw_tbl := tb_4 (List.mem_of_getElem? (i := 181) rfl)
theorem w_4_182 : ((Jvm.Cond.instanceMethod ({ cls := "LaidQuarrelModel", name := "spells", desc := "(Ljava/lang/String;)V" } : Jvm.MethodName)) : Cond) ∈ lw_tbl := tb_4 (List.mem_of_getElem? (i := 182) rfl)
theorem w_4_183 : ((Jvm.Cond.code ({ cls := "LaidQuarrelModel", name := "spells", desc := "(Ljava/lang/String;)V" } : Jvm.MethodName) prog_13_method_16_code (3 : Nat) (Option.none : Option Jvm.ClassFile.FieldType)) : Cond) ∈ lw_tbl := tb_4 (List.mem_of_getElem? (i := 183) rfl)
theorem w_4_184 : ((Jvm.Cond.methodLink "LaidQuarrelModel" (72 : Nat) ({ cls := "java/lang/String", name := "length", desc := "()I" } : Jvm.MethodName)) : Cond) ∈ lw_tbl := tb_4 (List.mem_of_getElem? (i := 184) rfl)
theorem w_4_185 : ((Jvm.Cond.methodLink "LaidQuarrelModel" (77 : Nat) ({ cls := "java/lang/String", name := "charAt", desc := "(I)C" } : Jvm.MethodName)) : Cond) ∈ lw_tbl := tb_4 (List.mem_of_getElem? (i := 185) rfl)
theorem w_4_186 : ((Jvm.Cond.methodLink "LaidQuarrelModel" (81 : Nat) ({ cls := "LaidQuarrelModel", name := "must", desc := "(I)V" } : Jvm.MethodName)) : Cond) ∈ lw_tbl := tb_4 (List.mem_of_getElem? (i := 186) rfl)
theorem w_4_187 : ((Jvm.Cond.privateMethod ({ cls := "LaidQuarrelModel", name := "must", desc := "(I)V" } : Jvm.MethodName)) : Cond) ∈ lw_tbl := tb_4 (List.mem_of_getElem? (i := 187) rfl)
theorem w_4_188 : ((Jvm.Cond.instanceMethod ({ cls := "LaidQuarrelModel", name := "must", desc := "(I)V" } : Jvm.MethodName)) : Cond) ∈ lw_tbl := tb_4 (List.mem_of_getElem? (i := 188) rfl)
theorem w_4_189 : ((Jvm.Cond.code ({ cls := "LaidQuarrelModel", name := "must", desc := "(I)V" } : Jvm.MethodName) prog_13_method_15_code (2 : Nat) (Option.none : Option Jvm.ClassFile.FieldType)) : Cond) ∈ lw_tbl := tb_4 (List.mem_of_getElem? (i := 189) rfl)
theorem w_4_190 : ((Jvm.Cond.methodLink "LaidQuarrelModel" (108 : Nat) ({ cls := "LaidQuarrelModel", name := "figures", desc := "()I" } : Jvm.MethodName)) : Cond) ∈ lw_tbl := tb_4 (List.mem_of_getElem? (i := 190) rfl)
theorem w_4_191 : ((Jvm.Cond.privateMethod ({ cls := "LaidQuarrelModel", name := "figures", desc := "()I" } : Jvm.MethodName)) : Cond) ∈ lw_tbl := tb_4 (List.mem_of_getElem? (i := 191) rfl)
theorem w_4_192 : ((Jvm.Cond.instanceMethod ({ cls := "LaidQuarrelModel", name := "figures", desc := "()I" } : Jvm.MethodName)) : Cond) ∈ lw_tbl := tb_4 (List.mem_of_getElem? (i := 192) rfl)
theorem w_4_193 : ((Jvm.Cond.code ({ cls := "LaidQuarrelModel", name := "figures", desc := "()I" } : Jvm.MethodName) prog_13_method_17_code (3 : Nat) (Option.some Jvm.ClassFile.FieldType.int)) : Cond) ∈ lw_tbl := tb_4 (List.mem_of_getElem? (i := 193) rfl)
theorem w_4_194 : ((Jvm.Cond.stringRef "LaidQuarrelModel" (131 : Nat) "peace ") : Cond) ∈ lw_tbl := tb_4 (List.mem_of_getElem? (i := 194) rfl)
theorem w_4_195 : ((Jvm.Cond.methodLink "LaidQuarrelModel" (133 : Nat) ({ cls := "LaidQuarrelModel", name := "wordOfS", desc := "()V" } : Jvm.MethodName)) : Cond) ∈ lw_tbl := tb_4 (List.mem_of_getElem? (i := 195) rfl)
theorem w_4_196 : ((Jvm.Cond.privateMethod ({ cls := "LaidQuarrelModel", name := "wordOfS", desc := "()V" } : Jvm.MethodName)) : Cond) ∈ lw_tbl := tb_4 (List.mem_of_getElem? (i := 196) rfl)
theorem w_4_197 : ((Jvm.Cond.instanceMethod ({ cls := "LaidQuarrelModel", name := "wordOfS", desc := "()V" } : Jvm.MethodName)) : Cond) ∈ lw_tbl := tb_4 (List.mem_of_getElem? (i := 197) rfl)
theorem w_4_198 : ((Jvm.Cond.code ({ cls := "LaidQuarrelModel", name := "wordOfS", desc := "()V" } : Jvm.MethodName) prog_13_method_25_code (1 : Nat) (Option.none : Option Jvm.ClassFile.FieldType)) : Cond) ∈ lw_tbl := tb_4 (List.mem_of_getElem? (i := 198) rfl)
theorem w_4_199 : ((Jvm.Cond.stringRef "LaidQuarrelModel" (118 : Nat) "often ") : Cond) ∈ lw_tbl := tb_4 (List.mem_of_getElem? (i := 199) rfl)
theorem w_4_200 : ((Jvm.Cond.methodLink "LaidQuarrelModel" (120 : Nat) ({ cls := "LaidQuarrelModel", name := "much", desc := "(ILjava/lang/String;)V" } : Jvm.MethodName)) : Cond) ∈ lw_tbl := tb_4 (List.mem_of_getElem? (i := 200) rfl)
theorem w_4_201 : ((Jvm.Cond.privateMethod ({ cls := "LaidQuarrelModel", name := "much", desc := "(ILjava/lang/String;)V" } : Jvm.MethodName)) : Cond) ∈ lw_tbl := tb_4 (List.mem_of_getElem? (i := 201) rfl)
theorem w_4_202 : ((Jvm.Cond.instanceMethod ({ cls := "LaidQuarrelModel", name := "much", desc := "(ILjava/lang/String;)V" } : Jvm.MethodName)) : Cond) ∈ lw_tbl := tb_4 (List.mem_of_getElem? (i := 202) rfl)
theorem w_4_203 : ((Jvm.Cond.code ({ cls := "LaidQuarrelModel", name := "much", desc := "(ILjava/lang/String;)V" } : Jvm.MethodName) prog_13_method_23_code (4 : Nat) (Option.none : Option Jvm.ClassFile.FieldType)) : Cond) ∈ lw_tbl := tb_4 (List.mem_of_getElem? (i := 203) rfl)
theorem w_4_204 : ((Jvm.Cond.methodLink "LaidQuarrelModel" (97 : Nat) ({ cls := "LaidQuarrelModel", name := "some", desc := "()V" } : Jvm.MethodName)) : Cond) ∈ lw_tbl := tb_4 (List.mem_of_getElem? (i := 204) rfl)
theorem w_4_205 : ((Jvm.Cond.privateMethod ({ cls := "LaidQuarrelModel", name := "some", desc := "()V" } : Jvm.MethodName)) : Cond) ∈ lw_tbl := tb_4 (List.mem_of_getElem? (i := 205) rfl)
theorem w_4_206 : ((Jvm.Cond.instanceMethod ({ cls := "LaidQuarrelModel", name := "some", desc := "()V" } : Jvm.MethodName)) : Cond) ∈ lw_tbl := tb_4 (List.mem_of_getElem? (i := 206) rfl)
theorem w_4_207 : ((Jvm.Cond.code ({ cls := "LaidQuarrelModel", name := "some", desc := "()V" } : Jvm.MethodName) prog_13_method_22_code (1 : Nat) (Option.none : Option Jvm.ClassFile.FieldType)) : Cond) ∈ lw_tbl := tb_4 (List.mem_of_getElem? (i := 207) rfl)
theorem w_4_208 : ((Jvm.Cond.methodLink "LaidQuarrelModel" (111 : Nat) ({ cls := "LaidQuarrelModel", name := "every", desc := "()V" } : Jvm.MethodName)) : Cond) ∈ lw_tbl := tb_4 (List.mem_of_getElem? (i := 208) rfl)
theorem w_4_209 : ((Jvm.Cond.privateMethod ({ cls := "LaidQuarrelModel", name := "every", desc := "()V" } : Jvm.MethodName)) : Cond) ∈ lw_tbl := tb_4 (List.mem_of_getElem? (i := 209) rfl)
theorem w_4_210 : ((Jvm.Cond.instanceMethod ({ cls := "LaidQuarrelModel", name := "every", desc := "()V" } : Jvm.MethodName)) : Cond) ∈ lw_tbl := tb_4 (List.mem_of_getElem? (i := 210) rfl)
theorem w_4_211 : ((Jvm.Cond.code ({ cls := "LaidQuarrelModel", name := "every", desc := "()V" } : Jvm.MethodName) prog_13_method_21_code (1 : Nat) (Option.none : Option Jvm.ClassFile.FieldType)) : Cond) ∈ lw_tbl := tb_4 (List.mem_of_getElem? (i := 211) rfl)
theorem w_4_212 : ((Jvm.Cond.methodLink "LaidQuarrelModel" (91 : Nat) ({ cls := "LaidQuarrelModel", name := "factor", desc := "()V" } : Jvm.MethodName)) : Cond) ∈ lw_tbl := tb_4 (List.mem_of_getElem? (i := 212) rfl)
theorem w_4_213 : ((Jvm.Cond.privateMethod ({ cls := "LaidQuarrelModel", name := "factor", desc := "()V" } : Jvm.MethodName)) : Cond) ∈ lw_tbl := tb_4 (List.mem_of_getElem? (i := 213) rfl)
theorem w_4_214 : ((Jvm.Cond.instanceMethod ({ cls := "LaidQuarrelModel", name := "factor", desc := "()V" } : Jvm.MethodName)) : Cond) ∈ lw_tbl := tb_4 (List.mem_of_getElem? (i := 214) rfl)
theorem w_4_215 : ((Jvm.Cond.code ({ cls := "LaidQuarrelModel", name := "factor", desc := "()V" } : Jvm.MethodName) prog_13_method_20_code (5 : Nat) (Option.none : Option Jvm.ClassFile.FieldType)) : Cond) ∈ lw_tbl := tb_4 (List.mem_of_getElem? (i := 215) rfl)
theorem w_4_216 : ((Jvm.Cond.methodLink "LaidQuarrelModel" (94 : Nat) ({ cls := "LaidQuarrelModel", name := "emits", desc := "(I)V" } : Jvm.MethodName)) : Cond) ∈ lw_tbl := tb_4 (List.mem_of_getElem? (i := 216) rfl)
theorem w_4_217 : ((Jvm.Cond.privateMethod ({ cls := "LaidQuarrelModel", name := "emits", desc := "(I)V" } : Jvm.MethodName)) : Cond) ∈ lw_tbl := tb_4 (List.mem_of_getElem? (i := 217) rfl)
theorem w_4_218 : ((Jvm.Cond.instanceMethod ({ cls := "LaidQuarrelModel", name := "emits", desc := "(I)V" } : Jvm.MethodName)) : Cond) ∈ lw_tbl := tb_4 (List.mem_of_getElem? (i := 218) rfl)
theorem w_4_219 : ((Jvm.Cond.code ({ cls := "LaidQuarrelModel", name := "emits", desc := "(I)V" } : Jvm.MethodName) prog_13_method_19_code (2 : Nat) (Option.none : Option Jvm.ClassFile.FieldType)) : Cond) ∈ lw_tbl := tb_4 (List.mem_of_getElem? (i := 219) rfl)
theorem w_4_220 : ((Jvm.Cond.stringRef "LaidQuarrelModel" (100 : Nat) "bkvyqw") : Cond) ∈ lw_tbl := tb_4 (List.mem_of_getElem? (i := 220) rfl)
theorem w_4_221 : ((Jvm.Cond.methodLink "LaidQuarrelModel" (102 : Nat) ({ cls := "LaidQuarrelModel", name := "among", desc := "(Ljava/lang/String;)I" } : Jvm.MethodName)) : Cond) ∈ lw_tbl := tb_4 (List.mem_of_getElem? (i := 221) rfl)
theorem w_4_222 : ((Jvm.Cond.privateMethod ({ cls := "LaidQuarrelModel", name := "among", desc := "(Ljava/lang/String;)I" } : Jvm.MethodName)) : Cond) ∈ lw_tbl := tb_4 (List.mem_of_getElem? (i := 222) rfl)
theorem w_4_223 : ((Jvm.Cond.instanceMethod ({ cls := "LaidQuarrelModel", name := "among", desc := "(Ljava/lang/String;)I" } : Jvm.MethodName)) : Cond) ∈ lw_tbl := tb_4 (List.mem_of_getElem? (i := 223) rfl)
theorem w_4_224 : ((Jvm.Cond.code ({ cls := "LaidQuarrelModel", name := "among", desc := "(Ljava/lang/String;)I" } : Jvm.MethodName) prog_13_method_18_code (3 : Nat) (Option.some Jvm.ClassFile.FieldType.int)) : Cond) ∈ lw_tbl := tb_4 (List.mem_of_getElem? (i := 224) rfl)
theorem w_4_225 : ((Jvm.Cond.stringRef "LaidQuarrelModel" (106 : Nat) "<=>") : Cond) ∈ lw_tbl := tb_4 (List.mem_of_getElem? (i := 225) rfl)
theorem w_4_226 : ((Jvm.Cond.stringRef "LaidQuarrelModel" (124 : Nat) "harpen ") : Cond) ∈ lw_tbl := tb_4 (List.mem_of_getElem? (i := 226) rfl)
theorem w_4_227 : ((Jvm.Cond.methodLink "LaidQuarrelLaw" (27 : Nat) ({ cls := "LaidQuarrelModel", name := "bottle", desc := "(III)I" } : Jvm.MethodName)) : Cond) ∈ lw_tbl := tb_4 (List.mem_of_getElem? (i := 227) rfl)
theorem w_4_228 : ((Jvm.Cond.instanceMethod ({ cls := "LaidQuarrelModel", name := "bottle", desc := "(III)I" } : Jvm.MethodName)) : Cond) ∈ lw_tbl := tb_4 (List.mem_of_getElem? (i := 228) rfl)
theorem w_4_229 : ((Jvm.Cond.selects "LaidQuarrelModel" ({ cls := "LaidQuarrelModel", name := "bottle", desc := "(III)I" } : Jvm.MethodName) ({ cls := "LaidQuarrelModel", name := "bottle", desc := "(III)I" } : Jvm.MethodName)) : Cond) ∈ lw_tbl := tb_4 (List.mem_of_getElem? (i := 229) rfl)
theorem w_4_230 : ((Jvm.Cond.code ({ cls := "LaidQuarrelModel", name := "bottle", desc := "(III)I" } : Jvm.MethodName) prog_13_method_32_code (6 : Nat) (Option.some Jvm.ClassFile.FieldType.int)) : Cond) ∈ lw_tbl := tb_4 (List.mem_of_getElem? (i := 230) rfl)
theorem w_4_231 : ((Jvm.Cond.methodLink "LaidQuarrelModel" (152 : Nat) ({ cls := "LaidQuarrelModel", name := "isMood", desc := "(I)Z" } : Jvm.MethodName)) : Cond) ∈ lw_tbl := tb_4 (List.mem_of_getElem? (i := 231) rfl)
theorem w_4_232 : ((Jvm.Cond.static ({ cls := "LaidQuarrelModel", name := "isMood", desc := "(I)Z" } : Jvm.MethodName)) : Cond) ∈ lw_tbl := tb_4 (List.mem_of_getElem? (i := 232) rfl)
theorem w_4_233 : ((Jvm.Cond.code ({ cls := "LaidQuarrelModel", name := "isMood", desc := "(I)Z" } : Jvm.MethodName) prog_13_method_9_code (1 : Nat) (Option.some Jvm.ClassFile.FieldType.boolean)) : Cond) ∈ lw_tbl := tb_4 (List.mem_of_getElem? (i := 233) rfl)
theorem w_4_234 : ((Jvm.Cond.methodLink "LaidQuarrelLaw" (31 : Nat) ({ cls := "LaidQuarrelModel", name := "guest", desc := "(I)I" } : Jvm.MethodName)) : Cond) ∈ lw_tbl := tb_4 (List.mem_of_getElem? (i := 234) rfl)
theorem w_4_235 : ((Jvm.Cond.instanceMethod ({ cls := "LaidQuarrelModel", name := "guest", desc := "(I)I" } : Jvm.MethodName)) : Cond) ∈ lw_tbl := tb_4 (List.mem_of_getElem? (i := 235) rfl)
theorem w_4_236 : ((Jvm.Cond.selects "LaidQuarrelModel" ({ cls := "LaidQuarrelModel", name := "guest", desc := "(I)I" } : Jvm.MethodName) ({ cls := "LaidQuarrelModel", name := "guest", desc := "(I)I" } : Jvm.MethodName)) : Cond) ∈ lw_tbl := tb_4 (List.mem_of_getElem? (i := 236) rfl)
theorem w_4_237 : ((Jvm.Cond.code ({ cls := "LaidQuarrelModel", name := "guest", desc := "(I)I" } : Jvm.MethodName) prog_13_method_33_code (2 : Nat) (Option.some Jvm.ClassFile.FieldType.int)) : Cond) ∈ lw_tbl := tb_4 (List.mem_of_getElem? (i := 237) rfl)
theorem w_4_238 : ((Jvm.Cond.methodLink "LaidQuarrelLaw" (36 : Nat) ({ cls := "LaidQuarrelModel", name := "of", desc := "(II)I" } : Jvm.MethodName)) : Cond) ∈ lw_tbl := tb_4 (List.mem_of_getElem? (i := 238) rfl)
theorem w_4_239 : ((Jvm.Cond.instanceMethod ({ cls := "LaidQuarrelModel", name := "of", desc := "(II)I" } : Jvm.MethodName)) : Cond) ∈ lw_tbl := tb_4 (List.mem_of_getElem? (i := 239) rfl)
theorem w_5_0 : ((Jvm.Cond.selects "LaidQuarrelModel" ({ cls := "LaidQuarrelModel", name := "of", desc := "(II)I" } : Jvm.MethodName) ({ cls := "LaidQuarrelModel", name := "of", desc := "(II)I" } : Jvm.MethodName)) : Cond) ∈ lw_tbl := tb_5 (List.mem_of_getElem? (i := 0) rfl)
theorem w_5_1 : ((Jvm.Cond.code ({ cls := "LaidQuarrelModel", name := "of", desc := "(II)I" } : Jvm.MethodName) prog_13_method_34_code (3 : Nat) (Option.some Jvm.ClassFile.FieldType.int)) : Cond) ∈ lw_tbl := tb_5 (List.mem_of_getElem? (i := 1) rfl)
theorem w_5_2 : ((Jvm.Cond.methodLink "LaidQuarrelModel" (156 : Nat) ({ cls := "LaidQuarrelModel", name := "isBottle", desc := "(I)Z" } : Jvm.MethodName)) : Cond) ∈ lw_tbl := tb_5 (List.mem_of_getElem? (i := 2) rfl)
theorem w_5_3 : ((Jvm.Cond.privateMethod ({ cls := "LaidQuarrelModel", name := "isBottle", desc := "(I)Z" } : Jvm.MethodName)) : Cond) ∈ lw_tbl := tb_5 (List.mem_of_getElem? (i := 3) rfl)
theorem w_5_4 : ((Jvm.Cond.instanceMethod ({ cls := "LaidQuarrelModel", name := "isBottle", desc := "(I)Z" } : Jvm.MethodName)) : Cond) ∈ lw_tbl := tb_5 (List.mem_of_getElem? (i := 4) rfl)
theorem w_5_5 : ((Jvm.Cond.code ({ cls := "LaidQuarrelModel", name := "isBottle", desc := "(I)Z" } : Jvm.MethodName) prog_13_method_7_code (2 : Nat) (Option.some Jvm.ClassFile.FieldType.boolean)) : Cond) ∈ lw_tbl := tb_5 (List.mem_of_getElem? (i := 5) rfl)
theorem w_5_6 : ((Jvm.Cond.methodLink "LaidQuarrelModel" (146 : Nat) ({ cls := "LaidQuarrelModel", name := "softOf", desc := "(I)I" } : Jvm.MethodName)) : Cond) ∈ lw_tbl := tb_5 (List.mem_of_getElem? (i := 6) rfl)
theorem w_5_7 : ((Jvm.Cond.privateMethod ({ cls := "LaidQuarrelModel", name := "softOf", desc := "(I)I" } : Jvm.MethodName)) : Cond) ∈ lw_tbl := tb_5 (List.mem_of_getElem? (i := 7) rfl)
theorem w_5_8 : ((Jvm.Cond.instanceMethod ({ cls := "LaidQuarrelModel", name := "softOf", desc := "(I)I" } : Jvm.MethodName)) : Cond) ∈ lw_tbl := tb_5 (List.mem_of_getElem? (i := 8) rfl)
theorem w_5_9 : ((Jvm.Cond.code ({ cls := "LaidQuarrelModel", name := "softOf", desc := "(I)I" } : Jvm.MethodName) prog_13_method_30_code (3 : Nat) (Option.some Jvm.ClassFile.FieldType.int)) : Cond) ∈ lw_tbl := tb_5 (List.mem_of_getElem? (i := 9) rfl)
theorem w_5_10 : ((Jvm.Cond.methodLink "LaidQuarrelModel" (143 : Nat) ({ cls := "LaidQuarrelModel", name := "looks", desc := "(I)I" } : Jvm.MethodName)) : Cond) ∈ lw_tbl := tb_5 (List.mem_of_getElem? (i := 10) rfl)
theorem w_5_11 : ((Jvm.Cond.privateMethod ({ cls := "LaidQuarrelModel", name := "looks", desc := "(I)I" } : Jvm.MethodName)) : Cond) ∈ lw_tbl := tb_5 (List.mem_of_getElem? (i := 11) rfl)
theorem w_5_12 : ((Jvm.Cond.instanceMethod ({ cls := "LaidQuarrelModel", name := "looks", desc := "(I)I" } : Jvm.MethodName)) : Cond) ∈ lw_tbl := tb_5 (List.mem_of_getElem? (i := 12) rfl)
theorem w_5_13 : ((Jvm.Cond.code ({ cls := "LaidQuarrelModel", name := "looks", desc := "(I)I" } : Jvm.MethodName) prog_13_method_29_code (11 : Nat) (Option.some Jvm.ClassFile.FieldType.int)) : Cond) ∈ lw_tbl := tb_5 (List.mem_of_getElem? (i := 13) rfl)
theorem w_5_14 : ((Jvm.Cond.methodLink "LaidQuarrelModel" (50 : Nat) ({ cls := "LaidQuarrelModel", name := "size", desc := "(I)I" } : Jvm.MethodName)) : Cond) ∈ lw_tbl := tb_5 (List.mem_of_getElem? (i := 14) rfl)
theorem w_5_15 : ((Jvm.Cond.static ({ cls := "LaidQuarrelModel", name := "size", desc := "(I)I" } : Jvm.MethodName)) : Cond) ∈ lw_tbl := tb_5 (List.mem_of_getElem? (i := 15) rfl)
theorem w_5_16 : ((Jvm.Cond.code ({ cls := "LaidQuarrelModel", name := "size", desc := "(I)I" } : Jvm.MethodName) prog_13_method_5_code (1 : Nat) (Option.some Jvm.ClassFile.FieldType.int)) : Cond) ∈ lw_tbl := tb_5 (List.mem_of_getElem? (i := 16) rfl)
theorem w_5_17 : ((Jvm.Cond.methodLink "LaidQuarrelModel" (139 : Nat) ({ cls := "LaidQuarrelModel", name := "tellsOf", desc := "(II)I" } : Jvm.MethodName)) : Cond) ∈ lw_tbl := tb_5 (List.mem_of_getElem? (i := 17) rfl)
theorem w_5_18 : ((Jvm.Cond.privateMethod ({ cls := "LaidQuarrelModel", name := "tellsOf", desc := "(II)I" } : Jvm.MethodName)) : Cond) ∈ lw_tbl := tb_5 (List.mem_of_getElem? (i := 18) rfl)
theorem w_5_19 : ((Jvm.Cond.instanceMethod ({ cls := "LaidQuarrelModel", name := "tellsOf", desc := "(II)I" } : Jvm.MethodName)) : Cond) ∈ lw_tbl := tb_5 (List.mem_of_getElem? (i := 19) rfl)
theorem w_5_20 : ((Jvm.Cond.code ({ cls := "LaidQuarrelModel", name := "tellsOf", desc := "(II)I" } : Jvm.MethodName) prog_13_method_28_code (3 : Nat) (Option.some Jvm.ClassFile.FieldType.int)) : Cond) ∈ lw_tbl := tb_5 (List.mem_of_getElem? (i := 20) rfl)
theorem w_5_21 : ((Jvm.Cond.methodLink "LaidQuarrelModel" (159 : Nat) ({ cls := "LaidQuarrelModel", name := "saysOf", desc := "(I)I" } : Jvm.MethodName)) : Cond) ∈ lw_tbl := tb_5 (List.mem_of_getElem? (i := 21) rfl)
theorem w_5_22 : ((Jvm.Cond.privateMethod ({ cls := "LaidQuarrelModel", name := "saysOf", desc := "(I)I" } : Jvm.MethodName)) : Cond) ∈ lw_tbl := tb_5 (List.mem_of_getElem? (i := 22) rfl)
theorem w_5_23 : ((Jvm.Cond.instanceMethod ({ cls := "LaidQuarrelModel", name := "saysOf", desc := "(I)I" } : Jvm.MethodName)) : Cond) ∈ lw_tbl := tb_5 (List.mem_of_getElem? (i := 23) rfl)
theorem w_5_24 : ((Jvm.Cond.code ({ cls := "LaidQuarrelModel", name := "saysOf", desc := "(I)I" } : Jvm.MethodName) prog_13_method_31_code (6 : Nat) (Option.some Jvm.ClassFile.FieldType.int)) : Cond) ∈ lw_tbl := tb_5 (List.mem_of_getElem? (i := 24) rfl)
theorem w_5_25 : ((Jvm.Cond.methodLink "LaidQuarrelModel" (149 : Nat) ({ cls := "LaidQuarrelModel", name := "nearer", desc := "(II)I" } : Jvm.MethodName)) : Cond) ∈ lw_tbl := tb_5 (List.mem_of_getElem? (i := 25) rfl)
theorem w_5_26 : ((Jvm.Cond.static ({ cls := "LaidQuarrelModel", name := "nearer", desc := "(II)I" } : Jvm.MethodName)) : Cond) ∈ lw_tbl := tb_5 (List.mem_of_getElem? (i := 26) rfl)
theorem w_5_27 : ((Jvm.Cond.code ({ cls := "LaidQuarrelModel", name := "nearer", desc := "(II)I" } : Jvm.MethodName) prog_13_method_6_code (2 : Nat) (Option.some Jvm.ClassFile.FieldType.int)) : Cond) ∈ lw_tbl := tb_5 (List.mem_of_getElem? (i := 27) rfl)
theorem w_5_28 : ((Jvm.Cond.methodLink "LaidQuarrelLaw" (40 : Nat) ({ cls := "LaidQuarrelModel", name := "row", desc := "(III)I" } : Jvm.MethodName)) : Cond) ∈ lw_tbl := tb_5 (List.mem_of_getElem? (i := 28) rfl)
theorem w_5_29 : ((Jvm.Cond.instanceMethod ({ cls := "LaidQuarrelModel", name := "row", desc := "(III)I" } : Jvm.MethodName)) : Cond) ∈ lw_tbl := tb_5 (List.mem_of_getElem? (i := 29) rfl)
theorem w_5_30 : ((Jvm.Cond.selects "LaidQuarrelModel" ({ cls := "LaidQuarrelModel", name := "row", desc := "(III)I" } : Jvm.MethodName) ({ cls := "LaidQuarrelModel", name := "row", desc := "(III)I" } : Jvm.MethodName)) : Cond) ∈ lw_tbl := tb_5 (List.mem_of_getElem? (i := 30) rfl)
theorem w_5_31 : ((Jvm.Cond.code ({ cls := "LaidQuarrelModel", name := "row", desc := "(III)I" } : Jvm.MethodName) prog_13_method_35_code (5 : Nat) (Option.some Jvm.ClassFile.FieldType.int)) : Cond) ∈ lw_tbl := tb_5 (List.mem_of_getElem? (i := 31) rfl)
theorem w_5_32 : ((Jvm.Cond.methodLink "LaidQuarrelLaw" (44 : Nat) ({ cls := "LaidQuarrelModel", name := "set", desc := "(III)I" } : Jvm.MethodName)) : Cond) ∈ lw_tbl := tb_5 (List.mem_of_getElem? (i := 32) rfl)
theorem w_5_33 : ((Jvm.Cond.instanceMethod ({ cls := "LaidQuarrelModel", name := "set", desc := "(III)I" } : Jvm.MethodName)) : Cond) ∈ lw_tbl := tb_5 (List.mem_of_getElem? (i := 33) rfl)
theorem w_5_34 : ((Jvm.Cond.selects "LaidQuarrelModel" ({ cls := "LaidQuarrelModel", name := "set", desc := "(III)I" } : Jvm.MethodName) ({ cls := "LaidQuarrelModel", name := "set", desc := "(III)I" } : Jvm.MethodName)) : Cond) ∈ lw_tbl := tb_5 (List.mem_of_getElem? (i := 34) rfl)
theorem w_5_35 : ((Jvm.Cond.code ({ cls := "LaidQuarrelModel", name := "set", desc := "(III)I" } : Jvm.MethodName) prog_13_method_36_code (6 : Nat) (Option.some Jvm.ClassFile.FieldType.int)) : Cond) ∈ lw_tbl := tb_5 (List.mem_of_getElem? (i := 35) rfl)
theorem w_5_36 : ((Jvm.Cond.methodLink "LaidQuarrelLaw" (48 : Nat) ({ cls := "LaidQuarrelModel", name := "mood", desc := "(I)I" } : Jvm.MethodName)) : Cond) ∈ lw_tbl := tb_5 (List.mem_of_getElem? (i := 36) rfl)
theorem w_5_37 : ((Jvm.Cond.instanceMethod ({ cls := "LaidQuarrelModel", name := "mood", desc := "(I)I" } : Jvm.MethodName)) : Cond) ∈ lw_tbl := tb_5 (List.mem_of_getElem? (i := 37) rfl)
theorem w_5_38 : ((Jvm.Cond.selects "LaidQuarrelModel" ({ cls := "LaidQuarrelModel", name := "mood", desc := "(I)I" } : Jvm.MethodName) ({ cls := "LaidQuarrelModel", name := "mood", desc := "(I)I" } : Jvm.MethodName)) : Cond) ∈ lw_tbl := tb_5 (List.mem_of_getElem? (i := 38) rfl)
theorem w_5_39 : ((Jvm.Cond.code ({ cls := "LaidQuarrelModel", name := "mood", desc := "(I)I" } : Jvm.MethodName) prog_13_method_37_code (2 : Nat) (Option.some Jvm.ClassFile.FieldType.int)) : Cond) ∈ lw_tbl := tb_5 (List.mem_of_getElem? (i := 39) rfl)
theorem w_5_40 : ((Jvm.Cond.methodLink "LaidQuarrelModel" (162 : Nat) ({ cls := "LaidQuarrelModel", name := "isGuest", desc := "(I)Z" } : Jvm.MethodName)) : Cond) ∈ lw_tbl := tb_5 (List.mem_of_getElem? (i := 40) rfl)
theorem w_5_41 : ((Jvm.Cond.privateMethod ({ cls := "LaidQuarrelModel", name := "isGuest", desc := "(I)Z" } : Jvm.MethodName)) : Cond) ∈ lw_tbl := tb_5 (List.mem_of_getElem? (i := 41) rfl)
theorem w_5_42 : ((Jvm.Cond.instanceMethod ({ cls := "LaidQuarrelModel", name := "isGuest", desc := "(I)Z" } : Jvm.MethodName)) : Cond) ∈ lw_tbl := tb_5 (List.mem_of_getElem? (i := 42) rfl)
theorem w_5_43 : ((Jvm.Cond.code ({ cls := "LaidQuarrelModel", name := "isGuest", desc := "(I)Z" } : Jvm.MethodName) prog_13_method_8_code (2 : Nat) (Option.some Jvm.ClassFile.FieldType.boolean)) : Cond) ∈ lw_tbl := tb_5 (List.mem_of_getElem? (i := 43) rfl)
theorem w_5_44 : ((Jvm.Cond.methodLink "LaidQuarrelLaw" (52 : Nat) ({ cls := "LaidQuarrelModel", name := "told", desc := "(I)I" } : Jvm.MethodName)) : Cond) ∈ lw_tbl := tb_5 (List.mem_of_getElem? (i := 44) rfl)
theorem w_5_45 : ((Jvm.Cond.instanceMethod ({ cls := "LaidQuarrelModel", name := "told", desc := "(I)I" } : Jvm.MethodName)) : Cond) ∈ lw_tbl := tb_5 (List.mem_of_getElem? (i := 45) rfl)
theorem w_5_46 : ((Jvm.Cond.selects "LaidQuarrelModel" ({ cls := "LaidQuarrelModel", name := "told", desc := "(I)I" } : Jvm.MethodName) ({ cls := "LaidQuarrelModel", name := "told", desc := "(I)I" } : Jvm.MethodName)) : Cond) ∈ lw_tbl := tb_5 (List.mem_of_getElem? (i := 46) rfl)
theorem w_5_47 : ((Jvm.Cond.code ({ cls := "LaidQuarrelModel", name := "told", desc := "(I)I" } : Jvm.MethodName) prog_13_method_41_code (2 : Nat) (Option.some Jvm.ClassFile.FieldType.int)) : Cond) ∈ lw_tbl := tb_5 (List.mem_of_getElem? (i := 47) rfl)
theorem w_5_48 : ((Jvm.Cond.methodLink "LaidQuarrelModel" (165 : Nat) ({ cls := "LaidQuarrelModel", name := "fullOnes", desc := "()I" } : Jvm.MethodName)) : Cond) ∈ lw_tbl := tb_5 (List.mem_of_getElem? (i := 48) rfl)
theorem w_5_49 : ((Jvm.Cond.privateMethod ({ cls := "LaidQuarrelModel", name := "fullOnes", desc := "()I" } : Jvm.MethodName)) : Cond) ∈ lw_tbl := tb_5 (List.mem_of_getElem? (i := 49) rfl)
theorem w_5_50 : ((Jvm.Cond.instanceMethod ({ cls := "LaidQuarrelModel", name := "fullOnes", desc := "()I" } : Jvm.MethodName)) : Cond) ∈ lw_tbl := tb_5 (List.mem_of_getElem? (i := 50) rfl)
theorem w_5_51 : ((Jvm.Cond.code ({ cls := "LaidQuarrelModel", name := "fullOnes", desc := "()I" } : Jvm.MethodName) prog_13_method_38_code (3 : Nat) (Option.some Jvm.ClassFile.FieldType.int)) : Cond) ∈ lw_tbl := tb_5 (List.mem_of_getElem? (i := 51) rfl)
theorem w_5_52 : ((Jvm.Cond.methodLink "LaidQuarrelModel" (168 : Nat) ({ cls := "LaidQuarrelModel", name := "allSay", desc := "()I" } : Jvm.MethodName)) : Cond) ∈ lw_tbl := tb_5 (List.mem_of_getElem? (i := 52) rfl)
theorem w_5_53 : ((Jvm.Cond.privateMethod ({ cls := "LaidQuarrelModel", name := "allSay", desc := "()I" } : Jvm.MethodName)) : Cond) ∈ lw_tbl := tb_5 (List.mem_of_getElem? (i := 53) rfl)
theorem w_5_54 : ((Jvm.Cond.instanceMethod ({ cls := "LaidQuarrelModel", name := "allSay", desc := "()I" } : Jvm.MethodName)) : Cond) ∈ lw_tbl := tb_5 (List.mem_of_getElem? (i := 54) rfl)
theorem w_5_55 : ((Jvm.Cond.code ({ cls := "LaidQuarrelModel", name := "allSay", desc := "()I" } : Jvm.MethodName) prog_13_method_39_code (3 : Nat) (Option.some Jvm.ClassFile.FieldType.int)) : Cond) ∈ lw_tbl := tb_5 (List.mem_of_getElem? (i := 55) rfl)
theorem w_5_56 : ((Jvm.Cond.methodLink "LaidQuarrelModel" (171 : Nat) ({ cls := "LaidQuarrelModel", name := "allMoods", desc := "()I" } : Jvm.MethodName)) : Cond) ∈ lw_tbl := tb_5 (List.mem_of_getElem? (i := 56) rfl)
theorem w_5_57 : ((Jvm.Cond.privateMethod ({ cls := "LaidQuarrelModel", name := "allMoods", desc := "()I" } : Jvm.MethodName)) : Cond) ∈ lw_tbl := tb_5 (List.mem_of_getElem? (i := 57) rfl)
theorem w_5_58 : ((Jvm.Cond.instanceMethod ({ cls := "LaidQuarrelModel", name := "allMoods", desc := "()I" } : Jvm.MethodName)) : Cond) ∈ lw_tbl := tb_5 (List.mem_of_getElem? (i := 58) rfl)
theorem w_5_59 : ((Jvm.Cond.code ({ cls := "LaidQuarrelModel", name := "allMoods", desc := "()I" } : Jvm.MethodName) prog_13_method_40_code (3 : Nat) (Option.some Jvm.ClassFile.FieldType.int)) : Cond) ∈ lw_tbl := tb_5 (List.mem_of_getElem? (i := 59) rfl)
theorem w_5_60 : ((Jvm.Cond.methodLink "LaidQuarrelLaw" (56 : Nat) ({ cls := "LaidQuarrelModel", name := "pour", desc := "(II)I" } : Jvm.MethodName)) : Cond) ∈ lw_tbl := tb_5 (List.mem_of_getElem? (i := 60) rfl)
theorem w_5_61 : ((Jvm.Cond.instanceMethod ({ cls := "LaidQuarrelModel", name := "pour", desc := "(II)I" } : Jvm.MethodName)) : Cond) ∈ lw_tbl := tb_5 (List.mem_of_getElem? (i := 61) rfl)
theorem w_5_62 : ((Jvm.Cond.selects "LaidQuarrelModel" ({ cls := "LaidQuarrelModel", name := "pour", desc := "(II)I" } : Jvm.MethodName) ({ cls := "LaidQuarrelModel", name := "pour", desc := "(II)I" } : Jvm.MethodName)) : Cond) ∈ lw_tbl := tb_5 (List.mem_of_getElem? (i := 62) rfl)
theorem w_5_63 : ((Jvm.Cond.code ({ cls := "LaidQuarrelModel", name := "pour", desc := "(II)I" } : Jvm.MethodName) prog_13_method_44_code (3 : Nat) (Option.some Jvm.ClassFile.FieldType.int)) : Cond) ∈ lw_tbl := tb_5 (List.mem_of_getElem? (i := 63) rfl)
theorem w_5_64 : ((Jvm.Cond.methodLink "LaidQuarrelModel" (182 : Nat) ({ cls := "LaidQuarrelModel", name := "pours", desc := "(II)V" } : Jvm.MethodName)) : Cond) ∈ lw_tbl := tb_5 (List.mem_of_getElem? (i := 64) rfl)
theorem w_5_65 : ((Jvm.Cond.privateMethod ({ cls := "LaidQuarrelModel", name := "pours", desc := "(II)V" } : Jvm.MethodName)) : Cond) ∈ lw_tbl := tb_5 (List.mem_of_getElem? (i := 65) rfl)
theorem w_5_66 : ((Jvm.Cond.instanceMethod ({ cls := "LaidQuarrelModel", name := "pours", desc := "(II)V" } : Jvm.MethodName)) : Cond) ∈ lw_tbl := tb_5 (List.mem_of_getElem? (i := 66) rfl)
theorem w_5_67 : ((Jvm.Cond.code ({ cls := "LaidQuarrelModel", name := "pours", desc := "(II)V" } : Jvm.MethodName) prog_13_method_43_code (3 : Nat) (Option.none : Option Jvm.ClassFile.FieldType)) : Cond) ∈ lw_tbl := tb_5 (List.mem_of_getElem? (i := 67) rfl)
theorem w_5_68 : ((Jvm.Cond.methodLink "LaidQuarrelModel" (178 : Nat) ({ cls := "LaidQuarrelModel", name := "brings", desc := "(II)V" } : Jvm.MethodName)) : Cond) ∈ lw_tbl := tb_5 (List.mem_of_getElem? (i := 68) rfl)
theorem w_5_69 : ((Jvm.Cond.privateMethod ({ cls := "LaidQuarrelModel", name := "brings", desc := "(II)V" } : Jvm.MethodName)) : Cond) ∈ lw_tbl := tb_5 (List.mem_of_getElem? (i := 69) rfl)
theorem w_5_70 : ((Jvm.Cond.instanceMethod ({ cls := "LaidQuarrelModel", name := "brings", desc := "(II)V" } : Jvm.MethodName)) : Cond) ∈ lw_tbl := tb_5 (List.mem_of_getElem? (i := 70) rfl)
theorem w_5_71 : ((Jvm.Cond.code ({ cls := "LaidQuarrelModel", name := "brings", desc := "(II)V" } : Jvm.MethodName) prog_13_method_42_code (3 : Nat) (Option.none : Option Jvm.ClassFile.FieldType)) : Cond) ∈ lw_tbl := tb_5 (List.mem_of_getElem? (i := 71) rfl)
theorem w_5_72 : ((Jvm.Cond.methodLink "LaidQuarrelModel" (174 : Nat) ({ cls := "LaidQuarrelModel", name := "within", desc := "(III)I" } : Jvm.MethodName)) : Cond) ∈ lw_tbl := tb_5 (List.mem_of_getElem? (i := 72) rfl)
theorem w_5_73 : ((Jvm.Cond.static ({ cls := "LaidQuarrelModel", name := "within", desc := "(III)I" } : Jvm.MethodName)) : Cond) ∈ lw_tbl := tb_5 (List.mem_of_getElem? (i := 73) rfl)
theorem w_5_74 : ((Jvm.Cond.code ({ cls := "LaidQuarrelModel", name := "within", desc := "(III)I" } : Jvm.MethodName) prog_13_method_4_code (3 : Nat) (Option.some Jvm.ClassFile.FieldType.int)) : Cond) ∈ lw_tbl := tb_5 (List.mem_of_getElem? (i := 74) rfl)
theorem w_5_75 : ((Jvm.Cond.methodLink "LaidQuarrelLaw" (60 : Nat) ({ cls := "LaidQuarrelModel", name := "both", desc := "(III)I" } : Jvm.MethodName)) : Cond) ∈ lw_tbl := tb_5 (List.mem_of_getElem? (i := 75) rfl)
theorem w_5_76 : ((Jvm.Cond.instanceMethod ({ cls := "LaidQuarrelModel", name := "both", desc := "(III)I" } : Jvm.MethodName)) : Cond) ∈ lw_tbl := tb_5 (List.mem_of_getElem? (i := 76) rfl)
theorem w_5_77 : ((Jvm.Cond.selects "LaidQuarrelModel" ({ cls := "LaidQuarrelModel", name := "both", desc := "(III)I" } : Jvm.MethodName) ({ cls := "LaidQuarrelModel", name := "both", desc := "(III)I" } : Jvm.MethodName)) : Cond) ∈ lw_tbl := tb_5 (List.mem_of_getElem? (i := 77) rfl)
theorem w_5_78 : ((Jvm.Cond.code ({ cls := "LaidQuarrelModel", name := "both", desc := "(III)I" } : Jvm.MethodName) prog_13_method_45_code (4 : Nat) (Option.some Jvm.ClassFile.FieldType.int)) : Cond) ∈ lw_tbl := tb_5 (List.mem_of_getElem? (i := 78) rfl)
theorem w_5_79 : ((Jvm.Cond.methodLink "LaidQuarrelLaw" (64 : Nat) ({ cls := "LaidQuarrelModel", name := "pass", desc := "(I)I" } : Jvm.MethodName)) : Cond) ∈ lw_tbl := tb_5 (List.mem_of_getElem? (i := 79) rfl)
theorem w_5_80 : ((Jvm.Cond.instanceMethod ({ cls := "LaidQuarrelModel", name := "pass", desc := "(I)I" } : Jvm.MethodName)) : Cond) ∈ lw_tbl := tb_5 (List.mem_of_getElem? (i := 80) rfl)
theorem w_5_81 : ((Jvm.Cond.selects "LaidQuarrelModel" ({ cls := "LaidQuarrelModel", name := "pass", desc := "(I)I" } : Jvm.MethodName) ({ cls := "LaidQuarrelModel", name := "pass", desc := "(I)I" } : Jvm.MethodName)) : Cond) ∈ lw_tbl := tb_5 (List.mem_of_getElem? (i := 81) rfl)
theorem w_5_82 : ((Jvm.Cond.code ({ cls := "LaidQuarrelModel", name := "pass", desc := "(I)I" } : Jvm.MethodName) prog_13_method_48_code (2 : Nat) (Option.some Jvm.ClassFile.FieldType.int)) : Cond) ∈ lw_tbl := tb_5 (List.mem_of_getElem? (i := 82) rfl)
theorem w_5_83 : ((Jvm.Cond.methodLink "LaidQuarrelModel" (188 : Nat) ({ cls := "LaidQuarrelModel", name := "goesOn", desc := "(I)V" } : Jvm.MethodName)) : Cond) ∈ lw_tbl := tb_5 (List.mem_of_getElem? (i := 83) rfl)
theorem w_5_84 : ((Jvm.Cond.privateMethod ({ cls := "LaidQuarrelModel", name := "goesOn", desc := "(I)V" } : Jvm.MethodName)) : Cond) ∈ lw_tbl := tb_5 (List.mem_of_getElem? (i := 84) rfl)
theorem w_5_85 : ((Jvm.Cond.instanceMethod ({ cls := "LaidQuarrelModel", name := "goesOn", desc := "(I)V" } : Jvm.MethodName)) : Cond) ∈ lw_tbl := tb_5 (List.mem_of_getElem? (i := 85) rfl)
theorem w_5_86 : ((Jvm.Cond.code ({ cls := "LaidQuarrelModel", name := "goesOn", desc := "(I)V" } : Jvm.MethodName) prog_13_method_47_code (3 : Nat) (Option.none : Option Jvm.ClassFile.FieldType)) : Cond) ∈ lw_tbl := tb_5 (List.mem_of_getElem? (i := 86) rfl)
theorem w_5_87 : ((Jvm.Cond.methodLink "LaidQuarrelModel" (185 : Nat) ({ cls := "LaidQuarrelModel", name := "goes", desc := "()V" } : Jvm.MethodName)) : Cond) ∈ lw_tbl := tb_5 (List.mem_of_getElem? (i := 87) rfl)
theorem w_5_88 : ((Jvm.Cond.privateMethod ({ cls := "LaidQuarrelModel", name := "goes", desc := "()V" } : Jvm.MethodName)) : Cond) ∈ lw_tbl := tb_5 (List.mem_of_getElem? (i := 88) rfl)
theorem w_5_89 : ((Jvm.Cond.instanceMethod ({ cls := "LaidQuarrelModel", name := "goes", desc := "()V" } : Jvm.MethodName)) : Cond) ∈ lw_tbl := tb_5 (List.mem_of_getElem? (i := 89) rfl)
theorem w_5_90 : ((Jvm.Cond.code ({ cls := "LaidQuarrelModel", name := "goes", desc := "()V" } : Jvm.MethodName) prog_13_method_46_code (2 : Nat) (Option.none : Option Jvm.ClassFile.FieldType)) : Cond) ∈ lw_tbl := tb_5 (List.mem_of_getElem? (i := 90) rfl)
theorem w_5_91 : ((Jvm.Cond.methodLink "LaidQuarrelLaw" (68 : Nat) ({ cls := "LaidQuarrelModel", name := "on", desc := "(II)I" } : Jvm.MethodName)) : Cond) ∈ lw_tbl := tb_5 (List.mem_of_getElem? (i := 91) rfl)
theorem w_5_92 : ((Jvm.Cond.instanceMethod ({ cls := "LaidQuarrelModel", name := "on", desc := "(II)I" } : Jvm.MethodName)) : Cond) ∈ lw_tbl := tb_5 (List.mem_of_getElem? (i := 92) rfl)
theorem w_5_93 : ((Jvm.Cond.selects "LaidQuarrelModel" ({ cls := "LaidQuarrelModel", name := "on", desc := "(II)I" } : Jvm.MethodName) ({ cls := "LaidQuarrelModel", name := "on", desc := "(II)I" } : Jvm.MethodName)) : Cond) ∈ lw_tbl := tb_5 (List.mem_of_getElem? (i := 93) rfl)
theorem w_5_94 : ((Jvm.Cond.code ({ cls := "LaidQuarrelModel", name := "on", desc := "(II)I" } : Jvm.MethodName) prog_13_method_49_code (4 : Nat) (Option.some Jvm.ClassFile.FieldType.int)) : Cond) ∈ lw_tbl := tb_5 (List.mem_of_getElem? (i := 94) rfl)
theorem w_5_95 : ((Jvm.Cond.methodLink "LaidQuarrelModel" (191 : Nat) ({ cls := "LaidQuarrelModel", name := "keeps", desc := "()V" } : Jvm.MethodName)) : Cond) ∈ lw_tbl := tb_5 (List.mem_of_getElem? (i := 95) rfl)
theorem w_5_96 : ((Jvm.Cond.privateMethod ({ cls := "LaidQuarrelModel", name := "keeps", desc := "()V" } : Jvm.MethodName)) : Cond) ∈ lw_tbl := tb_5 (List.mem_of_getElem? (i := 96) rfl)
theorem w_5_97 : ((Jvm.Cond.instanceMethod ({ cls := "LaidQuarrelModel", name := "keeps", desc := "()V" } : Jvm.MethodName)) : Cond) ∈ lw_tbl := tb_5 (List.mem_of_getElem? (i := 97) rfl)
theorem w_5_98 : ((Jvm.Cond.code ({ cls := "LaidQuarrelModel", name := "keeps", desc := "()V" } : Jvm.MethodName) prog_13_method_11_code (2 : Nat) (Option.none : Option Jvm.ClassFile.FieldType)) : Cond) ∈ lw_tbl := tb_5 (List.mem_of_getElem? (i := 98) rfl)
theorem w_5_99 : ((Jvm.Cond.methodLink "LaidQuarrelModel" (194 : Nat) ({ cls := "LaidQuarrelModel", name := "goesBack", desc := "()V" } : Jvm.MethodName)) : Cond) ∈ lw_tbl := tb_5 (List.mem_of_getElem? (i := 99) rfl)
theorem w_5_100 : ((Jvm.Cond.privateMethod ({ cls := "LaidQuarrelModel", name := "goesBack", desc := "()V" } : Jvm.MethodName)) : Cond) ∈ lw_tbl := tb_5 (List.mem_of_getElem? (i := 100) rfl)
theorem w_5_101 : ((Jvm.Cond.instanceMethod ({ cls := "LaidQuarrelModel", name := "goesBack", desc := "()V" } : Jvm.MethodName)) : Cond) ∈ lw_tbl := tb_5 (List.mem_of_getElem? (i := 101) rfl)
theorem w_5_102 : ((Jvm.Cond.code ({ cls := "LaidQuarrelModel", name := "goesBack", desc := "()V" } : Jvm.MethodName) prog_13_method_12_code (2 : Nat) (Option.none : Option Jvm.ClassFile.FieldType)) : Cond) ∈ lw_tbl := tb_5 (List.mem_of_getElem? (i := 102) rfl)
theorem w_5_103 : ((Jvm.Cond.methodLink "LaidQuarrelLaw" (72 : Nat) ({ cls := "LaidQuarrelModel", name := "when", desc := "(II)I" } : Jvm.MethodName)) : Cond) ∈ lw_tbl := tb_5 (List.mem_of_getElem? (i := 103) rfl)
theorem w_5_104 : ((Jvm.Cond.instanceMethod ({ cls := "LaidQuarrelModel", name := "when", desc := "(II)I" } : Jvm.MethodName)) : Cond) ∈ lw_tbl := tb_5 (List.mem_of_getElem? (i := 104) rfl)
theorem w_5_105 : ((Jvm.Cond.selects "LaidQuarrelModel" ({ cls := "LaidQuarrelModel", name := "when", desc := "(II)I" } : Jvm.MethodName) ({ cls := "LaidQuarrelModel", name := "when", desc := "(II)I" } : Jvm.MethodName)) : Cond) ∈ lw_tbl := tb_5 (List.mem_of_getElem? (i := 105) rfl)
theorem w_5_106 : ((Jvm.Cond.code ({ cls := "LaidQuarrelModel", name := "when", desc := "(II)I" } : Jvm.MethodName) prog_13_method_50_code (7 : Nat) (Option.some Jvm.ClassFile.FieldType.int)) : Cond) ∈ lw_tbl := tb_5 (List.mem_of_getElem? (i := 106) rfl)
theorem w_5_107 : ((Jvm.Cond.constant "LaidQuarrelModel" (197 : Nat) (-1000000 : Int32)) : Cond) ∈ lw_tbl := tb_5 (List.mem_of_getElem? (i := 107) rfl)
theorem w_5_108 : ((Jvm.Cond.methodLink "LaidQuarrelLaw" (76 : Nat) ({ cls := "LaidQuarrelModel", name := "ripe", desc := "(I)I" } : Jvm.MethodName)) : Cond) ∈ lw_tbl := tb_5 (List.mem_of_getElem? (i := 108) rfl)
theorem w_5_109 : ((Jvm.Cond.instanceMethod ({ cls := "LaidQuarrelModel", name := "ripe", desc := "(I)I" } : Jvm.MethodName)) : Cond) ∈ lw_tbl := tb_5 (List.mem_of_getElem? (i := 109) rfl)
theorem w_5_110 : ((Jvm.Cond.selects "LaidQuarrelModel" ({ cls := "LaidQuarrelModel", name := "ripe", desc := "(I)I" } : Jvm.MethodName) ({ cls := "LaidQuarrelModel", name := "ripe", desc := "(I)I" } : Jvm.MethodName)) : Cond) ∈ lw_tbl := tb_5 (List.mem_of_getElem? (i := 110) rfl)
theorem w_5_111 : ((Jvm.Cond.code ({ cls := "LaidQuarrelModel", name := "ripe", desc := "(I)I" } : Jvm.MethodName) prog_13_method_51_code (4 : Nat) (Option.some Jvm.ClassFile.FieldType.int)) : Cond) ∈ lw_tbl := tb_5 (List.mem_of_getElem? (i := 111) rfl)
theorem w_5_112 : ((Jvm.Cond.methodLink "LaidQuarrelLaw" (80 : Nat) ({ cls := "LaidQuarrelModel", name := "lies", desc := "(I)I" } : Jvm.MethodName)) : Cond) ∈ lw_tbl := tb_5 (List.mem_of_getElem? (i := 112) rfl)
theorem w_5_113 : ((Jvm.Cond.instanceMethod ({ cls := "LaidQuarrelModel", name := "lies", desc := "(I)I" } : Jvm.MethodName)) : Cond) ∈ lw_tbl := tb_5 (List.mem_of_getElem? (i := 113) rfl)
theorem w_5_114 : ((Jvm.Cond.selects "LaidQuarrelModel" ({ cls := "LaidQuarrelModel", name := "lies", desc := "(I)I" } : Jvm.MethodName) ({ cls := "LaidQuarrelModel", name := "lies", desc := "(I)I" } : Jvm.MethodName)) : Cond) ∈ lw_tbl := tb_5 (List.mem_of_getElem? (i := 114) rfl)
theorem w_5_115 : ((Jvm.Cond.code ({ cls := "LaidQuarrelModel", name := "lies", desc := "(I)I" } : Jvm.MethodName) prog_13_method_52_code (7 : Nat) (Option.some Jvm.ClassFile.FieldType.int)) : Cond) ∈ lw_tbl := tb_5 (List.mem_of_getElem? (i := 115) rfl)
theorem w_5_116 : ((Jvm.Cond.methodLink "LaidQuarrelLaw" (84 : Nat) ({ cls := "LaidQuarrelModel", name := "choose", desc := "(II)I" } : Jvm.MethodName)) : Cond) ∈ lw_tbl := tb_5 (List.mem_of_getElem? (i := 116) rfl)
theorem w_5_117 : ((Jvm.Cond.instanceMethod ({ cls := "LaidQuarrelModel", name := "choose", desc := "(II)I" } : Jvm.MethodName)) : Cond) ∈ lw_tbl := tb_5 (List.mem_of_getElem? (i := 117) rfl)
theorem w_5_118 : ((Jvm.Cond.selects "LaidQuarrelModel" ({ cls := "LaidQuarrelModel", name := "choose", desc := "(II)I" } : Jvm.MethodName) ({ cls := "LaidQuarrelModel", name := "choose", desc := "(II)I" } : Jvm.MethodName)) : Cond) ∈ lw_tbl := tb_5 (List.mem_of_getElem? (i := 118) rfl)
theorem w_5_119 : ((Jvm.Cond.code ({ cls := "LaidQuarrelModel", name := "choose", desc := "(II)I" } : Jvm.MethodName) prog_13_method_56_code (7 : Nat) (Option.some Jvm.ClassFile.FieldType.int)) : Cond) ∈ lw_tbl := tb_5 (List.mem_of_getElem? (i := 119) rfl)
theorem w_5_120 : ((Jvm.Cond.methodLink "LaidQuarrelModel" (198 : Nat) ({ cls := "LaidQuarrelModel", name := "looksForSayings", desc := "()V" } : Jvm.MethodName)) : Cond) ∈ lw_tbl := tb_5 (List.mem_of_getElem? (i := 120) rfl)
theorem w_5_121 : ((Jvm.Cond.privateMethod ({ cls := "LaidQuarrelModel", name := "looksForSayings", desc := "()V" } : Jvm.MethodName)) : Cond) ∈ lw_tbl := tb_5 (List.mem_of_getElem? (i := 121) rfl)
theorem w_5_122 : ((Jvm.Cond.instanceMethod ({ cls := "LaidQuarrelModel", name := "looksForSayings", desc := "()V" } : Jvm.MethodName)) : Cond) ∈ lw_tbl := tb_5 (List.mem_of_getElem? (i := 122) rfl)
theorem w_5_123 : ((Jvm.Cond.code ({ cls := "LaidQuarrelModel", name := "looksForSayings", desc := "()V" } : Jvm.MethodName) prog_13_method_53_code (2 : Nat) (Option.none : Option Jvm.ClassFile.FieldType)) : Cond) ∈ lw_tbl := tb_5 (List.mem_of_getElem? (i := 123) rfl)
theorem w_5_124 : ((Jvm.Cond.methodLink "LaidQuarrelModel" (201 : Nat) ({ cls := "LaidQuarrelModel", name := "sumOf", desc := "(I)I" } : Jvm.MethodName)) : Cond) ∈ lw_tbl := tb_5 (List.mem_of_getElem? (i := 124) rfl)
theorem w_5_125 : ((Jvm.Cond.privateMethod ({ cls := "LaidQuarrelModel", name := "sumOf", desc := "(I)I" } : Jvm.MethodName)) : Cond) ∈ lw_tbl := tb_5 (List.mem_of_getElem? (i := 125) rfl)
theorem w_5_126 : ((Jvm.Cond.instanceMethod ({ cls := "LaidQuarrelModel", name := "sumOf", desc := "(I)I" } : Jvm.MethodName)) : Cond) ∈ lw_tbl := tb_5 (List.mem_of_getElem? (i := 126) rfl)
theorem w_5_127 : ((Jvm.Cond.code ({ cls := "LaidQuarrelModel", name := "sumOf", desc := "(I)I" } : Jvm.MethodName) prog_13_method_55_code (4 : Nat) (Option.some Jvm.ClassFile.FieldType.int)) : Cond) ∈ lw_tbl := tb_5 (List.mem_of_getElem? (i := 127) rfl)
theorem w_5_128 : ((Jvm.Cond.methodLink "LaidQuarrelModel" (204 : Nat) ({ cls := "LaidQuarrelModel", name := "countOf", desc := "(I)I" } : Jvm.MethodName)) : Cond) ∈ lw_tbl := tb_5 (List.mem_of_getElem? (i := 128) rfl)
theorem w_5_129 : ((Jvm.Cond.static ({ cls := "LaidQuarrelModel", name := "countOf", desc := "(I)I" } : Jvm.MethodName)) : Cond) ∈ lw_tbl := tb_5 (List.mem_of_getElem? (i := 129) rfl)
theorem w_5_130 : ((Jvm.Cond.code ({ cls := "LaidQuarrelModel", name := "countOf", desc := "(I)I" } : Jvm.MethodName) prog_13_method_54_code (3 : Nat) (Option.some Jvm.ClassFile.FieldType.int)) : Cond) ∈ lw_tbl := tb_5 (List.mem_of_getElem? (i := 130) rfl)
theorem w_5_131 : ((Jvm.Cond.methodLink "LaidQuarrelLaw" (88 : Nat) ({ cls := "LaidQuarrelModel", name := "line", desc := "(II)I" } : Jvm.MethodName)) : Cond) ∈ lw_tbl := tb_5 (List.mem_of_getElem? (i := 131) rfl)
theorem w_5_132 : ((Jvm.Cond.instanceMethod ({ cls := "LaidQuarrelModel", name := "line", desc := "(II)I" } : Jvm.MethodName)) : Cond) ∈ lw_tbl := tb_5 (List.mem_of_getElem? (i := 132) rfl)
theorem w_5_133 : ((Jvm.Cond.selects "LaidQuarrelModel" ({ cls := "LaidQuarrelModel", name := "line", desc := "(II)I" } : Jvm.MethodName) ({ cls := "LaidQuarrelModel", name := "line", desc := "(II)I" } : Jvm.MethodName)) : Cond) ∈ lw_tbl := tb_5 (List.mem_of_getElem? (i := 133) rfl)
theorem w_5_134 : ((Jvm.Cond.code ({ cls := "LaidQuarrelModel", name := "line", desc := "(II)I" } : Jvm.MethodName) prog_13_method_58_code (3 : Nat) (Option.some Jvm.ClassFile.FieldType.int)) : Cond) ∈ lw_tbl := tb_5 (List.mem_of_getElem? (i := 134) rfl)
theorem w_5_135 : ((Jvm.Cond.methodLink "LaidQuarrelModel" (210 : Nat) ({ cls := "LaidQuarrelModel", name := "ordersFrom", desc := "(III)V" } : Jvm.MethodName)) : Cond) ∈ lw_tbl := tb_5 (List.mem_of_getElem? (i := 135) rfl)
theorem w_5_136 : ((Jvm.Cond.privateMethod ({ cls := "LaidQuarrelModel", name := "ordersFrom", desc := "(III)V" } : Jvm.MethodName)) : Cond) ∈ lw_tbl := tb_5 (List.mem_of_getElem? (i := 136) rfl)
theorem w_5_137 : ((Jvm.Cond.instanceMethod ({ cls := "LaidQuarrelModel", name := "ordersFrom", desc := "(III)V" } : Jvm.MethodName)) : Cond) ∈ lw_tbl := tb_5 (List.mem_of_getElem? (i := 137) rfl)
theorem w_5_138 : ((Jvm.Cond.code ({ cls := "LaidQuarrelModel", name := "ordersFrom", desc := "(III)V" } : Jvm.MethodName) prog_13_method_57_code (5 : Nat) (Option.none : Option Jvm.ClassFile.FieldType)) : Cond) ∈ lw_tbl := tb_5 (List.mem_of_getElem? (i := 138) rfl)
theorem w_5_139 : ((Jvm.Cond.methodLink "LaidQuarrelLaw" (92 : Nat) ({ cls := "LaidQuarrelModel", name := "pair", desc := "()I" } : Jvm.MethodName)) : Cond) ∈ lw_tbl := tb_5 (List.mem_of_getElem? (i := 139) rfl)
theorem w_5_140 : ((Jvm.Cond.instanceMethod ({ cls := "LaidQuarrelModel", name := "pair", desc := "()I" } : Jvm.MethodName)) : Cond) ∈ lw_tbl := tb_5 (List.mem_of_getElem? (i := 140) rfl)
theorem w_5_141 : ((Jvm.Cond.selects "LaidQuarrelModel" ({ cls := "LaidQuarrelModel", name := "pair", desc := "()I" } : Jvm.MethodName) ({ cls := "LaidQuarrelModel", name := "pair", desc := "()I" } : Jvm.MethodName)) : Cond) ∈ lw_tbl := tb_5 (List.mem_of_getElem? (i := 141) rfl)
theorem w_5_142 : ((Jvm.Cond.code ({ cls := "LaidQuarrelModel", name := "pair", desc := "()I" } : Jvm.MethodName) prog_13_method_59_code (7 : Nat) (Option.some Jvm.ClassFile.FieldType.int)) : Cond) ∈ lw_tbl := tb_5 (List.mem_of_getElem? (i := 142) rfl)
theorem w_5_143 : ((Jvm.Cond.methodLink "LaidQuarrelLaw" (96 : Nat) ({ cls := "LaidQuarrelModel", name := "match", desc := "(I)I" } : Jvm.MethodName)) : Cond) ∈ lw_tbl := tb_5 (List.mem_of_getElem? (i := 143) rfl)
theorem w_5_144 : ((Jvm.Cond.instanceMethod ({ cls := "LaidQuarrelModel", name := "match", desc := "(I)I" } : Jvm.MethodName)) : Cond) ∈ lw_tbl := tb_5 (List.mem_of_getElem? (i := 144) rfl)
theorem w_5_145 : ((Jvm.Cond.selects "LaidQuarrelModel" ({ cls := "LaidQuarrelModel", name := "match", desc := "(I)I" } : Jvm.MethodName) ({ cls := "LaidQuarrelModel", name := "match", desc := "(I)I" } : Jvm.MethodName)) : Cond) ∈ lw_tbl := tb_5 (List.mem_of_getElem? (i := 145) rfl)
theorem w_5_146 : ((Jvm.Cond.code ({ cls := "LaidQuarrelModel", name := "match", desc := "(I)I" } : Jvm.MethodName) prog_13_method_61_code (3 : Nat) (Option.some Jvm.ClassFile.FieldType.int)) : Cond) ∈ lw_tbl := tb_5 (List.mem_of_getElem? (i := 146) rfl)
theorem w_5_147 : ((Jvm.Cond.methodLink "LaidQuarrelModel" (217 : Nat) ({ cls := "LaidQuarrelModel", name := "pairsFrom", desc := "(II)V" } : Jvm.MethodName)) : Cond) ∈ lw_tbl := tb_5 (List.mem_of_getElem? (i := 147) rfl)
theorem w_5_148 : ((Jvm.Cond.privateMethod ({ cls := "LaidQuarrelModel", name := "pairsFrom", desc := "(II)V" } : Jvm.MethodName)) : Cond) ∈ lw_tbl := tb_5 (List.mem_of_getElem? (i := 148) rfl)
theorem w_5_149 : ((Jvm.Cond.instanceMethod ({ cls := "LaidQuarrelModel", name := "pairsFrom", desc := "(II)V" } : Jvm.MethodName)) : Cond) ∈ lw_tbl := tb_5 (List.mem_of_getElem? (i := 149) rfl)
theorem w_5_150 : ((Jvm.Cond.code ({ cls := "LaidQuarrelModel", name := "pairsFrom", desc := "(II)V" } : Jvm.MethodName) prog_13_method_60_code (4 : Nat) (Option.none : Option Jvm.ClassFile.FieldType)) : Cond) ∈ lw_tbl := tb_5 (List.mem_of_getElem? (i := 150) rfl)
theorem w_5_151 : ((Jvm.Cond.methodLink "LaidQuarrelLaw" (100 : Nat) ({ cls := "LaidQuarrelModel", name := "words", desc := "(III)I" } : Jvm.MethodName)) : Cond) ∈ lw_tbl := tb_5 (List.mem_of_getElem? (i := 151) rfl)
theorem w_5_152 : ((Jvm.Cond.instanceMethod ({ cls := "LaidQuarrelModel", name := "words", desc := "(III)I" } : Jvm.MethodName)) : Cond) ∈ lw_tbl := tb_5 (List.mem_of_getElem? (i := 152) rfl)
theorem w_5_153 : ((Jvm.Cond.selects "LaidQuarrelModel" ({ cls := "LaidQuarrelModel", name := "words", desc := "(III)I" } : Jvm.MethodName) ({ cls := "LaidQuarrelModel", name := "words", desc := "(III)I" } : Jvm.MethodName)) : Cond) ∈ lw_tbl := tb_5 (List.mem_of_getElem? (i := 153) rfl)
theorem w_5_154 : ((Jvm.Cond.code ({ cls := "LaidQuarrelModel", name := "words", desc := "(III)I" } : Jvm.MethodName) prog_13_method_62_code (9 : Nat) (Option.some Jvm.ClassFile.FieldType.int)) : Cond) ∈ lw_tbl := tb_5 (List.mem_of_getElem? (i := 154) rfl)
theorem w_5_155 : ((Jvm.Cond.methodLink "LaidQuarrelModel" (220 : Nat) ({ cls := "LaidQuarrelModel", name := "isSaying", desc := "(I)Z" } : Jvm.MethodName)) : Cond) ∈ lw_tbl := tb_5 (List.mem_of_getElem? (i := 155) rfl)
theorem w_5_156 : ((Jvm.Cond.static ({ cls := "LaidQuarrelModel", name := "isSaying", desc := "(I)Z" } : Jvm.MethodName)) : Cond) ∈ lw_tbl := tb_5 (List.mem_of_getElem? (i := 156) rfl)
theorem w_5_157 : ((Jvm.Cond.code ({ cls := "LaidQuarrelModel", name := "isSaying", desc := "(I)Z" } : Jvm.MethodName) prog_13_method_10_code (1 : Nat) (Option.some Jvm.ClassFile.FieldType.boolean)) : Cond) ∈ lw_tbl := tb_5 (List.mem_of_getElem? (i := 157) rfl)
theorem w_5_158 : ((Jvm.Cond.methodLink "LaidQuarrelLaw" (104 : Nat) ({ cls := "LaidQuarrelModel", name := "see", desc := "(III)I" } : Jvm.MethodName)) : Cond) ∈ lw_tbl := tb_5 (List.mem_of_getElem? (i := 158) rfl)
theorem w_5_159 : ((Jvm.Cond.instanceMethod ({ cls := "LaidQuarrelModel", name := "see", desc := "(III)I" } : Jvm.MethodName)) : Cond) ∈ lw_tbl := tb_5 (List.mem_of_getElem? (i := 159) rfl)
theorem w_5_160 : ((Jvm.Cond.selects "LaidQuarrelModel" ({ cls := "LaidQuarrelModel", name := "see", desc := "(III)I" } : Jvm.MethodName) ({ cls := "LaidQuarrelModel", name := "see", desc := "(III)I" } : Jvm.MethodName)) : Cond) ∈ lw_tbl := tb_5 (List.mem_of_getElem? (i := 160) rfl)
theorem w_5_161 : ((Jvm.Cond.code ({ cls := "LaidQuarrelModel", name := "see", desc := "(III)I" } : Jvm.MethodName) prog_13_method_63_code (4 : Nat) (Option.some Jvm.ClassFile.FieldType.int)) : Cond) ∈ lw_tbl := tb_5 (List.mem_of_getElem? (i := 161) rfl)
theorem w_5_162 : ((Jvm.Cond.methodLink "LaidQuarrelLaw" (108 : Nat) ({ cls := "LaidQuarrelModel", name := "old", desc := "(II)I" } : Jvm.MethodName)) : Cond) ∈ lw_tbl := tb_5 (List.mem_of_getElem? (i := 162) rfl)
theorem w_5_163 : ((Jvm.Cond.instanceMethod ({ cls := "LaidQuarrelModel", name := "old", desc := "(II)I" } : Jvm.MethodName)) : Cond) ∈ lw_tbl := tb_5 (List.mem_of_getElem? (i := 163) rfl)
theorem w_5_164 : ((Jvm.Cond.selects "LaidQuarrelModel" ({ cls := "LaidQuarrelModel", name := "old", desc := "(II)I" } : Jvm.MethodName) ({ cls := "LaidQuarrelModel", name := "old", desc := "(II)I" } : Jvm.MethodName)) : Cond) ∈ lw_tbl := tb_5 (List.mem_of_getElem? (i := 164) rfl)
theorem w_5_165 : ((Jvm.Cond.code ({ cls := "LaidQuarrelModel", name := "old", desc := "(II)I" } : Jvm.MethodName) prog_13_method_66_code (7 : Nat) (Option.some Jvm.ClassFile.FieldType.int)) : Cond) ∈ lw_tbl := tb_5 (List.mem_of_getElem? (i := 165) rfl)
theorem w_5_166 : ((Jvm.Cond.methodLink "LaidQuarrelModel" (226 : Nat) ({ cls := "LaidQuarrelModel", name := "areAsSeen", desc := "()Z" } : Jvm.MethodName)) : Cond) ∈ lw_tbl := tb_5 (List.mem_of_getElem? (i := 166) rfl)
theorem w_5_167 : ((Jvm.Cond.privateMethod ({ cls := "LaidQuarrelModel", name := "areAsSeen", desc := "()Z" } : Jvm.MethodName)) : Cond) ∈ lw_tbl := tb_5 (List.mem_of_getElem? (i := 167) rfl)
theorem w_5_168 : ((Jvm.Cond.instanceMethod ({ cls := "LaidQuarrelModel", name := "areAsSeen", desc := "()Z" } : Jvm.MethodName)) : Cond) ∈ lw_tbl := tb_5 (List.mem_of_getElem? (i := 168) rfl)
theorem w_5_169 : ((Jvm.Cond.code ({ cls := "LaidQuarrelModel", name := "areAsSeen", desc := "()Z" } : Jvm.MethodName) prog_13_method_65_code (3 : Nat) (Option.some Jvm.ClassFile.FieldType.boolean)) : Cond) ∈ lw_tbl := tb_5 (List.mem_of_getElem? (i := 169) rfl)
theorem w_5_170 : ((Jvm.Cond.methodLink "LaidQuarrelModel" (223 : Nat) ({ cls := "LaidQuarrelModel", name := "isAsSeen", desc := "(I)Z" } : Jvm.MethodName)) : Cond) ∈ lw_tbl := tb_5 (List.mem_of_getElem? (i := 170) rfl)
theorem w_5_171 : ((Jvm.Cond.privateMethod ({ cls := "LaidQuarrelModel", name := "isAsSeen", desc := "(I)Z" } : Jvm.MethodName)) : Cond) ∈ lw_tbl := tb_5 (List.mem_of_getElem? (i := 171) rfl)
theorem w_5_172 : ((Jvm.Cond.instanceMethod ({ cls := "LaidQuarrelModel", name := "isAsSeen", desc := "(I)Z" } : Jvm.MethodName)) : Cond) ∈ lw_tbl := tb_5 (List.mem_of_getElem? (i := 172) rfl)
theorem w_5_173 : ((Jvm.Cond.code ({ cls := "LaidQuarrelModel", name := "isAsSeen", desc := "(I)Z" } : Jvm.MethodName) prog_13_method_64_code (4 : Nat) (Option.some Jvm.ClassFile.FieldType.boolean)) : Cond) ∈ lw_tbl := tb_5 (List.mem_of_getElem? (i := 173) rfl)
theorem w_5_174 : ((Jvm.Cond.methodLink "LaidQuarrelLaw" (112 : Nat) ({ cls := "LaidQuarrelModel", name := "firm", desc := "(II)I" } : Jvm.MethodName)) : Cond) ∈ lw_tbl := tb_5 (List.mem_of_getElem? (i := 174) rfl)
theorem w_5_175 : ((Jvm.Cond.instanceMethod ({ cls := "LaidQuarrelModel", name := "firm", desc := "(II)I" } : Jvm.MethodName)) : Cond) ∈ lw_tbl := tb_5 (List.mem_of_getElem? (i := 175) rfl)
theorem w_5_176 : ((Jvm.Cond.selects "LaidQuarrelModel" ({ cls := "LaidQuarrelModel", name := "firm", desc := "(II)I" } : Jvm.MethodName) ({ cls := "LaidQuarrelModel", name := "firm", desc := "(II)I" } : Jvm.MethodName)) : Cond) ∈ lw_tbl := tb_5 (List.mem_of_getElem? (i := 176) rfl)
theorem w_5_177 : ((Jvm.Cond.code ({ cls := "LaidQuarrelModel", name := "firm", desc := "(II)I" } : Jvm.MethodName) prog_13_method_67_code (8 : Nat) (Option.some Jvm.ClassFile.FieldType.int)) : Cond) ∈ lw_tbl := tb_5 (List.mem_of_getElem? (i := 177) rfl)
theorem w_5_178 : ((Jvm.Cond.methodLink "LaidQuarrelLaw" (116 : Nat) ({ cls := "LaidQuarrelModel", name := "whose", desc := "(II)I" } : Jvm.MethodName)) : Cond) ∈ lw_tbl := tb_5 (List.mem_of_getElem? (i := 178) rfl)
theorem w_5_179 : ((Jvm.Cond.instanceMethod ({ cls := "LaidQuarrelModel", name := "whose", desc := "(II)I" } : Jvm.MethodName)) : Cond) ∈ lw_tbl := tb_5 (List.mem_of_getElem? (i := 179) rfl)
theorem w_5_180 : ((Jvm.Cond.selects "LaidQuarrelModel" ({ cls := "LaidQuarrelModel", name := "whose", desc := "(II)I" } : Jvm.MethodName) ({ cls := "LaidQuarrelModel", name := "whose", desc := "(II)I" } : Jvm.MethodName)) : Cond) ∈ lw_tbl := tb_5 (List.mem_of_getElem? (i := 180) rfl)
theorem w_5_181 : ((Jvm.Cond.code ({ cls := "LaidQuarrelModel", name := "whose", desc := "(II)I" } : Jvm.MethodName) prog_13_method_68_code (5 : Nat) (Option.some Jvm.ClassFile.FieldType.int)) : Cond) ∈ lw_tbl := tb_5 (List.mem_of_getElem? (i := 181) rfl)
theorem w_5_182 : ((Jvm.Cond.methodLink "LaidQuarrelLaw" (121 : Nat) ({ cls := "LaidQuarrelModel", name := "odds", desc := "(III)J" } : Jvm.MethodName)) : Cond) ∈ lw_tbl := tb_5 (List.mem_of_getElem? (i := 182) rfl)
theorem w_5_183 : ((Jvm.Cond.instanceMethod ({ cls := "LaidQuarrelModel", name := "odds", desc := "(III)J" } : Jvm.MethodName)) : Cond) ∈ lw_tbl := tb_5 (List.mem_of_getElem? (i := 183) rfl)
theorem w_5_184 : ((Jvm.Cond.selects "LaidQuarrelModel" ({ cls := "LaidQuarrelModel", name := "odds", desc := "(III)J" } : Jvm.MethodName) ({ cls := "LaidQuarrelModel", name := "odds", desc := "(III)J" } : Jvm.MethodName)) : Cond) ∈ lw_tbl := tb_5 (List.mem_of_getElem? (i := 184) rfl)
theorem w_5_185 : ((Jvm.Cond.code ({ cls := "LaidQuarrelModel", name := "odds", desc := "(III)J" } : Jvm.MethodName) prog_13_method_70_code (7 : Nat) (Option.some Jvm.ClassFile.FieldType.long)) : Cond) ∈ lw_tbl := tb_5 (List.mem_of_getElem? (i := 185) rfl)
theorem w_5_186 : ((Jvm.Cond.constantLong "LaidQuarrelModel" (230 : Nat) (-9223372036854775808 : Int64)) : Cond) ∈ lw_tbl := tb_5 (List.mem_of_getElem? (i := 186) rfl)
theorem w_5_187 : ((Jvm.Cond.methodLink "LaidQuarrelModel" (232 : Nat) ({ cls := "LaidQuarrelModel", name := "lowest", desc := "(JJI)J" } : Jvm.MethodName)) : Cond) ∈ lw_tbl := tb_5 (List.mem_of_getElem? (i := 187) rfl)
theorem w_5_188 : ((Jvm.Cond.static ({ cls := "LaidQuarrelModel", name := "lowest", desc := "(JJI)J" } : Jvm.MethodName)) : Cond) ∈ lw_tbl := tb_5 (List.mem_of_getElem? (i := 188) rfl)
theorem w_5_189 : ((Jvm.Cond.code ({ cls := "LaidQuarrelModel", name := "lowest", desc := "(JJI)J" } : Jvm.MethodName) prog_13_method_69_code (11 : Nat) (Option.some Jvm.ClassFile.FieldType.long)) : Cond) ∈ lw_tbl := tb_5 (List.mem_of_getElem? (i := 189) rfl)
theorem w_5_190 : ((Jvm.Cond.methodLink "LaidQuarrelLaw" (126 : Nat) ({ cls := "LaidQuarrelModel", name := "mean", desc := "(II)J" } : Jvm.MethodName)) : Cond) ∈ lw_tbl := tb_5 (List.mem_of_getElem? (i := 190) rfl)
theorem w_5_191 : ((Jvm.Cond.instanceMethod ({ cls := "LaidQuarrelModel", name := "mean", desc := "(II)J" } : Jvm.MethodName)) : Cond) ∈ lw_tbl := tb_5 (List.mem_of_getElem? (i := 191) rfl)
theorem w_5_192 : ((Jvm.Cond.selects "LaidQuarrelModel" ({ cls := "LaidQuarrelModel", name := "mean", desc := "(II)J" } : Jvm.MethodName) ({ cls := "LaidQuarrelModel", name := "mean", desc := "(II)J" } : Jvm.MethodName)) : Cond) ∈ lw_tbl := tb_5 (List.mem_of_getElem? (i := 192) rfl)
theorem w_5_193 : ((Jvm.Cond.code ({ cls := "LaidQuarrelModel", name := "mean", desc := "(II)J" } : Jvm.MethodName) prog_13_method_71_code (4 : Nat) (Option.some Jvm.ClassFile.FieldType.long)) : Cond) ∈ lw_tbl := tb_5 (List.mem_of_getElem? (i := 193) rfl)
theorem w_5_194 : ((Jvm.Cond.methodLink "LaidQuarrelLaw" (130 : Nat) ({ cls := "LaidQuarrelModel", name := "evening", desc := "(III)I" } : Jvm.MethodName)) : Cond) ∈ lw_tbl := tb_5 (List.mem_of_getElem? (i := 194) rfl)
theorem w_5_195 : ((Jvm.Cond.instanceMethod ({ cls := "LaidQuarrelModel", name := "evening", desc := "(III)I" } : Jvm.MethodName)) : Cond) ∈ lw_tbl := tb_5 (List.mem_of_getElem? (i := 195) rfl)
theorem w_5_196 : ((Jvm.Cond.selects "LaidQuarrelModel" ({ cls := "LaidQuarrelModel", name := "evening", desc := "(III)I" } : Jvm.MethodName) ({ cls := "LaidQuarrelModel", name := "evening", desc := "(III)I" } : Jvm.MethodName)) : Cond) ∈ lw_tbl := tb_5 (List.mem_of_getElem? (i := 196) rfl)
theorem w_5_197 : ((Jvm.Cond.code ({ cls := "LaidQuarrelModel", name := "evening", desc := "(III)I" } : Jvm.MethodName) prog_13_method_72_code (4 : Nat) (Option.some Jvm.ClassFile.FieldType.int)) : Cond) ∈ lw_tbl := tb_5 (List.mem_of_getElem? (i := 197) rfl)
theorem w_5_198 : ((Jvm.Cond.methodLink "LaidQuarrelLaw" (134 : Nat) ({ cls := "LaidQuarrelModel", name := "done", desc := "(I)I" } : Jvm.MethodName)) : Cond) ∈ lw_tbl := tb_5 (List.mem_of_getElem? (i := 198) rfl)
theorem w_5_199 : ((Jvm.Cond.instanceMethod ({ cls := "LaidQuarrelModel", name := "done", desc := "(I)I" } : Jvm.MethodName)) : Cond) ∈ lw_tbl := tb_5 (List.mem_of_getElem? (i := 199) rfl)
theorem w_5_200 : ((Jvm.Cond.selects "LaidQuarrelModel" ({ cls := "LaidQuarrelModel", name := "done", desc := "(I)I" } : Jvm.MethodName) ({ cls := "LaidQuarrelModel", name := "done", desc := "(I)I" } : Jvm.MethodName)) : Cond) ∈ lw_tbl := tb_5 (List.mem_of_getElem? (i := 200) rfl)
theorem w_5_201 : ((Jvm.Cond.code ({ cls := "LaidQuarrelModel", name := "done", desc := "(I)I" } : Jvm.MethodName) prog_13_method_74_code (3 : Nat) (Option.some Jvm.ClassFile.FieldType.int)) : Cond) ∈ lw_tbl := tb_5 (List.mem_of_getElem? (i := 201) rfl)
theorem w_5_202 : ((Jvm.Cond.methodLink "LaidQuarrelModel" (236 : Nat) ({ cls := "LaidQuarrelModel", name := "does", desc := "(III)V" } : Jvm.MethodName)) : Cond) ∈ lw_tbl := tb_5 (List.mem_of_getElem? (i := 202) rfl)
theorem w_5_203 : ((Jvm.Cond.privateMethod ({ cls := "LaidQuarrelModel", name := "does", desc := "(III)V" } : Jvm.MethodName)) : Cond) ∈ lw_tbl := tb_5 (List.mem_of_getElem? (i := 203) rfl)
theorem w_5_204 : ((Jvm.Cond.instanceMethod ({ cls := "LaidQuarrelModel", name := "does", desc := "(III)V" } : Jvm.MethodName)) : Cond) ∈ lw_tbl := tb_5 (List.mem_of_getElem? (i := 204) rfl)
theorem w_5_205 : ((Jvm.Cond.code ({ cls := "LaidQuarrelModel", name := "does", desc := "(III)V" } : Jvm.MethodName) prog_13_method_73_code (4 : Nat) (Option.none : Option Jvm.ClassFile.FieldType)) : Cond) ∈ lw_tbl := tb_5 (List.mem_of_getElem? (i := 205) rfl)
theorem w_5_206 : ((Jvm.Cond.methodLink "LaidQuarrelLaw" (138 : Nat) ({ cls := "LaidQuarrelModel", name := "book", desc := "(II)I" } : Jvm.MethodName)) : Cond) ∈ lw_tbl := tb_5 (List.mem_of_getElem? (i := 206) rfl)
theorem w_5_207 : ((Jvm.Cond.instanceMethod ({ cls := "LaidQuarrelModel", name := "book", desc := "(II)I" } : Jvm.MethodName)) : Cond) ∈ lw_tbl := tb_5 (List.mem_of_getElem? (i := 207) rfl)
theorem w_5_208 : ((Jvm.Cond.selects "LaidQuarrelModel" ({ cls := "LaidQuarrelModel", name := "book", desc := "(II)I" } : Jvm.MethodName) ({ cls := "LaidQuarrelModel", name := "book", desc := "(II)I" } : Jvm.MethodName)) : Cond) ∈ lw_tbl := tb_5 (List.mem_of_getElem? (i := 208) rfl)
theorem w_5_209 : ((Jvm.Cond.code ({ cls := "LaidQuarrelModel", name := "book", desc := "(II)I" } : Jvm.MethodName) prog_13_method_75_code (3 : Nat) (Option.some Jvm.ClassFile.FieldType.int)) : Cond) ∈ lw_tbl := tb_5 (List.mem_of_getElem? (i := 209) rfl)
theorem w_5_210 : ((Jvm.Cond.methodLink "LaidQuarrelLaw" (142 : Nat) ({ cls := "LaidQuarrelModel", name := "looked", desc := "()I" } : Jvm.MethodName)) : Cond) ∈ lw_tbl := tb_5 (List.mem_of_getElem? (i := 210) rfl)
theorem w_5_211 : ((Jvm.Cond.instanceMethod ({ cls := "LaidQuarrelModel", name := "looked", desc := "()I" } : Jvm.MethodName)) : Cond) ∈ lw_tbl := tb_5 (List.mem_of_getElem? (i := 211) rfl)
theorem w_5_212 : ((Jvm.Cond.selects "LaidQuarrelModel" ({ cls := "LaidQuarrelModel", name := "looked", desc := "()I" } : Jvm.MethodName) ({ cls := "LaidQuarrelModel", name := "looked", desc := "()I" } : Jvm.MethodName)) : Cond) ∈ lw_tbl := tb_5 (List.mem_of_getElem? (i := 212) rfl)
theorem w_5_213 : ((Jvm.Cond.code ({ cls := "LaidQuarrelModel", name := "looked", desc := "()I" } : Jvm.MethodName) prog_13_method_76_code (2 : Nat) (Option.some Jvm.ClassFile.FieldType.int)) : Cond) ∈ lw_tbl := tb_5 (List.mem_of_getElem? (i := 213) rfl)
theorem w_5_214 : ((Jvm.Cond.methodLink "LaidQuarrelLaw" (146 : Nat) ({ cls := "LaidQuarrelModel", name := "act", desc := "(III)I" } : Jvm.MethodName)) : Cond) ∈ lw_tbl := tb_5 (List.mem_of_getElem? (i := 214) rfl)
theorem w_5_215 : ((Jvm.Cond.instanceMethod ({ cls := "LaidQuarrelModel", name := "act", desc := "(III)I" } : Jvm.MethodName)) : Cond) ∈ lw_tbl := tb_5 (List.mem_of_getElem? (i := 215) rfl)
theorem w_5_216 : ((Jvm.Cond.selects "LaidQuarrelModel" ({ cls := "LaidQuarrelModel", name := "act", desc := "(III)I" } : Jvm.MethodName) ({ cls := "LaidQuarrelModel", name := "act", desc := "(III)I" } : Jvm.MethodName)) : Cond) ∈ lw_tbl := tb_5 (List.mem_of_getElem? (i := 216) rfl)
theorem w_5_217 : ((Jvm.Cond.code ({ cls := "LaidQuarrelModel", name := "act", desc := "(III)I" } : Jvm.MethodName) prog_13_method_85_code (4 : Nat) (Option.some Jvm.ClassFile.FieldType.int)) : Cond) ∈ lw_tbl := tb_5 (List.mem_of_getElem? (i := 217) rfl)
theorem w_5_218 : ((Jvm.Cond.methodLink "LaidQuarrelModel" (258 : Nat) ({ cls := "LaidQuarrelModel", name := "uttersActs", desc := "(I)I" } : Jvm.MethodName)) : Cond) ∈ lw_tbl := tb_5 (List.mem_of_getElem? (i := 218) rfl)
theorem w_5_219 : ((Jvm.Cond.privateMethod ({ cls := "LaidQuarrelModel", name := "uttersActs", desc := "(I)I" } : Jvm.MethodName)) : Cond) ∈ lw_tbl := tb_5 (List.mem_of_getElem? (i := 219) rfl)
theorem w_5_220 : ((Jvm.Cond.instanceMethod ({ cls := "LaidQuarrelModel", name := "uttersActs", desc := "(I)I" } : Jvm.MethodName)) : Cond) ∈ lw_tbl := tb_5 (List.mem_of_getElem? (i := 220) rfl)
theorem w_5_221 : ((Jvm.Cond.code ({ cls := "LaidQuarrelModel", name := "uttersActs", desc := "(I)I" } : Jvm.MethodName) prog_13_method_80_code (2 : Nat) (Option.some Jvm.ClassFile.FieldType.int)) : Cond) ∈ lw_tbl := tb_5 (List.mem_of_getElem? (i := 221) rfl)
theorem w_5_222 : ((Jvm.Cond.methodLink "LaidQuarrelModel" (251 : Nat) ({ cls := "LaidQuarrelModel", name := "isUnder", desc := "(II)Z" } : Jvm.MethodName)) : Cond) ∈ lw_tbl := tb_5 (List.mem_of_getElem? (i := 222) rfl)
theorem w_5_223 : ((Jvm.Cond.static ({ cls := "LaidQuarrelModel", name := "isUnder", desc := "(II)Z" } : Jvm.MethodName)) : Cond) ∈ lw_tbl := tb_5 (List.mem_of_getElem? (i := 223) rfl)
theorem w_5_224 : ((Jvm.Cond.code ({ cls := "LaidQuarrelModel", name := "isUnder", desc := "(II)Z" } : Jvm.MethodName) prog_13_method_78_code (2 : Nat) (Option.some Jvm.ClassFile.FieldType.boolean)) : Cond) ∈ lw_tbl := tb_5 (List.mem_of_getElem? (i := 224) rfl)
theorem w_5_225 : ((Jvm.Cond.methodLink "LaidQuarrelModel" (242 : Nat) ({ cls := "LaidQuarrelModel", name := "ranBody", desc := "(I)V" } : Jvm.MethodName)) : Cond) ∈ lw_tbl := tb_5 (List.mem_of_getElem? (i := 225) rfl)
theorem w_5_226 : ((Jvm.Cond.privateMethod ({ cls := "LaidQuarrelModel", name := "ranBody", desc := "(I)V" } : Jvm.MethodName)) : Cond) ∈ lw_tbl := tb_5 (List.mem_of_getElem? (i := 226) rfl)
theorem w_5_227 : ((Jvm.Cond.instanceMethod ({ cls := "LaidQuarrelModel", name := "ranBody", desc := "(I)V" } : Jvm.MethodName)) : Cond) ∈ lw_tbl := tb_5 (List.mem_of_getElem? (i := 227) rfl)
theorem w_5_228 : ((Jvm.Cond.code ({ cls := "LaidQuarrelModel", name := "ranBody", desc := "(I)V" } : Jvm.MethodName) prog_13_method_77_code (2 : Nat) (Option.none : Option Jvm.ClassFile.FieldType)) : Cond) ∈ lw_tbl := tb_5 (List.mem_of_getElem? (i := 228) rfl)
theorem w_5_229 : ((Jvm.Cond.methodLink "LaidQuarrelModel" (255 : Nat) ({ cls := "LaidQuarrelModel", name := "plainUtters", desc := "(I)I" } : Jvm.MethodName)) : Cond) ∈ lw_tbl := tb_5 (List.mem_of_getElem? (i := 229) rfl)
theorem w_5_230 : ((Jvm.Cond.privateMethod ({ cls := "LaidQuarrelModel", name := "plainUtters", desc := "(I)I" } : Jvm.MethodName)) : Cond) ∈ lw_tbl := tb_5 (List.mem_of_getElem? (i := 230) rfl)
theorem w_5_231 : ((Jvm.Cond.instanceMethod ({ cls := "LaidQuarrelModel", name := "plainUtters", desc := "(I)I" } : Jvm.MethodName)) : Cond) ∈ lw_tbl := tb_5 (List.mem_of_getElem? (i := 231) rfl)
theorem w_5_232 : ((Jvm.Cond.code ({ cls := "LaidQuarrelModel", name := "plainUtters", desc := "(I)I" } : Jvm.MethodName) prog_13_method_79_code (2 : Nat) (Option.some Jvm.ClassFile.FieldType.int)) : Cond) ∈ lw_tbl := tb_5 (List.mem_of_getElem? (i := 232) rfl)
theorem w_5_233 : ((Jvm.Cond.methodLink "LaidQuarrelModel" (267 : Nat) ({ cls := "LaidQuarrelModel", name := "keepsActs", desc := "(I)I" } : Jvm.MethodName)) : Cond) ∈ lw_tbl := tb_5 (List.mem_of_getElem? (i := 233) rfl)
theorem w_5_234 : ((Jvm.Cond.privateMethod ({ cls := "LaidQuarrelModel", name := "keepsActs", desc := "(I)I" } : Jvm.MethodName)) : Cond) ∈ lw_tbl := tb_5 (List.mem_of_getElem? (i := 234) rfl)
theorem w_5_235 : ((Jvm.Cond.instanceMethod ({ cls := "LaidQuarrelModel", name := "keepsActs", desc := "(I)I" } : Jvm.MethodName)) : Cond) ∈ lw_tbl := tb_5 (List.mem_of_getElem? (i := 235) rfl)
theorem w_5_236 : ((Jvm.Cond.code ({ cls := "LaidQuarrelModel", name := "keepsActs", desc := "(I)I" } : Jvm.MethodName) prog_13_method_82_code (2 : Nat) (Option.some Jvm.ClassFile.FieldType.int)) : Cond) ∈ lw_tbl := tb_5 (List.mem_of_getElem? (i := 236) rfl)
theorem w_5_237 : ((Jvm.Cond.methodLink "LaidQuarrelModel" (264 : Nat) ({ cls := "LaidQuarrelModel", name := "plainKeeping", desc := "(I)I" } : Jvm.MethodName)) : Cond) ∈ lw_tbl := tb_5 (List.mem_of_getElem? (i := 237) rfl)
theorem w_5_238 : ((Jvm.Cond.privateMethod ({ cls := "LaidQuarrelModel", name := "plainKeeping", desc := "(I)I" } : Jvm.MethodName)) : Cond) ∈ lw_tbl := tb_5 (List.mem_of_getElem? (i := 238) rfl)
theorem w_5_239 : ((Jvm.Cond.instanceMethod ({ cls := "LaidQuarrelModel", name := "plainKeeping", desc := "(I)I" } : Jvm.MethodName)) : Cond) ∈ lw_tbl := tb_5 (List.mem_of_getElem? (i := 239) rfl)
theorem w_6_0 : ((Jvm.Cond.code ({ cls := "LaidQuarrelModel", name := "plainKeeping", desc := "(I)I" } : Jvm.MethodName) prog_13_method_81_code (2 : Nat) (Option.some Jvm.ClassFile.FieldType.int)) : Cond) ∈ lw_tbl := tb_6 (List.mem_of_getElem? (i := 0) rfl)
theorem w_6_1 : ((Jvm.Cond.methodLink "LaidQuarrelModel" (273 : Nat) ({ cls := "LaidQuarrelModel", name := "tellsActs", desc := "(I)I" } : Jvm.MethodName)) : Cond) ∈ lw_tbl := tb_6 (List.mem_of_getElem? (i := 1) rfl)
theorem w_6_2 : ((Jvm.Cond.privateMethod ({ cls := "LaidQuarrelModel", name := "tellsActs", desc := "(I)I" } : Jvm.MethodName)) : Cond) ∈ lw_tbl := tb_6 (List.mem_of_getElem? (i := 2) rfl)
theorem w_6_3 : ((Jvm.Cond.instanceMethod ({ cls := "LaidQuarrelModel", name := "tellsActs", desc := "(I)I" } : Jvm.MethodName)) : Cond) ∈ lw_tbl := tb_6 (List.mem_of_getElem? (i := 3) rfl)
theorem w_6_4 : ((Jvm.Cond.code ({ cls := "LaidQuarrelModel", name := "tellsActs", desc := "(I)I" } : Jvm.MethodName) prog_13_method_84_code (3 : Nat) (Option.some Jvm.ClassFile.FieldType.int)) : Cond) ∈ lw_tbl := tb_6 (List.mem_of_getElem? (i := 4) rfl)
theorem w_6_5 : ((Jvm.Cond.methodLink "LaidQuarrelModel" (270 : Nat) ({ cls := "LaidQuarrelModel", name := "plainTelling", desc := "(I)I" } : Jvm.MethodName)) : Cond) ∈ lw_tbl := tb_6 (List.mem_of_getElem? (i := 5) rfl)
theorem w_6_6 : ((Jvm.Cond.privateMethod ({ cls := "LaidQuarrelModel", name := "plainTelling", desc := "(I)I" } : Jvm.MethodName)) : Cond) ∈ lw_tbl := tb_6 (List.mem_of_getElem? (i := 6) rfl)
theorem w_6_7 : ((Jvm.Cond.instanceMethod ({ cls := "LaidQuarrelModel", name := "plainTelling", desc := "(I)I" } : Jvm.MethodName)) : Cond) ∈ lw_tbl := tb_6 (List.mem_of_getElem? (i := 7) rfl)
theorem w_6_8 : ((Jvm.Cond.code ({ cls := "LaidQuarrelModel", name := "plainTelling", desc := "(I)I" } : Jvm.MethodName) prog_13_method_83_code (2 : Nat) (Option.some Jvm.ClassFile.FieldType.int)) : Cond) ∈ lw_tbl := tb_6 (List.mem_of_getElem? (i := 8) rfl)
theorem w_6_9 : ((Jvm.Cond.methodLink "LaidQuarrelLaw" (150 : Nat) ({ cls := "LaidQuarrelModel", name := "trace", desc := "(I)I" } : Jvm.MethodName)) : Cond) ∈ lw_tbl := tb_6 (List.mem_of_getElem? (i := 9) rfl)
theorem w_6_10 : ((Jvm.Cond.instanceMethod ({ cls := "LaidQuarrelModel", name := "trace", desc := "(I)I" } : Jvm.MethodName)) : Cond) ∈ lw_tbl := tb_6 (List.mem_of_getElem? (i := 10) rfl)
theorem w_6_11 : ((Jvm.Cond.selects "LaidQuarrelModel" ({ cls := "LaidQuarrelModel", name := "trace", desc := "(I)I" } : Jvm.MethodName) ({ cls := "LaidQuarrelModel", name := "trace", desc := "(I)I" } : Jvm.MethodName)) : Cond) ∈ lw_tbl := tb_6 (List.mem_of_getElem? (i := 11) rfl)
theorem w_6_12 : ((Jvm.Cond.code ({ cls := "LaidQuarrelModel", name := "trace", desc := "(I)I" } : Jvm.MethodName) prog_13_method_86_code (2 : Nat) (Option.some Jvm.ClassFile.FieldType.int)) : Cond) ∈ lw_tbl := tb_6 (List.mem_of_getElem? (i := 12) rfl)
theorem w_6_13 : ((Jvm.Cond.methodLink "LaidQuarrelLaw" (154 : Nat) ({ cls := "LaidQuarrelModel", name := "as", desc := "(II)I" } : Jvm.MethodName)) : Cond) ∈ lw_tbl := tb_6 (List.mem_of_getElem? (i := 13) rfl)
theorem w_6_14 : ((Jvm.Cond.instanceMethod ({ cls := "LaidQuarrelModel", name := "as", desc := "(II)I" } : Jvm.MethodName)) : Cond) ∈ lw_tbl := tb_6 (List.mem_of_getElem? (i := 14) rfl)
theorem w_6_15 : ((Jvm.Cond.selects "LaidQuarrelModel" ({ cls := "LaidQuarrelModel", name := "as", desc := "(II)I" } : Jvm.MethodName) ({ cls := "LaidQuarrelModel", name := "as", desc := "(II)I" } : Jvm.MethodName)) : Cond) ∈ lw_tbl := tb_6 (List.mem_of_getElem? (i := 15) rfl)
theorem w_6_16 : ((Jvm.Cond.code ({ cls := "LaidQuarrelModel", name := "as", desc := "(II)I" } : Jvm.MethodName) prog_13_method_87_code (3 : Nat) (Option.some Jvm.ClassFile.FieldType.int)) : Cond) ∈ lw_tbl := tb_6 (List.mem_of_getElem? (i := 16) rfl)
theorem w_6_17 : ((Jvm.Cond.methodLink "LaidQuarrelLaw" (158 : Nat) ({ cls := "LaidQuarrelModel", name := "image", desc := "()I" } : Jvm.MethodName)) : Cond) ∈ lw_tbl := tb_6 (List.mem_of_getElem? (i := 17) rfl)
theorem w_6_18 : ((Jvm.Cond.instanceMethod ({ cls := "LaidQuarrelModel", name := "image", desc := "()I" } : Jvm.MethodName)) : Cond) ∈ lw_tbl := tb_6 (List.mem_of_getElem? (i := 18) rfl)
theorem w_6_19 : ((Jvm.Cond.selects "LaidQuarrelModel" ({ cls := "LaidQuarrelModel", name := "image", desc := "()I" } : Jvm.MethodName) ({ cls := "LaidQuarrelModel", name := "image", desc := "()I" } : Jvm.MethodName)) : Cond) ∈ lw_tbl := tb_6 (List.mem_of_getElem? (i := 19) rfl)
theorem w_6_20 : ((Jvm.Cond.code ({ cls := "LaidQuarrelModel", name := "image", desc := "()I" } : Jvm.MethodName) prog_13_method_88_code (2 : Nat) (Option.some Jvm.ClassFile.FieldType.int)) : Cond) ∈ lw_tbl := tb_6 (List.mem_of_getElem? (i := 20) rfl)
theorem w_6_21 : ((Jvm.Cond.methodLink "LaidQuarrelLaw" (162 : Nat) ({ cls := "LaidQuarrelModel", name := "undo", desc := "()I" } : Jvm.MethodName)) : Cond) ∈ lw_tbl := tb_6 (List.mem_of_getElem? (i := 21) rfl)
theorem w_6_22 : ((Jvm.Cond.instanceMethod ({ cls := "LaidQuarrelModel", name := "undo", desc := "()I" } : Jvm.MethodName)) : Cond) ∈ lw_tbl := tb_6 (List.mem_of_getElem? (i := 22) rfl)
theorem w_6_23 : ((Jvm.Cond.selects "LaidQuarrelModel" ({ cls := "LaidQuarrelModel", name := "undo", desc := "()I" } : Jvm.MethodName) ({ cls := "LaidQuarrelModel", name := "undo", desc := "()I" } : Jvm.MethodName)) : Cond) ∈ lw_tbl := tb_6 (List.mem_of_getElem? (i := 23) rfl)
theorem w_6_24 : ((Jvm.Cond.code ({ cls := "LaidQuarrelModel", name := "undo", desc := "()I" } : Jvm.MethodName) prog_13_method_89_code (2 : Nat) (Option.some Jvm.ClassFile.FieldType.int)) : Cond) ∈ lw_tbl := tb_6 (List.mem_of_getElem? (i := 24) rfl)
theorem w_6_25 : ((Jvm.Cond.methodLink "LaidQuarrelLaw" (166 : Nat) ({ cls := "LaidQuarrelModel", name := "count", desc := "(I)I" } : Jvm.MethodName)) : Cond) ∈ lw_tbl := tb_6 (List.mem_of_getElem? (i := 25) rfl)
theorem w_6_26 : ((Jvm.Cond.instanceMethod ({ cls := "LaidQuarrelModel", name := "count", desc := "(I)I" } : Jvm.MethodName)) : Cond) ∈ lw_tbl := tb_6 (List.mem_of_getElem? (i := 26) rfl)
theorem w_6_27 : ((Jvm.Cond.selects "LaidQuarrelModel" ({ cls := "LaidQuarrelModel", name := "count", desc := "(I)I" } : Jvm.MethodName) ({ cls := "LaidQuarrelModel", name := "count", desc := "(I)I" } : Jvm.MethodName)) : Cond) ∈ lw_tbl := tb_6 (List.mem_of_getElem? (i := 27) rfl)
theorem w_6_28 : ((Jvm.Cond.code ({ cls := "LaidQuarrelModel", name := "count", desc := "(I)I" } : Jvm.MethodName) prog_13_method_90_code (2 : Nat) (Option.some Jvm.ClassFile.FieldType.int)) : Cond) ∈ lw_tbl := tb_6 (List.mem_of_getElem? (i := 28) rfl)
theorem w_6_29 : ((Jvm.Cond.sameMethod "LaidQuarrel$Hard" "LaidQuarrel$Hard" "spoken" "(LLaidQuarrel$Laid;I)I") : Cond) ∈ lw_tbl := tb_6 (List.mem_of_getElem? (i := 29) rfl)
theorem w_6_30 : ((Jvm.Cond.sameMethod "LaidQuarrel$Sweet" "LaidQuarrel$Sweet" "spoken" "(LLaidQuarrel$Laid;I)I") : Cond) ∈ lw_tbl := tb_6 (List.mem_of_getElem? (i := 30) rfl)
theorem w_6_31 : ((Jvm.Cond.sameMethod "LaidQuarrel$Corked" "LaidQuarrel$Corked" "spoken" "(LLaidQuarrel$Laid;I)I") : Cond) ∈ lw_tbl := tb_6 (List.mem_of_getElem? (i := 31) rfl)
theorem w_6_32 : ((Jvm.Cond.castable "LaidQuarrel$Corked" "LaidQuarrel$Bottle") : Cond) ∈ lw_tbl := tb_6 (List.mem_of_getElem? (i := 32) rfl)
theorem w_6_33 : ((Jvm.Cond.castable "LaidQuarrel$Feud" "LaidQuarrel$Bottle") : Cond) ∈ lw_tbl := tb_6 (List.mem_of_getElem? (i := 33) rfl)
theorem w_6_34 : ((Jvm.Cond.castable "LaidQuarrel$Hard" "LaidQuarrel$Bottle") : Cond) ∈ lw_tbl := tb_6 (List.mem_of_getElem? (i := 34) rfl)
theorem w_6_35 : ((Jvm.Cond.castable "LaidQuarrel$Love" "LaidQuarrel$Bottle") : Cond) ∈ lw_tbl := tb_6 (List.mem_of_getElem? (i := 35) rfl)
theorem w_6_36 : ((Jvm.Cond.castable "LaidQuarrel$Sweet" "LaidQuarrel$Bottle") : Cond) ∈ lw_tbl := tb_6 (List.mem_of_getElem? (i := 36) rfl)
theorem w_6_37 : ((Jvm.Cond.castable "LaidQuarrel$Told" "LaidQuarrel$Bottle") : Cond) ∈ lw_tbl := tb_6 (List.mem_of_getElem? (i := 37) rfl)
theorem w_6_38 : ((Jvm.Cond.castable "LaidQuarrel" "java/lang/Object") : Cond) ∈ lw_tbl := tb_6 (List.mem_of_getElem? (i := 38) rfl)
theorem w_6_39 : ((Jvm.Cond.castable "LaidQuarrel$Shelf" "java/lang/Object") : Cond) ∈ lw_tbl := tb_6 (List.mem_of_getElem? (i := 39) rfl)
theorem w_6_40 : ((Jvm.Cond.castable "LaidQuarrel$Cellar" "java/lang/Object") : Cond) ∈ lw_tbl := tb_6 (List.mem_of_getElem? (i := 40) rfl)
theorem w_6_41 : ((Jvm.Cond.castable "java/util/ArrayList" "java/lang/Object") : Cond) ∈ lw_tbl := tb_6 (List.mem_of_getElem? (i := 41) rfl)
theorem w_6_42 : ((Jvm.Cond.castable "LaidQuarrelModel" "java/lang/Object") : Cond) ∈ lw_tbl := tb_6 (List.mem_of_getElem? (i := 42) rfl)
theorem w_6_43 : ((Jvm.Cond.castable "LaidQuarrel$Hard" "java/lang/Object") : Cond) ∈ lw_tbl := tb_6 (List.mem_of_getElem? (i := 43) rfl)
theorem w_6_44 : ((Jvm.Cond.castable "LaidQuarrel$Laid" "java/lang/Object") : Cond) ∈ lw_tbl := tb_6 (List.mem_of_getElem? (i := 44) rfl)
theorem w_6_45 : ((Jvm.Cond.castable "LaidQuarrel$Sweet" "java/lang/Object") : Cond) ∈ lw_tbl := tb_6 (List.mem_of_getElem? (i := 45) rfl)
theorem w_6_46 : ((Jvm.Cond.castable "LaidQuarrel$Corked" "java/lang/Object") : Cond) ∈ lw_tbl := tb_6 (List.mem_of_getElem? (i := 46) rfl)
theorem w_6_47 : ((Jvm.Cond.castable "LaidQuarrel$Feud" "java/lang/Object") : Cond) ∈ lw_tbl := tb_6 (List.mem_of_getElem? (i := 47) rfl)
theorem w_6_48 : ((Jvm.Cond.castable "LaidQuarrel$Love" "java/lang/Object") : Cond) ∈ lw_tbl := tb_6 (List.mem_of_getElem? (i := 48) rfl)
theorem w_6_49 : ((Jvm.Cond.castable "LaidQuarrel$Told" "java/lang/Object") : Cond) ∈ lw_tbl := tb_6 (List.mem_of_getElem? (i := 49) rfl)
theorem w_6_50 : ((Jvm.Cond.castable "LaidQuarrel$Bottle" "java/lang/Object") : Cond) ∈ lw_tbl := tb_6 (List.mem_of_getElem? (i := 50) rfl)
theorem w_6_51 : ((Jvm.Cond.castable "java/lang/String" "java/lang/Object") : Cond) ∈ lw_tbl := tb_6 (List.mem_of_getElem? (i := 51) rfl)
theorem w_6_52 : ((Jvm.Cond.sameMethod "[Ljava/lang/Object;" "java/lang/Object" "getClass" "()Ljava/lang/Class;") : Cond) ∈ lw_tbl := tb_6 (List.mem_of_getElem? (i := 52) rfl)
theorem w_6_53 : ((Jvm.Cond.selects "[Ljava/lang/Object;" ({ cls := "java/lang/Object", name := "getClass", desc := "()Ljava/lang/Class;" } : Jvm.MethodName) ({ cls := "java/lang/Object", name := "getClass", desc := "()Ljava/lang/Class;" } : Jvm.MethodName)) : Cond) ∈ lw_tbl := tb_6 (List.mem_of_getElem? (i := 53) rfl)
theorem w_6_54 : ((Jvm.Cond.declares ({ cls := "java/lang/Object", name := "getClass", desc := "()Ljava/lang/Class;" } : Jvm.MethodName)) : Cond) ∈ lw_tbl := tb_6 (List.mem_of_getElem? (i := 54) rfl)
theorem w_6_55 : ((Jvm.Cond.castable "[I" "java/lang/Object") : Cond) ∈ lw_tbl := tb_6 (List.mem_of_getElem? (i := 55) rfl)
theorem w_6_56 : ((Jvm.Cond.castable "[B" "java/lang/Object") : Cond) ∈ lw_tbl := tb_6 (List.mem_of_getElem? (i := 56) rfl)
theorem w_6_57 : ((Jvm.Cond.castable "[Ljava/lang/Object;" "java/lang/Object") : Cond) ∈ lw_tbl := tb_6 (List.mem_of_getElem? (i := 57) rfl)
theorem w_6_58 : ((Jvm.Cond.castable "[Z" "java/lang/Object") : Cond) ∈ lw_tbl := tb_6 (List.mem_of_getElem? (i := 58) rfl)
theorem w_6_59 : ((Jvm.Cond.fieldLink "java/lang/String" (9 : Nat) "java/lang/String" "value" "[B") : Cond) ∈ lw_tbl := tb_6 (List.mem_of_getElem? (i := 59) rfl)
theorem w_6_60 : ((Jvm.Cond.fieldLink "java/lang/String" (15 : Nat) "java/lang/String" "coder" "B") : Cond) ∈ lw_tbl := tb_6 (List.mem_of_getElem? (i := 60) rfl)
end
section
/-- the classes whose code is walked, by number -/
def xCn (k : Nat) : String := ["java/util/ArrayList", "LaidQuarrel$Bottle", "LaidQuarrel$Cellar", "LaidQuarrel$Corked", "LaidQuarrel$Feud", "LaidQuarrel$Hard", "LaidQuarrel$Laid", "LaidQuarrel$Love", "LaidQuarrel$Shelf", "LaidQuarrel$Sweet", "LaidQuarrel$Told", "LaidQuarrel", "LaidQuarrelModel", "java/lang/Integer", "java/lang/Math", "java/util/Objects", "jdk/internal/util/Preconditions", "java/util/AbstractList", "java/util/AbstractCollection", "LaidQuarrelLaw"].getD k ""
def xLF : List ((Nat × Nat) × (Nat × Nat)) := [((0, 9), (1, 0)), ((0, 48), (2, 0)), ((0, 63), (0, 0)), ((1, 10), (3, 1)), ((1, 16), (4, 1)), ((1, 19), (5, 1)), ((1, 22), (0, 1)), ((1, 26), (1, 1)), ((1, 29), (2, 1)), ((1, 41), (2, 6)), ((1, 60), (1, 6)), ((2, 14), (1, 2)), ((2, 20), (2, 2)), ((2, 23), (0, 2)), ((2, 40), (3, 8)), ((2, 51), (3, 6)), ((2, 69), (1, 1)), ((2, 74), (0, 1)), ((2, 77), (1, 6)), ((2, 80), (4, 6)), ((2, 83), (2, 6)), ((2, 93), (3, 2)), ((2, 113), (4, 2)), ((3, 11), (4, 6)), ((3, 17), (2, 3)), ((4, 11), (3, 6)), ((4, 17), (1, 6)), ((4, 20), (2, 4)), ((5, 7), (2, 6)), ((5, 19), (2, 5)), ((6, 9), (0, 6)), ((6, 15), (1, 6)), ((6, 19), (2, 6)), ((6, 22), (3, 6)), ((6, 25), (4, 6)), ((6, 28), (5, 6)), ((7, 11), (2, 6)), ((7, 17), (3, 6)), ((7, 20), (1, 6)), ((7, 23), (2, 7)), ((7, 39), (1, 7)), ((8, 7), (0, 8)), ((8, 19), (1, 8)), ((8, 23), (2, 8)), ((8, 26), (3, 8)), ((8, 33), (4, 8)), ((9, 7), (2, 6)), ((9, 19), (2, 9)), ((10, 17), (2, 10)), ((10, 33), (3, 10)), ((10, 37), (1, 6)), ((11, 16), (0, 11)), ((11, 20), (1, 11)), ((11, 23), (2, 11)), ((11, 26), (3, 11)), ((11, 29), (4, 11)), ((11, 32), (5, 11)), ((11, 35), (6, 11)), ((11, 38), (7, 11)), ((11, 41), (8, 11)), ((11, 49), (9, 11)), ((11, 53), (10, 11)), ((11, 59), (11, 11)), ((11, 63), (14, 11)), ((11, 75), (12, 11)), ((11, 98), (3, 1)), ((11, 104), (1, 6)), ((11, 109), (2, 6)), ((11, 116), (1, 1)), ((11, 121), (3, 8)), ((11, 127), (0, 1)), ((11, 130), (3, 6)), ((11, 133), (4, 6)), ((11, 136), (5, 6)), ((11, 158), (13, 11)), ((11, 272), (15, 11)), ((11, 275), (16, 11)), ((11, 332), (5, 1)), ((12, 9), (1, 12)), ((12, 15), (2, 12)), ((12, 18), (3, 12)), ((12, 21), (10, 12)), ((12, 24), (11, 12)), ((12, 28), (12, 12)), ((12, 31), (13, 12)), ((12, 34), (14, 12)), ((12, 37), (16, 12)), ((12, 40), (17, 12)), ((12, 43), (19, 12)), ((12, 58), (6, 12)), ((12, 61), (7, 12)), ((12, 64), (8, 12)), ((12, 85), (5, 12)), ((12, 88), (9, 12)), ((12, 207), (15, 12)), ((12, 214), (18, 12)), ((12, 239), (20, 12)), ((12, 245), (22, 12)), ((12, 248), (21, 12)), ((12, 261), (23, 12)), ((12, 276), (4, 12)), ((17, 7), (0, 0))]
def xLC : List ((Nat × Nat) × Int) := [((12, 197), (-1000000)), ((13, 264), 65536), ((13, 265), 1431655765), ((13, 266), 858993459), ((13, 267), 252645135)]
def xLL : List ((Nat × Nat) × Int) := [((11, 239), (-9223372036854775808)), ((12, 230), (-9223372036854775808))]
def xLS : List ((Nat × Nat) × Nat) := [((2, 104), 0), ((2, 118), 1), ((2, 120), 2), ((2, 122), 3), ((12, 100), 7), ((12, 106), 8), ((12, 118), 6), ((12, 124), 9), ((12, 126), 4), ((12, 131), 5)]
def xLN : List ((Nat × Nat) × Nat) := [((1, 7), 6), ((2, 9), 8), ((11, 9), 8), ((11, 44), 2), ((11, 56), 0), ((11, 99), 1), ((11, 292), 5), ((11, 297), 9), ((11, 300), 3), ((11, 303), 4), ((11, 306), 7), ((11, 309), 10), ((19, 7), 11), ((19, 10), 12)]
def xLA : List ((Nat × Nat) × Nat) := [((0, 7), 1)]
def xLK : List ((Nat × Nat) × Nat) := [((11, 99), 1)]
def xLG : List ((Nat × Nat) × Nat) := [((0, 39), 1)]
def xLM : List ((Nat × Nat) × (Nat × Nat × Nat)) := [((0, 1), (51, 0, 0)), ((0, 69), (51, 1, 1)), ((0, 79), (50, 230, 0)), ((0, 118), (50, 232, 0)), ((0, 123), (51, 2, 1)), ((0, 129), (51, 3, 0)), ((0, 131), (51, 4, 3)), ((0, 144), (51, 5, 2)), ((1, 1), (53, 0, 0)), ((1, 9), (51, 6, 0)), ((1, 33), (51, 7, 1)), ((1, 37), (51, 8, 1)), ((1, 44), (50, 113, 0)), ((1, 50), (51, 9, 3)), ((1, 56), (51, 10, 1)), ((1, 63), (51, 11, 1)), ((2, 3), (53, 0, 0)), ((2, 11), (51, 12, 2)), ((2, 26), (51, 13, 1)), ((2, 30), (51, 14, 0)), ((2, 33), (51, 15, 0)), ((2, 36), (51, 16, 2)), ((2, 44), (51, 17, 2)), ((2, 47), (51, 18, 4)), ((2, 56), (50, 230, 0)), ((2, 61), (51, 19, 3)), ((2, 65), (50, 29, 0)), ((2, 86), (50, 229, 0)), ((2, 90), (51, 20, 0)), ((2, 96), (51, 21, 0)), ((2, 100), (51, 22, 1)), ((2, 106), (51, 23, 1)), ((2, 110), (51, 24, 0)), ((2, 114), (51, 25, 2)), ((2, 124), (51, 26, 1)), ((2, 127), (51, 27, 3)), ((2, 131), (51, 28, 1)), ((2, 134), (51, 29, 1)), ((2, 137), (51, 30, 0)), ((2, 140), (50, 37, 0)), ((2, 143), (50, 111, 0)), ((2, 146), (52, 0, 1)), ((2, 152), (52, 1, 2)), ((3, 1), (51, 31, 3)), ((3, 7), (51, 32, 2)), ((3, 23), (51, 33, 3)), ((3, 29), (51, 34, 1)), ((4, 1), (51, 35, 3)), ((4, 7), (51, 36, 2)), ((4, 26), (51, 37, 3)), ((4, 32), (51, 38, 1)), ((4, 36), (51, 39, 1)), ((5, 1), (51, 40, 3)), ((5, 13), (50, 113, 0)), ((5, 25), (51, 41, 3)), ((5, 31), (51, 42, 1)), ((6, 3), (53, 0, 0)), ((6, 32), (50, 66, 0)), ((6, 38), (50, 231, 0)), ((7, 1), (51, 43, 3)), ((7, 7), (51, 44, 2)), ((7, 29), (51, 45, 3)), ((7, 35), (51, 46, 1)), ((8, 1), (53, 0, 0)), ((8, 13), (50, 230, 0)), ((8, 29), (50, 66, 0)), ((9, 1), (51, 47, 3)), ((9, 13), (50, 113, 0)), ((9, 25), (51, 48, 3)), ((9, 31), (51, 49, 1)), ((10, 1), (51, 50, 3)), ((10, 7), (51, 51, 2)), ((10, 11), (51, 52, 0)), ((10, 23), (51, 53, 3)), ((10, 29), (51, 54, 1)), ((11, 3), (53, 0, 0)), ((11, 13), (51, 55, 2)), ((11, 46), (51, 56, 1)), ((11, 58), (51, 57, 0)), ((11, 67), (50, 111, 0)), ((11, 71), (50, 116, 0)), ((11, 78), (51, 58, 0)), ((11, 82), (51, 59, 0)), ((11, 85), (51, 60, 1)), ((11, 89), (51, 61, 0)), ((11, 94), (51, 62, 1)), ((11, 112), (51, 63, 1)), ((11, 119), (51, 64, 3)), ((11, 124), (51, 65, 1)), ((11, 140), (51, 66, 2)), ((11, 144), (51, 67, 2)), ((11, 147), (51, 68, 2)), ((11, 151), (51, 69, 1)), ((11, 155), (51, 70, 2)), ((11, 161), (51, 71, 0)), ((11, 164), (51, 72, 0)), ((11, 167), (51, 73, 0)), ((11, 170), (51, 74, 1)), ((11, 174), (50, 117, 0)), ((11, 178), (50, 127, 0)), ((11, 182), (51, 75, 1)), ((11, 186), (51, 76, 1)), ((11, 190), (51, 77, 2)), ((11, 194), (51, 78, 1)), ((11, 198), (51, 79, 1)), ((11, 200), (51, 80, 0)), ((11, 204), (51, 81, 0)), ((11, 207), (50, 228, 0)), ((11, 212), (51, 82, 1)), ((11, 215), (50, 129, 0)), ((11, 218), (50, 130, 0)), ((11, 221), (50, 229, 0)), ((11, 226), (50, 112, 0)), ((11, 230), (51, 83, 1)), ((11, 233), (51, 84, 2)), ((11, 236), (51, 85, 3)), ((11, 241), (50, 114, 0)), ((11, 244), (50, 118, 0)), ((11, 248), (51, 86, 3)), ((11, 252), (51, 87, 0)), ((11, 255), (51, 88, 1)), ((11, 258), (51, 89, 1)), ((11, 261), (51, 90, 1)), ((11, 264), (50, 115, 0)), ((11, 267), (51, 91, 0)), ((11, 270), (51, 92, 0)), ((11, 271), (51, 93, 0)), ((11, 278), (51, 94, 0)), ((11, 281), (51, 95, 0)), ((11, 282), (51, 96, 1)), ((11, 285), (51, 97, 0)), ((11, 286), (50, 231, 0)), ((11, 289), (50, 230, 0)), ((11, 294), (51, 98, 3)), ((11, 299), (51, 99, 3)), ((11, 302), (51, 100, 3)), ((11, 305), (51, 101, 3)), ((11, 308), (51, 102, 3)), ((11, 311), (51, 103, 3)), ((11, 312), (51, 104, 3)), ((11, 313), (51, 105, 2)), ((11, 317), (51, 106, 2)), ((11, 320), (50, 113, 0)), ((11, 323), (50, 227, 0)), ((11, 326), (51, 107, 2)), ((11, 329), (51, 108, 2)), ((12, 3), (53, 0, 0)), ((12, 50), (50, 141, 0)), ((12, 54), (50, 139, 0)), ((12, 68), (51, 109, 0)), ((12, 72), (52, 0, 1)), ((12, 77), (52, 1, 2)), ((12, 81), (51, 110, 1)), ((12, 91), (51, 111, 0)), ((12, 94), (51, 112, 1)), ((12, 97), (51, 113, 0)), ((12, 102), (51, 114, 1)), ((12, 108), (51, 115, 0)), ((12, 111), (51, 116, 0)), ((12, 114), (51, 117, 1)), ((12, 120), (51, 118, 2)), ((12, 128), (51, 119, 2)), ((12, 133), (51, 120, 0)), ((12, 136), (51, 121, 0)), ((12, 139), (51, 122, 2)), ((12, 143), (51, 123, 1)), ((12, 146), (51, 124, 1)), ((12, 149), (50, 142, 0)), ((12, 152), (50, 145, 0)), ((12, 156), (51, 125, 1)), ((12, 159), (51, 126, 1)), ((12, 162), (51, 127, 1)), ((12, 165), (51, 128, 0)), ((12, 168), (51, 129, 0)), ((12, 171), (51, 130, 0)), ((12, 174), (50, 140, 0)), ((12, 178), (51, 131, 2)), ((12, 182), (51, 132, 2)), ((12, 185), (51, 133, 0)), ((12, 188), (51, 134, 1)), ((12, 191), (51, 135, 0)), ((12, 194), (51, 136, 0)), ((12, 198), (51, 137, 0)), ((12, 201), (51, 138, 1)), ((12, 204), (50, 190, 0)), ((12, 210), (51, 139, 3)), ((12, 217), (51, 140, 2)), ((12, 220), (50, 146, 0)), ((12, 223), (51, 141, 1)), ((12, 226), (51, 142, 0)), ((12, 232), (50, 205, 0)), ((12, 236), (51, 143, 3)), ((12, 242), (51, 144, 1)), ((12, 251), (50, 214, 0)), ((12, 255), (51, 145, 1)), ((12, 258), (51, 146, 1)), ((12, 264), (51, 147, 1)), ((12, 267), (51, 148, 1)), ((12, 270), (51, 149, 1)), ((12, 273), (51, 150, 1)), ((15, 105), (50, 233, 0)), ((17, 1), (51, 151, 0)), ((18, 1), (53, 0, 0)), ((19, 9), (51, 152, 0)), ((19, 12), (51, 153, 0)), ((19, 13), (51, 154, 1)), ((19, 17), (51, 155, 1)), ((19, 18), (51, 156, 0)), ((19, 22), (51, 157, 0)), ((19, 23), (51, 158, 3)), ((19, 27), (51, 159, 3)), ((19, 28), (51, 160, 1)), ((19, 31), (51, 161, 1)), ((19, 32), (51, 162, 2)), ((19, 36), (51, 163, 2)), ((19, 37), (51, 164, 3)), ((19, 40), (51, 165, 3)), ((19, 41), (51, 166, 3)), ((19, 44), (51, 167, 3)), ((19, 45), (51, 168, 1)), ((19, 48), (51, 169, 1)), ((19, 49), (51, 170, 1)), ((19, 52), (51, 171, 1)), ((19, 53), (51, 172, 2)), ((19, 56), (51, 173, 2)), ((19, 57), (51, 174, 3)), ((19, 60), (51, 175, 3)), ((19, 61), (51, 176, 1)), ((19, 64), (51, 177, 1)), ((19, 65), (51, 178, 2)), ((19, 68), (51, 179, 2)), ((19, 69), (51, 180, 2)), ((19, 72), (51, 181, 2)), ((19, 73), (51, 182, 1)), ((19, 76), (51, 183, 1)), ((19, 77), (51, 184, 1)), ((19, 80), (51, 185, 1)), ((19, 81), (51, 186, 2)), ((19, 84), (51, 187, 2)), ((19, 85), (51, 188, 2)), ((19, 88), (51, 189, 2)), ((19, 89), (51, 190, 0)), ((19, 92), (51, 191, 0)), ((19, 93), (51, 192, 1)), ((19, 96), (51, 193, 1)), ((19, 97), (51, 194, 3)), ((19, 100), (51, 195, 3)), ((19, 101), (51, 196, 3)), ((19, 104), (51, 197, 3)), ((19, 105), (51, 198, 2)), ((19, 108), (51, 199, 2)), ((19, 109), (51, 200, 2)), ((19, 112), (51, 201, 2)), ((19, 113), (51, 202, 2)), ((19, 116), (51, 203, 2)), ((19, 117), (51, 204, 3)), ((19, 121), (51, 205, 3)), ((19, 122), (51, 206, 2)), ((19, 126), (51, 207, 2)), ((19, 127), (51, 208, 3)), ((19, 130), (51, 209, 3)), ((19, 131), (51, 210, 1)), ((19, 134), (51, 211, 1)), ((19, 135), (51, 212, 2)), ((19, 138), (51, 213, 2)), ((19, 139), (51, 214, 0)), ((19, 142), (51, 215, 0)), ((19, 143), (51, 216, 3)), ((19, 146), (51, 217, 3)), ((19, 147), (51, 218, 1)), ((19, 150), (51, 219, 1)), ((19, 151), (51, 220, 2)), ((19, 154), (51, 221, 2)), ((19, 155), (51, 222, 0)), ((19, 158), (51, 223, 0)), ((19, 159), (51, 224, 0)), ((19, 162), (51, 225, 0)), ((19, 163), (51, 226, 1)), ((19, 166), (51, 227, 1))]
/-- 0: java/util/ArrayList.<init>()V -/
def t_Jx4a65c_init_da8c8 : List ME := [(0, 1, 1, 1, 0, []), (1, 4, 51, 0, 0, []), (4, 5, 1, 1, 0, []), (5, 8, 36, 0, 0, []), (8, 11, 17, 1, 0, []), (11, 12, 63, 0, 0, [])]
/-- 1: java/util/ArrayList.grow(I)[Ljava/lang/Object; -/
def t_Jx4a65c_grow_92f84 : List ME := [(0, 1, 1, 1, 0, []), (1, 4, 16, 1, 0, []), (4, 5, 24, 0, 0, []), (5, 6, 2, 0, 2, []), (6, 7, 1, 0, 2, []), (7, 10, 6, 20, 4, []), (10, 11, 1, 1, 0, []), (11, 14, 16, 1, 0, []), (14, 17, 36, 0, 0, []), (17, 20, 9, 45, 0, []), (20, 21, 1, 0, 2, []), (21, 22, 1, 0, 1, []), (22, 23, 1, 0, 2, []), (23, 24, 4, 1, 0, []), (24, 25, 1, 0, 2, []), (25, 26, 0, 1, 0, []), (26, 27, 4, 9, 0, []), (27, 30, 99, 0, 0, []), (30, 31, 2, 0, 3, []), (31, 32, 1, 1, 0, []), (32, 33, 1, 1, 0, []), (33, 36, 16, 1, 0, []), (36, 37, 1, 0, 3, []), (37, 40, 99, 0, 0, []), (40, 41, 13, 0, 0, []), (41, 44, 17, 1, 0, []), (44, 45, 61, 0, 0, []), (45, 46, 1, 1, 0, []), (46, 48, 0, 10, 0, []), (48, 49, 1, 0, 1, []), (49, 52, 50, 230, 0, []), (52, 55, 27, 0, 0, []), (55, 56, 13, 0, 0, []), (56, 59, 17, 1, 0, []), (59, 60, 61, 0, 0, [])]
/-- 2: java/util/ArrayList.grow()[Ljava/lang/Object; -/
def t_Jx4a65c_grow_d5877 : List ME := [(0, 1, 1, 1, 0, []), (1, 2, 1, 1, 0, []), (2, 5, 16, 2, 0, []), (5, 6, 0, 1, 0, []), (6, 7, 4, 0, 0, []), (7, 10, 51, 1, 1, []), (10, 11, 61, 0, 0, [])]
/-- 3: java/util/ArrayList.size()I -/
def t_Jx4a65c_size_8abf5 : List ME := [(0, 1, 1, 1, 0, []), (1, 4, 16, 2, 0, []), (4, 5, 60, 0, 0, [])]
/-- 4: java/util/ArrayList.elementData(I)Ljava/lang/Object; -/
def t_Jx4a65c_elementData_915e3 : List ME := [(0, 1, 1, 1, 0, []), (1, 4, 16, 1, 0, []), (4, 5, 1, 0, 1, []), (5, 6, 22, 0, 0, []), (6, 7, 61, 0, 0, [])]
/-- 5: java/util/ArrayList.get(I)Ljava/lang/Object; -/
def t_Jx4a65c_get_915e3 : List ME := [(0, 1, 1, 0, 1, []), (1, 2, 1, 1, 0, []), (2, 5, 16, 2, 0, []), (5, 8, 50, 232, 0, []), (8, 9, 12, 0, 0, []), (9, 10, 1, 1, 0, []), (10, 11, 1, 0, 1, []), (11, 14, 51, 2, 1, []), (14, 15, 61, 0, 0, [])]
/-- 6: java/util/ArrayList.add(Ljava/lang/Object;[Ljava/lang/Object;I)V -/
def t_Jx4a65c_add_72be8 : List ME := [(0, 1, 1, 0, 3, []), (1, 2, 1, 1, 2, []), (2, 3, 24, 0, 0, []), (3, 6, 7, 11, 1, []), (6, 7, 1, 1, 0, []), (7, 10, 51, 3, 0, []), (10, 11, 2, 1, 2, []), (11, 12, 1, 1, 2, []), (12, 13, 1, 0, 3, []), (13, 14, 1, 1, 1, []), (14, 15, 23, 0, 0, []), (15, 16, 1, 1, 0, []), (16, 17, 1, 0, 3, []), (17, 18, 0, 1, 0, []), (18, 19, 4, 0, 0, []), (19, 22, 17, 2, 0, []), (22, 23, 63, 0, 0, [])]
/-- 7: java/util/ArrayList.add(Ljava/lang/Object;)Z -/
def t_Jx4a65c_add_9ea2d : List ME := [(0, 1, 1, 1, 0, []), (1, 2, 11, 0, 0, []), (2, 5, 16, 0, 0, []), (5, 6, 0, 1, 0, []), (6, 7, 4, 0, 0, []), (7, 10, 17, 0, 0, []), (10, 11, 1, 1, 0, []), (11, 12, 1, 1, 1, []), (12, 13, 1, 1, 0, []), (13, 16, 16, 1, 0, []), (16, 17, 1, 1, 0, []), (17, 20, 16, 2, 0, []), (20, 23, 51, 4, 3, []), (23, 24, 0, 1, 0, []), (24, 25, 60, 0, 0, [])]
/-- 8: java/util/ArrayList.remove(I)Ljava/lang/Object; -/
def t_Jx4a65c_remove_915e3 : List ME := [(0, 1, 1, 0, 1, []), (1, 2, 1, 1, 0, []), (2, 5, 16, 2, 0, []), (5, 8, 50, 232, 0, []), (8, 9, 12, 0, 0, []), (9, 10, 1, 1, 0, []), (10, 13, 16, 1, 0, []), (13, 14, 2, 1, 2, []), (14, 15, 1, 1, 2, []), (15, 16, 1, 0, 1, []), (16, 17, 22, 0, 0, []), (17, 18, 2, 1, 3, []), (18, 19, 1, 1, 0, []), (19, 20, 1, 1, 2, []), (20, 21, 1, 0, 1, []), (21, 24, 51, 5, 2, []), (24, 25, 1, 1, 3, []), (25, 26, 61, 0, 0, [])]
/-- 9: java/util/ArrayList.fastRemove([Ljava/lang/Object;I)V -/
def t_Jx4a65c_fastRemove_b59b0 : List ME := [(0, 1, 1, 1, 0, []), (1, 2, 11, 0, 0, []), (2, 5, 16, 0, 0, []), (5, 6, 0, 1, 0, []), (6, 7, 4, 0, 0, []), (7, 10, 17, 0, 0, []), (10, 11, 1, 1, 0, []), (11, 14, 16, 2, 0, []), (14, 15, 0, 1, 0, []), (15, 16, 4, 1, 0, []), (16, 17, 11, 0, 0, []), (17, 18, 2, 0, 3, []), (18, 19, 1, 0, 2, []), (19, 22, 7, 34, 5, []), (22, 23, 1, 1, 1, []), (23, 24, 1, 0, 2, []), (24, 25, 0, 1, 0, []), (25, 26, 4, 0, 0, []), (26, 27, 1, 1, 1, []), (27, 28, 1, 0, 2, []), (28, 29, 1, 0, 3, []), (29, 30, 1, 0, 2, []), (30, 31, 4, 1, 0, []), (31, 34, 99, 0, 0, []), (34, 35, 1, 1, 1, []), (35, 36, 1, 1, 0, []), (36, 37, 1, 0, 3, []), (37, 38, 13, 0, 0, []), (38, 41, 17, 2, 0, []), (41, 42, 15, 0, 0, []), (42, 43, 23, 0, 0, []), (43, 44, 63, 0, 0, [])]
/-- 10: LaidQuarrel$Bottle.<init>(IILLaidQuarrel$Shelf;)V -/
def t_X0_init : List ME := [(0, 1, 1, 1, 0, []), (1, 4, 53, 0, 0, []), (4, 5, 1, 1, 0, []), (5, 8, 25, 6, 0, []), (8, 9, 11, 0, 0, []), (9, 12, 51, 6, 0, []), (12, 15, 17, 3, 1, []), (15, 16, 1, 1, 0, []), (16, 19, 25, 6, 0, []), (19, 20, 11, 0, 0, []), (20, 23, 51, 6, 0, []), (23, 26, 17, 4, 1, []), (26, 27, 1, 1, 0, []), (27, 30, 25, 6, 0, []), (30, 31, 11, 0, 0, []), (31, 34, 51, 6, 0, []), (34, 37, 17, 5, 1, []), (37, 38, 1, 1, 0, []), (38, 39, 1, 0, 1, []), (39, 42, 17, 0, 1, []), (42, 43, 1, 1, 0, []), (43, 44, 1, 0, 2, []), (44, 47, 17, 1, 1, []), (47, 48, 1, 1, 0, []), (48, 49, 1, 1, 3, []), (49, 52, 17, 2, 1, []), (52, 53, 63, 0, 0, [])]
/-- 11: LaidQuarrel$Bottle.keep()V -/
def t_X0_keep : List ME := [(0, 1, 1, 1, 0, []), (1, 4, 16, 4, 1, []), (4, 5, 1, 1, 0, []), (5, 8, 16, 3, 1, []), (8, 11, 51, 7, 1, []), (11, 12, 63, 0, 0, [])]
/-- 12: LaidQuarrel$Bottle.restore()V -/
def t_X0_restore : List ME := [(0, 1, 1, 1, 0, []), (1, 4, 16, 3, 1, []), (4, 5, 1, 1, 0, []), (5, 8, 16, 4, 1, []), (8, 11, 51, 7, 1, []), (11, 12, 63, 0, 0, [])]
/-- 13: LaidQuarrel$Bottle.tryNow()LLaidQuarrel$Laid; -/
def t_X0_tryNow : List ME := [(0, 1, 1, 1, 0, []), (1, 4, 16, 5, 1, []), (4, 5, 1, 1, 0, []), (5, 8, 16, 3, 1, []), (8, 11, 51, 7, 1, []), (11, 12, 1, 1, 0, []), (12, 15, 16, 5, 1, []), (15, 16, 61, 0, 0, [])]
/-- 14: LaidQuarrel$Bottle.tryBehind(I)LLaidQuarrel$Laid; -/
def t_X0_tryBehind : List ME := [(0, 1, 1, 1, 0, []), (1, 4, 16, 5, 1, []), (4, 5, 1, 1, 0, []), (5, 8, 16, 3, 1, []), (8, 11, 51, 7, 1, []), (11, 12, 1, 1, 0, []), (12, 15, 16, 5, 1, []), (15, 16, 1, 0, 1, []), (16, 19, 51, 8, 1, []), (19, 20, 1, 1, 0, []), (20, 23, 16, 5, 1, []), (23, 24, 61, 0, 0, [])]
/-- 15: LaidQuarrel$Bottle.spoken(LLaidQuarrel$Laid;I)I -/
def t_X0_spoken : List ME := [(0, 1, 1, 1, 1, []), (1, 4, 16, 2, 6, []), (4, 5, 1, 0, 2, []), (5, 8, 50, 113, 0, []), (8, 9, 60, 0, 0, [])]
/-- 16: LaidQuarrel$Bottle.utters(I)I -/
def t_X0_utters : List ME := [(0, 1, 1, 1, 0, []), (1, 4, 16, 2, 1, []), (4, 5, 0, 1, 0, []), (5, 6, 0, 0, 0, []), (6, 7, 0, 0, 0, []), (7, 10, 51, 9, 3, []), (10, 11, 12, 0, 0, []), (11, 12, 1, 0, 1, []), (12, 13, 1, 1, 0, []), (13, 16, 16, 1, 1, []), (16, 17, 4, 0, 0, []), (17, 18, 60, 0, 0, [])]
/-- 17: LaidQuarrel$Bottle.keeps(I)I -/
def t_X0_keeps : List ME := [(0, 1, 1, 1, 0, []), (1, 4, 16, 2, 1, []), (4, 5, 0, 2, 0, []), (5, 6, 0, 0, 0, []), (6, 7, 0, 0, 0, []), (7, 10, 51, 9, 3, []), (10, 11, 12, 0, 0, []), (11, 12, 1, 1, 0, []), (12, 13, 1, 0, 1, []), (13, 16, 51, 10, 1, []), (16, 17, 1, 1, 0, []), (17, 20, 16, 3, 1, []), (20, 23, 16, 1, 6, []), (23, 24, 4, 1, 0, []), (24, 25, 60, 0, 0, [])]
/-- 18: LaidQuarrel$Bottle.tells(I)I -/
def t_X0_tells : List ME := [(0, 1, 1, 1, 0, []), (1, 4, 16, 2, 1, []), (4, 5, 0, 3, 0, []), (5, 6, 0, 0, 0, []), (6, 7, 0, 0, 0, []), (7, 10, 51, 9, 3, []), (10, 11, 12, 0, 0, []), (11, 12, 1, 1, 0, []), (12, 13, 1, 0, 1, []), (13, 16, 51, 11, 1, []), (16, 17, 0, 2, 0, []), (17, 18, 4, 2, 0, []), (18, 19, 60, 0, 0, [])]
/-- 19: LaidQuarrel$Cellar.<init>(LLaidQuarrel$Shelf;)V -/
def t_X1_init : List ME := [(0, 1, 1, 1, 0, []), (1, 4, 53, 0, 0, []), (4, 5, 1, 1, 0, []), (5, 8, 25, 8, 0, []), (8, 9, 11, 0, 0, []), (9, 10, 0, 3, 0, []), (10, 12, 0, 10, 0, []), (12, 15, 51, 12, 2, []), (15, 18, 17, 1, 2, []), (18, 19, 1, 1, 0, []), (19, 22, 25, 8, 0, []), (22, 23, 11, 0, 0, []), (23, 24, 0, 3, 0, []), (24, 26, 0, 100, 0, []), (26, 29, 51, 12, 2, []), (29, 32, 17, 2, 2, []), (32, 33, 1, 1, 0, []), (33, 34, 1, 1, 1, []), (34, 37, 17, 0, 2, []), (37, 38, 63, 0, 0, [])]
/-- 20: LaidQuarrel$Cellar.copyFrom(LLaidQuarrel$Cellar;)V -/
def t_X1_copyFrom : List ME := [(0, 1, 1, 1, 0, []), (1, 4, 16, 1, 2, []), (4, 5, 1, 1, 1, []), (5, 8, 16, 1, 2, []), (8, 11, 51, 13, 1, []), (11, 12, 1, 1, 0, []), (12, 15, 16, 2, 2, []), (15, 16, 1, 1, 1, []), (16, 19, 16, 2, 2, []), (19, 22, 51, 13, 1, []), (22, 23, 63, 0, 0, [])]
/-- 21: LaidQuarrel$Cellar.keep()V -/
def t_X1_keep : List ME := [(0, 1, 1, 1, 0, []), (1, 4, 16, 1, 2, []), (4, 7, 51, 14, 0, []), (7, 8, 1, 1, 0, []), (8, 11, 16, 2, 2, []), (11, 14, 51, 14, 0, []), (14, 15, 63, 0, 0, [])]
/-- 22: LaidQuarrel$Cellar.restore()V -/
def t_X1_restore : List ME := [(0, 1, 1, 1, 0, []), (1, 4, 16, 1, 2, []), (4, 7, 51, 15, 0, []), (7, 8, 1, 1, 0, []), (8, 11, 16, 2, 2, []), (11, 14, 51, 15, 0, []), (14, 15, 63, 0, 0, [])]
/-- 23: LaidQuarrel$Cellar.calm()I -/
def t_X1_calm : List ME := [(0, 1, 1, 1, 0, []), (1, 2, 0, 0, 0, []), (2, 3, 0, 0, 0, []), (3, 6, 51, 16, 2, []), (6, 7, 60, 0, 0, [])]
/-- 24: LaidQuarrel$Cellar.peace()I -/
def t_X1_peace : List ME := [(0, 1, 1, 1, 0, []), (1, 2, 0, 1, 0, []), (2, 3, 0, 5, 0, []), (3, 6, 51, 16, 2, []), (6, 7, 60, 0, 0, [])]
/-- 25: LaidQuarrel$Cellar.lastOf(II)I -/
def t_X1_lastOf : List ME := [(0, 1, 1, 0, 2, []), (1, 2, 2, 0, 3, []), (2, 3, 0, 0, 0, []), (3, 5, 2, 0, 4, []), (5, 7, 1, 0, 4, []), (7, 8, 1, 1, 0, []), (8, 11, 16, 1, 2, []), (11, 14, 16, 3, 8, []), (14, 17, 7, 48, 3, []), (17, 18, 1, 1, 0, []), (18, 21, 16, 1, 2, []), (21, 23, 1, 0, 4, []), (23, 24, 0, 0, 0, []), (24, 27, 51, 17, 2, []), (27, 28, 1, 0, 1, []), (28, 31, 7, 42, 1, []), (31, 32, 1, 1, 0, []), (32, 35, 16, 1, 2, []), (35, 37, 1, 0, 4, []), (37, 38, 0, 1, 0, []), (38, 41, 51, 17, 2, []), (41, 42, 2, 0, 3, []), (42, 45, 3, 4, 1, []), (45, 48, 10, 5, 0, []), (48, 49, 1, 0, 3, []), (49, 50, 60, 0, 0, [])]
/-- 26: LaidQuarrel$Cellar.softOf(LLaidQuarrel$Bottle;LLaidQuarrel$Laid;)I -/
def t_X1_softOf : List ME := [(0, 2, 0, 10, 0, []), (2, 3, 2, 0, 3, []), (3, 4, 0, 0, 0, []), (4, 6, 2, 0, 4, []), (6, 7, 0, 0, 0, []), (7, 9, 2, 0, 5, []), (9, 11, 1, 0, 5, []), (11, 12, 1, 1, 0, []), (12, 15, 16, 1, 2, []), (15, 18, 16, 3, 8, []), (18, 21, 7, 107, 3, []), (21, 22, 1, 1, 0, []), (22, 25, 16, 1, 2, []), (25, 27, 1, 0, 5, []), (27, 28, 0, 0, 0, []), (28, 31, 51, 17, 2, []), (31, 33, 2, 0, 6, []), (33, 34, 1, 1, 0, []), (34, 37, 16, 1, 2, []), (37, 39, 1, 0, 5, []), (39, 40, 0, 2, 0, []), (40, 43, 51, 17, 2, []), (43, 45, 2, 0, 7, []), (45, 47, 1, 0, 6, []), (47, 48, 0, 2, 0, []), (48, 51, 7, 97, 2, []), (51, 52, 1, 1, 0, []), (52, 54, 1, 0, 4, []), (54, 56, 1, 0, 7, []), (56, 57, 1, 1, 1, []), (57, 58, 1, 1, 2, []), (58, 61, 51, 18, 4, []), (61, 64, 6, 97, 0, []), (64, 65, 1, 0, 3, []), (65, 67, 1, 0, 6, []), (67, 68, 0, 2, 0, []), (68, 71, 7, 84, 1, []), (71, 72, 1, 1, 0, []), (72, 75, 16, 1, 2, []), (75, 77, 1, 0, 5, []), (77, 78, 0, 1, 0, []), (78, 81, 51, 17, 2, []), (81, 84, 10, 95, 0, []), (84, 85, 1, 1, 0, []), (85, 88, 16, 1, 2, []), (88, 90, 1, 0, 5, []), (90, 91, 0, 1, 0, []), (91, 94, 51, 17, 2, []), (94, 95, 5, 0, 0, []), (95, 96, 4, 0, 0, []), (96, 97, 2, 0, 3, []), (97, 99, 1, 0, 7, []), (99, 101, 2, 0, 4, []), (101, 104, 3, 5, 1, []), (104, 107, 10, 9, 0, []), (107, 108, 1, 1, 2, []), (108, 111, 16, 3, 6, []), (111, 112, 0, 0, 0, []), (112, 113, 1, 0, 3, []), (113, 116, 50, 230, 0, []), (116, 117, 4, 2, 0, []), (117, 119, 0, 20, 0, []), (119, 120, 4, 3, 0, []), (120, 121, 60, 0, 0, [])]
/-- 27: LaidQuarrel$Cellar.holds(IILLaidQuarrel$Bottle;LLaidQuarrel$Laid;)Z -/
def t_X1_holds : List ME := [(0, 1, 0, 0, 0, []), (1, 3, 2, 0, 5, []), (3, 4, 1, 0, 1, []), (4, 6, 2, 0, 6, []), (6, 8, 1, 0, 6, []), (8, 9, 1, 0, 2, []), (9, 12, 7, 124, 3, []), (12, 13, 1, 1, 0, []), (13, 16, 16, 2, 2, []), (16, 18, 1, 0, 6, []), (18, 19, 0, 0, 0, []), (19, 22, 51, 17, 2, []), (22, 56, 40, 94, 0, [(33, 56), (38, 65), (124, 80)]), (56, 58, 1, 0, 5, []), (58, 59, 0, 1, 0, []), (59, 60, 4, 7, 0, []), (60, 62, 2, 0, 5, []), (62, 65, 10, 118, 0, []), (65, 67, 1, 0, 5, []), (67, 68, 0, 1, 0, []), (68, 69, 4, 9, 0, []), (69, 71, 1, 0, 5, []), (71, 73, 0, (-2), 0, []), (73, 74, 4, 6, 0, []), (74, 75, 4, 5, 0, []), (75, 77, 2, 0, 5, []), (77, 80, 10, 118, 0, []), (80, 82, 1, 0, 5, []), (82, 83, 0, 1, 0, []), (83, 84, 4, 9, 0, []), (84, 86, 1, 0, 5, []), (86, 87, 0, 1, 0, []), (87, 88, 4, 5, 0, []), (88, 89, 4, 6, 0, []), (89, 91, 2, 0, 5, []), (91, 94, 10, 118, 0, []), (94, 96, 1, 0, 5, []), (96, 97, 0, 1, 0, []), (97, 98, 4, 8, 0, []), (98, 99, 1, 1, 0, []), (99, 101, 1, 0, 6, []), (101, 102, 1, 1, 3, []), (102, 104, 1, 1, 4, []), (104, 107, 51, 19, 3, []), (107, 110, 6, 114, 0, []), (110, 111, 0, 1, 0, []), (111, 114, 10, 115, 0, []), (114, 115, 0, 0, 0, []), (115, 116, 4, 6, 0, []), (116, 118, 2, 0, 5, []), (118, 121, 3, 6, 1, []), (121, 124, 10, 6, 0, []), (124, 126, 1, 0, 5, []), (126, 127, 0, 1, 0, []), (127, 128, 4, 5, 0, []), (128, 129, 0, 1, 0, []), (129, 132, 7, 136, 1, []), (132, 133, 0, 1, 0, []), (133, 136, 10, 137, 0, []), (136, 137, 0, 0, 0, []), (137, 138, 60, 0, 0, [])]
/-- 28: LaidQuarrel$Cellar.testHolds(ILLaidQuarrel$Bottle;LLaidQuarrel$Laid;)Z -/
def t_X1_testHolds : List ME := [(0, 1, 1, 1, 0, []), (1, 4, 16, 2, 2, []), (4, 5, 1, 0, 1, []), (5, 6, 0, 0, 0, []), (6, 9, 51, 17, 2, []), (9, 10, 1, 1, 2, []), (10, 11, 1, 1, 3, []), (11, 14, 50, 29, 0, []), (14, 16, 2, 0, 4, []), (16, 17, 1, 1, 0, []), (17, 20, 16, 2, 2, []), (20, 21, 1, 0, 1, []), (21, 22, 0, 2, 0, []), (22, 25, 51, 17, 2, []), (25, 27, 2, 0, 5, []), (27, 28, 1, 1, 0, []), (28, 31, 16, 2, 2, []), (31, 32, 1, 0, 1, []), (32, 33, 0, 1, 0, []), (33, 36, 51, 17, 2, []), (36, 64, 40, 90, 0, [(60, 64), (62, 77)]), (64, 66, 1, 0, 4, []), (66, 68, 1, 0, 5, []), (68, 71, 7, 75, 3, []), (71, 72, 0, 1, 0, []), (72, 75, 10, 76, 0, []), (75, 76, 0, 0, 0, []), (76, 77, 60, 0, 0, []), (77, 79, 1, 0, 4, []), (79, 81, 1, 0, 5, []), (81, 84, 7, 88, 5, []), (84, 85, 0, 1, 0, []), (85, 88, 10, 89, 0, []), (88, 89, 0, 0, 0, []), (89, 90, 60, 0, 0, []), (90, 92, 1, 0, 4, []), (92, 94, 1, 0, 5, []), (94, 97, 7, 101, 1, []), (97, 98, 0, 1, 0, []), (98, 101, 10, 102, 0, []), (101, 102, 0, 0, 0, []), (102, 103, 60, 0, 0, [])]
/-- 29: LaidQuarrel$Cellar.factOf(ILLaidQuarrel$Bottle;LLaidQuarrel$Laid;)I -/
def t_X1_factOf : List ME := [(0, 1, 1, 0, 0, []), (1, 52, 40, 80, 0, [(98, 52), (107, 57), (113, 75), (118, 62), (121, 67)]), (52, 53, 1, 1, 1, []), (53, 56, 16, 1, 1, []), (56, 57, 60, 0, 0, []), (57, 58, 1, 1, 1, []), (58, 61, 16, 0, 1, []), (61, 62, 60, 0, 0, []), (62, 63, 1, 1, 2, []), (63, 66, 16, 1, 6, []), (66, 67, 60, 0, 0, []), (67, 68, 1, 1, 2, []), (68, 71, 16, 3, 6, []), (71, 73, 0, 10, 0, []), (73, 74, 4, 3, 0, []), (74, 75, 60, 0, 0, []), (75, 76, 1, 1, 2, []), (76, 79, 16, 4, 6, []), (79, 80, 60, 0, 0, []), (80, 81, 1, 1, 2, []), (81, 84, 16, 2, 6, []), (84, 87, 50, 229, 0, []), (87, 89, 0, 10, 0, []), (89, 90, 4, 3, 0, []), (90, 91, 60, 0, 0, [])]
/-- 30: LaidQuarrel$Cellar.readText()I -/
def t_X1_readText : List ME := [(0, 1, 1, 1, 0, []), (1, 4, 16, 1, 2, []), (4, 7, 51, 20, 0, []), (7, 8, 1, 1, 0, []), (8, 11, 16, 2, 2, []), (11, 14, 51, 20, 0, []), (14, 15, 1, 1, 0, []), (15, 16, 0, 0, 0, []), (16, 19, 17, 3, 2, []), (19, 20, 0, 0, 0, []), (20, 21, 2, 0, 1, []), (21, 22, 1, 0, 1, []), (22, 24, 0, 10, 0, []), (24, 27, 7, 81, 3, []), (27, 28, 1, 1, 0, []), (28, 31, 51, 21, 0, []), (31, 34, 6, 39, 1, []), (34, 35, 1, 1, 0, []), (35, 38, 16, 3, 2, []), (38, 39, 60, 0, 0, []), (39, 40, 1, 1, 0, []), (40, 43, 16, 3, 2, []), (43, 44, 1, 1, 0, []), (44, 47, 16, 0, 2, []), (47, 50, 16, 3, 8, []), (50, 53, 7, 55, 2, []), (53, 54, 0, (-1), 0, []), (54, 55, 60, 0, 0, []), (55, 56, 1, 0, 1, []), (56, 58, 0, 9, 0, []), (58, 61, 7, 70, 0, []), (61, 62, 1, 1, 0, []), (62, 64, 0, 59, 0, []), (64, 67, 51, 22, 1, []), (67, 70, 6, 75, 1, []), (70, 71, 1, 1, 0, []), (71, 74, 16, 3, 2, []), (74, 75, 60, 0, 0, []), (75, 78, 3, 1, 1, []), (78, 81, 10, 21, 0, []), (81, 82, 1, 1, 0, []), (82, 85, 16, 3, 2, []), (85, 86, 60, 0, 0, [])]
/-- 31: LaidQuarrel$Cellar.readClause()Z -/
def t_X1_readClause : List ME := [(0, 1, 1, 1, 0, []), (1, 3, 0, 99, 0, []), (3, 6, 51, 22, 1, []), (6, 9, 6, 43, 0, []), (9, 10, 1, 1, 0, []), (10, 12, 35, 0, 0, []), (12, 15, 51, 23, 1, []), (15, 18, 6, 41, 0, []), (18, 19, 1, 1, 0, []), (19, 22, 51, 24, 0, []), (22, 25, 6, 41, 0, []), (25, 26, 1, 1, 0, []), (26, 27, 0, 0, 0, []), (27, 28, 1, 1, 0, []), (28, 31, 16, 4, 2, []), (31, 34, 51, 25, 2, []), (34, 37, 6, 41, 0, []), (37, 38, 0, 1, 0, []), (38, 41, 10, 42, 0, []), (41, 42, 0, 0, 0, []), (42, 43, 60, 0, 0, []), (43, 44, 1, 1, 0, []), (44, 46, 0, 112, 0, []), (46, 49, 51, 22, 1, []), (49, 52, 6, 86, 0, []), (52, 53, 1, 1, 0, []), (53, 55, 35, 1, 0, []), (55, 58, 51, 23, 1, []), (58, 61, 6, 84, 0, []), (61, 62, 1, 1, 0, []), (62, 65, 51, 24, 0, []), (65, 68, 6, 84, 0, []), (68, 69, 1, 1, 0, []), (69, 70, 0, 1, 0, []), (70, 71, 1, 1, 0, []), (71, 74, 16, 4, 2, []), (74, 77, 51, 25, 2, []), (77, 80, 6, 84, 0, []), (80, 81, 0, 1, 0, []), (81, 84, 10, 85, 0, []), (84, 85, 0, 0, 0, []), (85, 86, 60, 0, 0, []), (86, 87, 1, 1, 0, []), (87, 89, 0, 115, 0, []), (89, 92, 51, 22, 1, []), (92, 95, 6, 97, 1, []), (95, 96, 0, 0, 0, []), (96, 97, 60, 0, 0, []), (97, 98, 1, 1, 0, []), (98, 101, 16, 0, 2, []), (101, 102, 1, 1, 0, []), (102, 105, 16, 3, 2, []), (105, 106, 0, 0, 0, []), (106, 109, 51, 17, 2, []), (109, 111, 0, 111, 0, []), (111, 114, 7, 118, 1, []), (114, 115, 0, 2, 0, []), (115, 118, 10, 119, 0, []), (118, 119, 0, 3, 0, []), (119, 120, 2, 0, 1, []), (120, 121, 1, 1, 0, []), (121, 122, 1, 0, 1, []), (122, 123, 0, 2, 0, []), (123, 126, 7, 131, 1, []), (126, 128, 35, 2, 0, []), (128, 131, 10, 133, 0, []), (131, 133, 35, 3, 0, []), (133, 136, 51, 23, 1, []), (136, 139, 6, 146, 0, []), (139, 140, 1, 1, 0, []), (140, 143, 51, 24, 0, []), (143, 146, 6, 148, 1, []), (146, 147, 0, 0, 0, []), (147, 148, 60, 0, 0, []), (148, 149, 1, 1, 0, []), (149, 152, 16, 4, 2, []), (152, 153, 2, 0, 2, []), (153, 154, 1, 1, 0, []), (154, 156, 0, 32, 0, []), (156, 159, 51, 22, 1, []), (159, 162, 6, 183, 0, []), (162, 163, 1, 1, 0, []), (163, 164, 0, 0, 0, []), (164, 167, 51, 26, 1, []), (167, 170, 6, 183, 0, []), (170, 171, 1, 1, 0, []), (171, 172, 1, 0, 1, []), (172, 173, 1, 0, 2, []), (173, 176, 51, 25, 2, []), (176, 179, 6, 183, 0, []), (179, 180, 0, 1, 0, []), (180, 183, 10, 184, 0, []), (183, 184, 0, 0, 0, []), (184, 185, 60, 0, 0, [])]
/-- 32: LaidQuarrel$Cellar.addClause(II)Z -/
def t_X1_addClause : List ME := [(0, 1, 1, 1, 0, []), (1, 4, 16, 1, 2, []), (4, 5, 1, 0, 1, []), (5, 6, 1, 0, 2, []), (6, 7, 1, 1, 0, []), (7, 10, 16, 2, 2, []), (10, 13, 16, 3, 8, []), (13, 16, 51, 27, 3, []), (16, 17, 60, 0, 0, [])]
/-- 33: LaidQuarrel$Cellar.readEither(I)Z -/
def t_X1_readEither : List ME := [(0, 1, 0, 0, 0, []), (1, 2, 2, 0, 2, []), (2, 3, 1, 0, 2, []), (3, 5, 0, 100, 0, []), (5, 8, 7, 93, 3, []), (8, 9, 0, 0, 0, []), (9, 10, 2, 0, 3, []), (10, 11, 1, 0, 3, []), (11, 13, 0, 100, 0, []), (13, 16, 7, 60, 3, []), (16, 17, 1, 1, 0, []), (17, 18, 1, 0, 1, []), (18, 21, 51, 28, 1, []), (21, 24, 6, 26, 1, []), (24, 25, 0, 0, 0, []), (25, 26, 60, 0, 0, []), (26, 27, 1, 0, 3, []), (27, 30, 6, 42, 5, []), (30, 31, 1, 1, 0, []), (31, 34, 16, 2, 2, []), (34, 36, 0, 38, 0, []), (36, 37, 0, 0, 0, []), (37, 38, 0, 0, 0, []), (38, 41, 51, 27, 3, []), (41, 42, 12, 0, 0, []), (42, 43, 1, 1, 0, []), (43, 45, 0, 38, 0, []), (45, 48, 51, 22, 1, []), (48, 51, 6, 54, 1, []), (51, 54, 10, 60, 0, []), (54, 57, 3, 3, 1, []), (57, 60, 10, 10, 0, []), (60, 61, 1, 0, 2, []), (61, 64, 6, 76, 5, []), (64, 65, 1, 1, 0, []), (65, 68, 16, 2, 2, []), (68, 70, 0, 124, 0, []), (70, 71, 0, 0, 0, []), (71, 72, 0, 0, 0, []), (72, 75, 51, 27, 3, []), (75, 76, 12, 0, 0, []), (76, 77, 1, 1, 0, []), (77, 79, 0, 124, 0, []), (79, 82, 51, 22, 1, []), (82, 85, 6, 87, 1, []), (85, 86, 0, 1, 0, []), (86, 87, 60, 0, 0, []), (87, 90, 3, 2, 1, []), (90, 93, 10, 2, 0, []), (93, 94, 0, 0, 0, []), (94, 95, 60, 0, 0, [])]
/-- 34: LaidQuarrel$Cellar.readFactor(I)Z -/
def t_X1_readFactor : List ME := [(0, 1, 1, 0, 1, []), (1, 2, 2, 0, 2, []), (2, 3, 1, 0, 1, []), (3, 4, 2, 0, 3, []), (4, 5, 1, 0, 3, []), (5, 6, 0, 5, 0, []), (6, 9, 7, 27, 3, []), (9, 10, 1, 1, 0, []), (10, 12, 0, 33, 0, []), (12, 15, 51, 22, 1, []), (15, 18, 6, 27, 0, []), (18, 21, 3, 2, 1, []), (21, 24, 3, 3, 1, []), (24, 27, 10, 4, 0, []), (27, 28, 1, 1, 0, []), (28, 31, 16, 0, 2, []), (31, 32, 1, 1, 0, []), (32, 35, 16, 3, 2, []), (35, 36, 0, 0, 0, []), (36, 39, 51, 17, 2, []), (39, 41, 0, 40, 0, []), (41, 44, 7, 55, 1, []), (44, 45, 1, 1, 0, []), (45, 46, 1, 0, 2, []), (46, 49, 51, 29, 1, []), (49, 52, 6, 62, 0, []), (52, 55, 10, 64, 0, []), (55, 56, 1, 1, 0, []), (56, 59, 51, 30, 0, []), (59, 62, 6, 64, 1, []), (62, 63, 0, 0, 0, []), (63, 64, 60, 0, 0, []), (64, 65, 1, 0, 1, []), (65, 66, 2, 0, 3, []), (66, 67, 1, 0, 3, []), (67, 68, 1, 0, 2, []), (68, 71, 7, 89, 3, []), (71, 72, 1, 1, 0, []), (72, 75, 16, 2, 2, []), (75, 77, 0, 33, 0, []), (77, 78, 0, 0, 0, []), (78, 79, 0, 0, 0, []), (79, 82, 51, 27, 3, []), (82, 83, 12, 0, 0, []), (83, 86, 3, 3, 1, []), (86, 89, 10, 66, 0, []), (89, 90, 0, 1, 0, []), (90, 91, 60, 0, 0, [])]
/-- 35: LaidQuarrel$Cellar.readBracket(I)Z -/
def t_X1_readBracket : List ME := [(0, 1, 1, 0, 1, []), (1, 2, 0, 5, 0, []), (2, 5, 7, 37, 3, []), (5, 6, 1, 1, 0, []), (6, 8, 0, 40, 0, []), (8, 11, 51, 22, 1, []), (11, 14, 6, 37, 0, []), (14, 15, 1, 1, 0, []), (15, 16, 1, 0, 1, []), (16, 17, 0, 1, 0, []), (17, 18, 4, 0, 0, []), (18, 21, 51, 26, 1, []), (21, 24, 6, 37, 0, []), (24, 25, 1, 1, 0, []), (25, 27, 0, 41, 0, []), (27, 30, 51, 22, 1, []), (30, 33, 6, 37, 0, []), (33, 34, 0, 1, 0, []), (34, 37, 10, 38, 0, []), (37, 38, 0, 0, 0, []), (38, 39, 60, 0, 0, [])]
/-- 36: LaidQuarrel$Cellar.readTest()Z -/
def t_X1_readTest : List ME := [(0, 1, 1, 1, 0, []), (1, 4, 16, 0, 2, []), (4, 5, 1, 1, 0, []), (5, 8, 16, 3, 2, []), (8, 9, 0, 0, 0, []), (9, 12, 51, 17, 2, []), (12, 13, 2, 0, 1, []), (13, 14, 1, 0, 1, []), (14, 17, 50, 37, 0, []), (17, 20, 6, 22, 1, []), (20, 21, 0, 0, 0, []), (21, 22, 60, 0, 0, []), (22, 23, 1, 1, 0, []), (23, 24, 11, 0, 0, []), (24, 27, 16, 3, 2, []), (27, 28, 0, 1, 0, []), (28, 29, 4, 0, 0, []), (29, 32, 17, 3, 2, []), (32, 33, 1, 1, 0, []), (33, 36, 16, 0, 2, []), (36, 37, 1, 1, 0, []), (37, 40, 16, 3, 2, []), (40, 41, 0, 0, 0, []), (41, 44, 51, 17, 2, []), (44, 45, 2, 0, 2, []), (45, 46, 1, 0, 2, []), (46, 48, 0, 60, 0, []), (48, 51, 7, 65, 0, []), (51, 52, 1, 0, 2, []), (52, 54, 0, 61, 0, []), (54, 57, 7, 65, 0, []), (57, 58, 1, 0, 2, []), (58, 60, 0, 62, 0, []), (60, 63, 7, 65, 0, []), (63, 64, 0, 0, 0, []), (64, 65, 60, 0, 0, []), (65, 66, 1, 1, 0, []), (66, 67, 11, 0, 0, []), (67, 70, 16, 3, 2, []), (70, 71, 0, 1, 0, []), (71, 72, 4, 0, 0, []), (72, 75, 17, 3, 2, []), (75, 76, 1, 1, 0, []), (76, 79, 51, 24, 0, []), (79, 82, 6, 102, 0, []), (82, 83, 1, 1, 0, []), (83, 86, 16, 2, 2, []), (86, 87, 1, 0, 1, []), (87, 88, 1, 0, 2, []), (88, 89, 1, 1, 0, []), (89, 92, 16, 4, 2, []), (92, 95, 51, 27, 3, []), (95, 98, 6, 102, 0, []), (98, 99, 0, 1, 0, []), (99, 102, 10, 103, 0, []), (102, 103, 0, 0, 0, []), (103, 104, 60, 0, 0, [])]
/-- 37: LaidQuarrel$Cellar.isLetter(I)Z -/
def t_X1_isLetter : List ME := [(0, 1, 1, 0, 0, []), (1, 3, 0, 98, 0, []), (3, 6, 7, 36, 0, []), (6, 7, 1, 0, 0, []), (7, 9, 0, 107, 0, []), (9, 12, 7, 36, 0, []), (12, 13, 1, 0, 0, []), (13, 15, 0, 118, 0, []), (15, 18, 7, 36, 0, []), (18, 19, 1, 0, 0, []), (19, 21, 0, 121, 0, []), (21, 24, 7, 36, 0, []), (24, 25, 1, 0, 0, []), (25, 27, 0, 113, 0, []), (27, 30, 7, 36, 0, []), (30, 31, 1, 0, 0, []), (31, 33, 0, 119, 0, []), (33, 36, 7, 40, 1, []), (36, 37, 0, 1, 0, []), (37, 40, 10, 41, 0, []), (40, 41, 0, 0, 0, []), (41, 42, 60, 0, 0, [])]
/-- 38: LaidQuarrel$Cellar.readNumber()Z -/
def t_X1_readNumber : List ME := [(0, 1, 1, 1, 0, []), (1, 4, 16, 0, 2, []), (4, 5, 1, 1, 0, []), (5, 8, 16, 3, 2, []), (8, 9, 0, 0, 0, []), (9, 12, 51, 17, 2, []), (12, 13, 2, 0, 1, []), (13, 14, 1, 0, 1, []), (14, 16, 0, 48, 0, []), (16, 18, 0, 57, 0, []), (18, 21, 50, 111, 0, []), (21, 24, 6, 26, 1, []), (24, 25, 0, 0, 0, []), (25, 26, 60, 0, 0, []), (26, 27, 1, 1, 0, []), (27, 28, 11, 0, 0, []), (28, 31, 16, 3, 2, []), (31, 32, 0, 1, 0, []), (32, 33, 4, 0, 0, []), (33, 36, 17, 3, 2, []), (36, 37, 1, 1, 0, []), (37, 38, 1, 0, 1, []), (38, 40, 0, 48, 0, []), (40, 41, 4, 1, 0, []), (41, 44, 17, 4, 2, []), (44, 45, 1, 1, 0, []), (45, 48, 16, 0, 2, []), (48, 49, 1, 1, 0, []), (49, 52, 16, 3, 2, []), (52, 53, 0, 0, 0, []), (53, 56, 51, 17, 2, []), (56, 57, 2, 0, 2, []), (57, 58, 1, 0, 1, []), (58, 60, 0, 48, 0, []), (60, 63, 7, 100, 0, []), (63, 64, 1, 0, 2, []), (64, 66, 0, 48, 0, []), (66, 68, 0, 57, 0, []), (68, 71, 50, 111, 0, []), (71, 74, 6, 100, 0, []), (74, 75, 1, 1, 0, []), (75, 76, 11, 0, 0, []), (76, 79, 16, 3, 2, []), (79, 80, 0, 1, 0, []), (80, 81, 4, 0, 0, []), (81, 84, 17, 3, 2, []), (84, 85, 1, 1, 0, []), (85, 87, 0, 10, 0, []), (87, 88, 1, 1, 0, []), (88, 91, 16, 4, 2, []), (91, 92, 4, 2, 0, []), (92, 93, 1, 0, 2, []), (93, 94, 4, 0, 0, []), (94, 96, 0, 48, 0, []), (96, 97, 4, 1, 0, []), (97, 100, 17, 4, 2, []), (100, 101, 0, 1, 0, []), (101, 102, 60, 0, 0, [])]
/-- 39: LaidQuarrel$Cellar.takes(I)Z -/
def t_X1_takes : List ME := [(0, 1, 1, 1, 0, []), (1, 4, 16, 0, 2, []), (4, 5, 1, 1, 0, []), (5, 8, 16, 3, 2, []), (8, 9, 0, 0, 0, []), (9, 12, 51, 17, 2, []), (12, 13, 1, 0, 1, []), (13, 16, 7, 18, 0, []), (16, 17, 0, 0, 0, []), (17, 18, 60, 0, 0, []), (18, 19, 1, 1, 0, []), (19, 20, 11, 0, 0, []), (20, 23, 16, 3, 2, []), (23, 24, 0, 1, 0, []), (24, 25, 4, 0, 0, []), (25, 28, 17, 3, 2, []), (28, 29, 0, 1, 0, []), (29, 30, 60, 0, 0, [])]
/-- 40: LaidQuarrel$Cellar.takesAll(Ljava/lang/String;)Z -/
def t_X1_takesAll : List ME := [(0, 1, 0, 0, 0, []), (1, 2, 2, 0, 2, []), (2, 3, 1, 0, 2, []), (3, 4, 1, 1, 1, []), (4, 7, 52, 0, 1, []), (7, 10, 7, 30, 3, []), (10, 11, 1, 1, 0, []), (11, 12, 1, 1, 1, []), (12, 13, 1, 0, 2, []), (13, 16, 52, 1, 2, []), (16, 19, 51, 22, 1, []), (19, 22, 6, 24, 1, []), (22, 23, 0, 0, 0, []), (23, 24, 60, 0, 0, []), (24, 27, 3, 2, 1, []), (27, 30, 10, 2, 0, []), (30, 31, 0, 1, 0, []), (31, 32, 60, 0, 0, [])]
/-- 41: LaidQuarrel$Corked.<init>(IILLaidQuarrel$Shelf;)V -/
def t_X2_init : List ME := [(0, 1, 1, 1, 0, []), (1, 2, 1, 0, 1, []), (2, 3, 1, 0, 2, []), (3, 4, 1, 1, 3, []), (4, 7, 51, 31, 3, []), (7, 8, 63, 0, 0, [])]
/-- 42: LaidQuarrel$Corked.spoken(LLaidQuarrel$Laid;I)I -/
def t_X2_spoken : List ME := [(0, 1, 1, 1, 0, []), (1, 2, 1, 1, 1, []), (2, 3, 1, 0, 2, []), (3, 6, 51, 32, 2, []), (6, 7, 2, 0, 3, []), (7, 8, 1, 1, 1, []), (8, 11, 16, 4, 6, []), (11, 12, 0, 2, 0, []), (12, 13, 4, 4, 0, []), (13, 14, 0, 1, 0, []), (14, 17, 7, 22, 1, []), (17, 18, 1, 0, 3, []), (18, 19, 5, 0, 0, []), (19, 22, 10, 23, 0, []), (22, 23, 1, 0, 3, []), (23, 24, 60, 0, 0, [])]
/-- 43: LaidQuarrel$Corked.tells(I)I -/
def t_X2_tells : List ME := [(0, 1, 1, 1, 0, []), (1, 4, 16, 2, 3, []), (4, 6, 0, 31, 0, []), (6, 7, 0, 0, 0, []), (7, 8, 0, 0, 0, []), (8, 11, 51, 33, 3, []), (11, 12, 12, 0, 0, []), (12, 13, 1, 1, 0, []), (13, 14, 1, 0, 1, []), (14, 17, 51, 34, 1, []), (17, 19, 0, 7, 0, []), (19, 20, 4, 7, 0, []), (20, 21, 60, 0, 0, [])]
/-- 44: LaidQuarrel$Feud.<init>(IILLaidQuarrel$Shelf;)V -/
def t_X3_init : List ME := [(0, 1, 1, 1, 0, []), (1, 2, 1, 0, 1, []), (2, 3, 1, 0, 2, []), (3, 4, 1, 1, 3, []), (4, 7, 51, 35, 3, []), (7, 8, 63, 0, 0, [])]
/-- 45: LaidQuarrel$Feud.spoken(LLaidQuarrel$Laid;I)I -/
def t_X3_spoken : List ME := [(0, 1, 1, 1, 0, []), (1, 2, 1, 1, 1, []), (2, 3, 1, 0, 2, []), (3, 6, 51, 36, 2, []), (6, 7, 2, 0, 3, []), (7, 8, 1, 1, 1, []), (8, 11, 16, 3, 6, []), (11, 13, 0, 40, 0, []), (13, 16, 7, 25, 5, []), (16, 17, 1, 0, 3, []), (17, 18, 1, 1, 1, []), (18, 21, 16, 1, 6, []), (21, 22, 4, 1, 0, []), (22, 25, 10, 26, 0, []), (25, 26, 1, 0, 3, []), (26, 27, 60, 0, 0, [])]
/-- 46: LaidQuarrel$Feud.tells(I)I -/
def t_X3_tells : List ME := [(0, 1, 1, 1, 0, []), (1, 4, 16, 2, 4, []), (4, 6, 0, 41, 0, []), (6, 7, 0, 0, 0, []), (7, 8, 0, 0, 0, []), (8, 11, 51, 37, 3, []), (11, 12, 12, 0, 0, []), (12, 13, 1, 1, 0, []), (13, 14, 1, 0, 1, []), (14, 15, 0, 1, 0, []), (15, 16, 4, 1, 0, []), (16, 19, 51, 38, 1, []), (19, 20, 1, 1, 0, []), (20, 21, 0, 2, 0, []), (21, 24, 51, 39, 1, []), (24, 25, 4, 0, 0, []), (25, 26, 60, 0, 0, [])]
/-- 47: LaidQuarrel$Hard.<init>(IILLaidQuarrel$Shelf;)V -/
def t_X4_init : List ME := [(0, 1, 1, 1, 0, []), (1, 2, 1, 0, 1, []), (2, 3, 1, 0, 2, []), (3, 4, 1, 1, 3, []), (4, 7, 51, 40, 3, []), (7, 8, 63, 0, 0, [])]
/-- 48: LaidQuarrel$Hard.spoken(LLaidQuarrel$Laid;I)I -/
def t_X4_spoken : List ME := [(0, 1, 1, 1, 1, []), (1, 4, 16, 2, 6, []), (4, 5, 1, 0, 2, []), (5, 6, 0, 2, 0, []), (6, 7, 4, 3, 0, []), (7, 10, 50, 113, 0, []), (10, 11, 60, 0, 0, [])]
/-- 49: LaidQuarrel$Hard.utters(I)I -/
def t_X4_utters : List ME := [(0, 1, 1, 1, 0, []), (1, 4, 16, 2, 5, []), (4, 6, 0, 11, 0, []), (6, 7, 0, 0, 0, []), (7, 8, 0, 0, 0, []), (8, 11, 51, 41, 3, []), (11, 12, 12, 0, 0, []), (12, 13, 1, 1, 0, []), (13, 14, 1, 0, 1, []), (14, 15, 0, 3, 0, []), (15, 16, 4, 2, 0, []), (16, 19, 51, 42, 1, []), (19, 20, 60, 0, 0, [])]
/-- 50: LaidQuarrel$Laid.<init>()V -/
def t_X5_init : List ME := [(0, 1, 1, 1, 0, []), (1, 4, 53, 0, 0, []), (4, 5, 1, 1, 0, []), (5, 6, 0, 4, 0, []), (6, 8, 26, 20, 0, []), (8, 11, 17, 0, 6, []), (11, 12, 63, 0, 0, [])]
/-- 51: LaidQuarrel$Laid.copyFrom(LLaidQuarrel$Laid;)V -/
def t_X5_copyFrom : List ME := [(0, 1, 1, 1, 0, []), (1, 2, 1, 1, 1, []), (2, 5, 16, 1, 6, []), (5, 8, 17, 1, 6, []), (8, 9, 1, 1, 0, []), (9, 10, 1, 1, 1, []), (10, 13, 16, 2, 6, []), (13, 16, 17, 2, 6, []), (16, 17, 1, 1, 0, []), (17, 18, 1, 1, 1, []), (18, 21, 16, 3, 6, []), (21, 24, 17, 3, 6, []), (24, 25, 1, 1, 0, []), (25, 26, 1, 1, 1, []), (26, 29, 16, 4, 6, []), (29, 32, 17, 4, 6, []), (32, 33, 1, 1, 0, []), (33, 34, 1, 1, 1, []), (34, 37, 16, 5, 6, []), (37, 40, 17, 5, 6, []), (40, 41, 1, 1, 1, []), (41, 44, 16, 0, 6, []), (44, 45, 1, 1, 0, []), (45, 48, 16, 0, 6, []), (48, 51, 50, 66, 0, []), (51, 52, 63, 0, 0, [])]
/-- 52: LaidQuarrel$Laid.age(I)V -/
def t_X5_age : List ME := [(0, 1, 1, 1, 0, []), (1, 4, 16, 5, 6, []), (4, 7, 6, 23, 1, []), (7, 8, 1, 1, 0, []), (8, 11, 0, 199, 0, []), (11, 12, 1, 1, 0, []), (12, 15, 16, 3, 6, []), (15, 16, 1, 0, 1, []), (16, 17, 4, 0, 0, []), (17, 20, 50, 231, 0, []), (20, 23, 17, 3, 6, []), (23, 24, 63, 0, 0, [])]
/-- 53: LaidQuarrel$Laid.tell(II)I -/
def t_X5_tell : List ME := [(0, 1, 1, 0, 1, []), (1, 4, 6, 13, 2, []), (4, 5, 1, 0, 1, []), (5, 6, 1, 1, 0, []), (6, 9, 16, 0, 6, []), (9, 10, 24, 0, 0, []), (10, 13, 7, 15, 2, []), (13, 14, 0, (-1), 0, []), (14, 15, 60, 0, 0, []), (15, 16, 1, 1, 0, []), (16, 19, 16, 0, 6, []), (19, 20, 1, 0, 1, []), (20, 21, 18, 0, 0, []), (21, 22, 2, 0, 3, []), (22, 23, 1, 1, 0, []), (23, 26, 16, 0, 6, []), (26, 27, 1, 0, 1, []), (27, 28, 1, 0, 2, []), (28, 29, 19, 0, 0, []), (29, 30, 1, 0, 3, []), (30, 31, 60, 0, 0, [])]
/-- 54: LaidQuarrel$Laid.telling()I -/
def t_X5_telling : List ME := [(0, 1, 1, 1, 0, []), (1, 4, 16, 4, 6, []), (4, 7, 6, 31, 2, []), (7, 8, 1, 1, 0, []), (8, 11, 16, 4, 6, []), (11, 12, 1, 1, 0, []), (12, 15, 16, 0, 6, []), (15, 16, 24, 0, 0, []), (16, 19, 7, 31, 3, []), (19, 20, 1, 1, 0, []), (20, 23, 16, 0, 6, []), (23, 24, 1, 1, 0, []), (24, 27, 16, 4, 6, []), (27, 28, 18, 0, 0, []), (28, 31, 10, 32, 0, []), (31, 32, 0, 0, 0, []), (32, 33, 60, 0, 0, [])]
/-- 55: LaidQuarrel$Love.<init>(IILLaidQuarrel$Shelf;)V -/
def t_X6_init : List ME := [(0, 1, 1, 1, 0, []), (1, 2, 1, 0, 1, []), (2, 3, 1, 0, 2, []), (3, 4, 1, 1, 3, []), (4, 7, 51, 43, 3, []), (7, 8, 63, 0, 0, [])]
/-- 56: LaidQuarrel$Love.spoken(LLaidQuarrel$Laid;I)I -/
def t_X6_spoken : List ME := [(0, 1, 1, 1, 0, []), (1, 2, 1, 1, 1, []), (2, 3, 1, 0, 2, []), (3, 6, 51, 44, 2, []), (6, 7, 2, 0, 3, []), (7, 8, 1, 1, 1, []), (8, 11, 16, 2, 6, []), (11, 14, 6, 32, 5, []), (14, 15, 1, 1, 1, []), (15, 18, 16, 3, 6, []), (18, 20, 0, 30, 0, []), (20, 23, 7, 32, 5, []), (23, 24, 1, 0, 3, []), (24, 25, 1, 1, 1, []), (25, 28, 16, 1, 6, []), (28, 29, 4, 1, 0, []), (29, 32, 10, 33, 0, []), (32, 33, 1, 0, 3, []), (33, 34, 60, 0, 0, [])]
/-- 57: LaidQuarrel$Love.utters(I)I -/
def t_X6_utters : List ME := [(0, 1, 1, 1, 0, []), (1, 4, 16, 2, 7, []), (4, 6, 0, 51, 0, []), (6, 7, 0, 0, 0, []), (7, 8, 0, 0, 0, []), (8, 11, 51, 45, 3, []), (11, 12, 12, 0, 0, []), (12, 13, 1, 1, 0, []), (13, 14, 1, 0, 1, []), (14, 17, 51, 46, 1, []), (17, 18, 1, 1, 0, []), (18, 21, 16, 1, 7, []), (21, 22, 4, 7, 0, []), (22, 23, 60, 0, 0, [])]
/-- 58: LaidQuarrel$Shelf.<init>(II)V -/
def t_X7_init : List ME := [(0, 1, 1, 1, 0, []), (1, 4, 53, 0, 0, []), (4, 5, 1, 1, 0, []), (5, 6, 1, 0, 1, []), (6, 9, 17, 0, 8, []), (9, 10, 1, 1, 0, []), (10, 11, 0, 0, 0, []), (11, 12, 1, 0, 1, []), (12, 13, 1, 0, 2, []), (13, 14, 4, 2, 0, []), (14, 17, 50, 230, 0, []), (17, 19, 26, 20, 0, []), (19, 22, 17, 1, 8, []), (22, 23, 1, 1, 0, []), (23, 24, 1, 1, 0, []), (24, 27, 16, 1, 8, []), (27, 28, 24, 0, 0, []), (28, 30, 26, 20, 0, []), (30, 33, 17, 2, 8, []), (33, 34, 63, 0, 0, [])]
/-- 59: LaidQuarrel$Shelf.add(III)Z -/
def t_X7_add : List ME := [(0, 1, 1, 1, 0, []), (1, 4, 16, 3, 8, []), (4, 5, 1, 1, 0, []), (5, 8, 16, 0, 8, []), (8, 9, 4, 2, 0, []), (9, 11, 2, 0, 4, []), (11, 13, 1, 0, 4, []), (13, 16, 6, 31, 2, []), (16, 18, 1, 0, 4, []), (18, 19, 1, 1, 0, []), (19, 22, 16, 0, 8, []), (22, 23, 4, 0, 0, []), (23, 24, 1, 1, 0, []), (24, 27, 16, 1, 8, []), (27, 28, 24, 0, 0, []), (28, 31, 7, 33, 5, []), (31, 32, 0, 0, 0, []), (32, 33, 60, 0, 0, []), (33, 34, 0, 0, 0, []), (34, 36, 2, 0, 5, []), (36, 38, 1, 0, 5, []), (38, 39, 1, 1, 0, []), (39, 42, 16, 0, 8, []), (42, 45, 7, 94, 3, []), (45, 47, 1, 0, 4, []), (47, 49, 1, 0, 5, []), (49, 50, 4, 0, 0, []), (50, 51, 1, 1, 0, []), (51, 54, 16, 1, 8, []), (54, 55, 24, 0, 0, []), (55, 58, 7, 94, 3, []), (58, 59, 1, 1, 0, []), (59, 62, 16, 1, 8, []), (62, 64, 1, 0, 4, []), (64, 66, 1, 0, 5, []), (66, 67, 4, 0, 0, []), (67, 69, 1, 0, 5, []), (69, 72, 6, 76, 1, []), (72, 73, 1, 0, 1, []), (73, 76, 10, 87, 0, []), (76, 78, 1, 0, 5, []), (78, 79, 0, 1, 0, []), (79, 82, 7, 86, 1, []), (82, 83, 1, 0, 2, []), (83, 86, 10, 87, 0, []), (86, 87, 1, 0, 3, []), (87, 88, 19, 0, 0, []), (88, 91, 3, 5, 1, []), (91, 94, 10, 36, 0, []), (94, 95, 1, 1, 0, []), (95, 96, 11, 0, 0, []), (96, 99, 16, 3, 8, []), (99, 100, 0, 1, 0, []), (100, 101, 4, 0, 0, []), (101, 104, 17, 3, 8, []), (104, 105, 0, 1, 0, []), (105, 106, 60, 0, 0, [])]
/-- 60: LaidQuarrel$Shelf.at(II)I -/
def t_X7_at : List ME := [(0, 1, 1, 0, 1, []), (1, 4, 6, 24, 2, []), (4, 5, 1, 0, 1, []), (5, 6, 1, 1, 0, []), (6, 9, 16, 3, 8, []), (9, 12, 7, 24, 3, []), (12, 13, 1, 0, 2, []), (13, 16, 6, 24, 2, []), (16, 17, 1, 0, 2, []), (17, 18, 1, 1, 0, []), (18, 21, 16, 0, 8, []), (21, 24, 7, 26, 2, []), (24, 25, 0, 0, 0, []), (25, 26, 60, 0, 0, []), (26, 27, 1, 0, 1, []), (27, 28, 1, 1, 0, []), (28, 31, 16, 0, 8, []), (31, 32, 4, 2, 0, []), (32, 33, 1, 0, 2, []), (33, 34, 4, 0, 0, []), (34, 35, 2, 0, 3, []), (35, 36, 1, 0, 3, []), (36, 39, 6, 57, 2, []), (39, 40, 1, 0, 3, []), (40, 41, 1, 1, 0, []), (41, 44, 16, 1, 8, []), (44, 45, 24, 0, 0, []), (45, 48, 7, 57, 3, []), (48, 49, 1, 1, 0, []), (49, 52, 16, 1, 8, []), (52, 53, 1, 0, 3, []), (53, 54, 18, 0, 0, []), (54, 57, 10, 58, 0, []), (57, 58, 0, 0, 0, []), (58, 59, 60, 0, 0, [])]
/-- 61: LaidQuarrel$Shelf.put(II)V -/
def t_X7_put : List ME := [(0, 1, 1, 0, 1, []), (1, 2, 1, 1, 0, []), (2, 5, 16, 0, 8, []), (5, 6, 4, 2, 0, []), (6, 7, 2, 0, 3, []), (7, 8, 1, 0, 1, []), (8, 11, 6, 39, 2, []), (11, 12, 1, 0, 1, []), (12, 13, 1, 1, 0, []), (13, 16, 16, 3, 8, []), (16, 19, 7, 39, 3, []), (19, 20, 1, 0, 3, []), (20, 23, 6, 39, 2, []), (23, 24, 1, 0, 3, []), (24, 25, 1, 1, 0, []), (25, 28, 16, 1, 8, []), (28, 29, 24, 0, 0, []), (29, 32, 7, 39, 3, []), (32, 33, 1, 1, 0, []), (33, 36, 16, 1, 8, []), (36, 37, 1, 0, 3, []), (37, 38, 1, 0, 2, []), (38, 39, 19, 0, 0, []), (39, 40, 63, 0, 0, [])]
/-- 62: LaidQuarrel$Shelf.clear()V -/
def t_X7_clear : List ME := [(0, 1, 1, 1, 0, []), (1, 2, 0, 0, 0, []), (2, 5, 17, 3, 8, []), (5, 6, 63, 0, 0, [])]
/-- 63: LaidQuarrel$Shelf.copyFrom(LLaidQuarrel$Shelf;)V -/
def t_X7_copyFrom : List ME := [(0, 1, 1, 1, 0, []), (1, 2, 1, 1, 1, []), (2, 5, 16, 3, 8, []), (5, 8, 17, 3, 8, []), (8, 9, 1, 1, 1, []), (9, 12, 16, 1, 8, []), (12, 13, 1, 1, 0, []), (13, 16, 16, 1, 8, []), (16, 19, 50, 66, 0, []), (19, 20, 63, 0, 0, [])]
/-- 64: LaidQuarrel$Shelf.keep()V -/
def t_X7_keep : List ME := [(0, 1, 1, 1, 0, []), (1, 2, 1, 1, 0, []), (2, 5, 16, 3, 8, []), (5, 8, 17, 4, 8, []), (8, 9, 1, 1, 0, []), (9, 12, 16, 1, 8, []), (12, 13, 1, 1, 0, []), (13, 16, 16, 2, 8, []), (16, 19, 50, 66, 0, []), (19, 20, 63, 0, 0, [])]
/-- 65: LaidQuarrel$Shelf.restore()V -/
def t_X7_restore : List ME := [(0, 1, 1, 1, 0, []), (1, 2, 1, 1, 0, []), (2, 5, 16, 4, 8, []), (5, 8, 17, 3, 8, []), (8, 9, 1, 1, 0, []), (9, 12, 16, 2, 8, []), (12, 13, 1, 1, 0, []), (13, 16, 16, 1, 8, []), (16, 19, 50, 66, 0, []), (19, 20, 63, 0, 0, [])]
/-- 66: LaidQuarrel$Shelf.copy([I[I)V -/
def t_X7_copy : List ME := [(0, 1, 0, 0, 0, []), (1, 2, 2, 0, 2, []), (2, 3, 1, 0, 2, []), (3, 4, 1, 1, 0, []), (4, 5, 24, 0, 0, []), (5, 8, 7, 26, 3, []), (8, 9, 1, 0, 2, []), (9, 10, 1, 1, 1, []), (10, 11, 24, 0, 0, []), (11, 14, 7, 26, 3, []), (14, 15, 1, 1, 1, []), (15, 16, 1, 0, 2, []), (16, 17, 1, 1, 0, []), (17, 18, 1, 0, 2, []), (18, 19, 18, 0, 0, []), (19, 20, 19, 0, 0, []), (20, 23, 3, 2, 1, []), (23, 26, 10, 2, 0, []), (26, 27, 63, 0, 0, [])]
/-- 67: LaidQuarrel$Sweet.<init>(IILLaidQuarrel$Shelf;)V -/
def t_X8_init : List ME := [(0, 1, 1, 1, 0, []), (1, 2, 1, 0, 1, []), (2, 3, 1, 0, 2, []), (3, 4, 1, 1, 3, []), (4, 7, 51, 47, 3, []), (7, 8, 63, 0, 0, [])]
/-- 68: LaidQuarrel$Sweet.spoken(LLaidQuarrel$Laid;I)I -/
def t_X8_spoken : List ME := [(0, 1, 1, 1, 1, []), (1, 4, 16, 2, 6, []), (4, 5, 1, 0, 2, []), (5, 6, 0, 2, 0, []), (6, 7, 4, 2, 0, []), (7, 10, 50, 113, 0, []), (10, 11, 60, 0, 0, [])]
/-- 69: LaidQuarrel$Sweet.keeps(I)I -/
def t_X8_keeps : List ME := [(0, 1, 1, 1, 0, []), (1, 4, 16, 2, 9, []), (4, 6, 0, 21, 0, []), (6, 7, 0, 0, 0, []), (7, 8, 0, 0, 0, []), (8, 11, 51, 48, 3, []), (11, 12, 12, 0, 0, []), (12, 13, 1, 1, 0, []), (13, 14, 1, 0, 1, []), (14, 17, 51, 49, 1, []), (17, 18, 5, 0, 0, []), (18, 19, 60, 0, 0, [])]
/-- 70: LaidQuarrel$Told.<init>(IILLaidQuarrel$Shelf;)V -/
def t_X9_init : List ME := [(0, 1, 1, 1, 0, []), (1, 2, 1, 0, 1, []), (2, 3, 1, 0, 2, []), (3, 4, 1, 1, 3, []), (4, 7, 51, 50, 3, []), (7, 8, 63, 0, 0, [])]
/-- 71: LaidQuarrel$Told.spoken(LLaidQuarrel$Laid;I)I -/
def t_X9_spoken : List ME := [(0, 1, 1, 1, 0, []), (1, 2, 1, 1, 1, []), (2, 3, 1, 0, 2, []), (3, 6, 51, 51, 2, []), (6, 7, 1, 1, 1, []), (7, 10, 51, 52, 0, []), (10, 11, 4, 0, 0, []), (11, 12, 60, 0, 0, [])]
/-- 72: LaidQuarrel$Told.keeps(I)I -/
def t_X9_keeps : List ME := [(0, 1, 1, 1, 0, []), (1, 4, 16, 2, 10, []), (4, 6, 0, 61, 0, []), (6, 7, 0, 0, 0, []), (7, 8, 0, 0, 0, []), (8, 11, 51, 53, 3, []), (11, 12, 12, 0, 0, []), (12, 13, 1, 1, 0, []), (13, 14, 1, 0, 1, []), (14, 17, 51, 54, 1, []), (17, 18, 1, 1, 0, []), (18, 21, 16, 3, 10, []), (21, 24, 16, 1, 6, []), (24, 25, 4, 0, 0, []), (25, 26, 60, 0, 0, [])]
/-- 73: LaidQuarrel.<init>()V -/
def t_X10_init : List ME := [(0, 1, 1, 1, 0, []), (1, 4, 53, 0, 0, []), (4, 5, 1, 1, 0, []), (5, 8, 25, 8, 0, []), (8, 9, 11, 0, 0, []), (9, 10, 0, 1, 0, []), (10, 12, 0, 100, 0, []), (12, 15, 51, 55, 2, []), (15, 18, 17, 0, 11, []), (18, 19, 1, 1, 0, []), (19, 22, 25, 8, 0, []), (22, 23, 11, 0, 0, []), (23, 24, 0, 1, 0, []), (24, 25, 0, 4, 0, []), (25, 28, 51, 55, 2, []), (28, 31, 17, 1, 11, []), (31, 32, 1, 1, 0, []), (32, 35, 25, 8, 0, []), (35, 36, 11, 0, 0, []), (36, 37, 0, 1, 0, []), (37, 38, 0, 4, 0, []), (38, 41, 51, 55, 2, []), (41, 44, 17, 2, 11, []), (44, 45, 1, 1, 0, []), (45, 48, 25, 8, 0, []), (48, 49, 11, 0, 0, []), (49, 50, 0, 3, 0, []), (50, 51, 0, 5, 0, []), (51, 54, 51, 55, 2, []), (54, 57, 17, 3, 11, []), (57, 58, 1, 1, 0, []), (58, 61, 25, 8, 0, []), (61, 62, 11, 0, 0, []), (62, 63, 0, 3, 0, []), (63, 65, 0, 8, 0, []), (65, 68, 51, 55, 2, []), (68, 71, 17, 4, 11, []), (71, 72, 1, 1, 0, []), (72, 75, 25, 8, 0, []), (75, 76, 11, 0, 0, []), (76, 77, 0, 2, 0, []), (77, 79, 0, 8, 0, []), (79, 82, 51, 55, 2, []), (82, 85, 17, 5, 11, []), (85, 86, 1, 1, 0, []), (86, 89, 25, 8, 0, []), (89, 90, 11, 0, 0, []), (90, 91, 0, 1, 0, []), (91, 93, 0, 20, 0, []), (93, 96, 51, 55, 2, []), (96, 99, 17, 6, 11, []), (99, 100, 1, 1, 0, []), (100, 103, 25, 8, 0, []), (103, 104, 11, 0, 0, []), (104, 105, 0, 1, 0, []), (105, 107, 0, 6, 0, []), (107, 110, 51, 55, 2, []), (110, 113, 17, 7, 11, []), (113, 114, 1, 1, 0, []), (114, 117, 25, 8, 0, []), (117, 118, 11, 0, 0, []), (118, 119, 0, 1, 0, []), (119, 121, 0, 64, 0, []), (121, 124, 51, 55, 2, []), (124, 127, 17, 8, 11, []), (127, 128, 1, 1, 0, []), (128, 131, 25, 2, 0, []), (131, 132, 11, 0, 0, []), (132, 133, 1, 1, 0, []), (133, 136, 16, 0, 11, []), (136, 139, 51, 56, 1, []), (139, 142, 17, 9, 11, []), (142, 143, 1, 1, 0, []), (143, 146, 25, 2, 0, []), (146, 147, 11, 0, 0, []), (147, 148, 1, 1, 0, []), (148, 151, 16, 0, 11, []), (151, 154, 51, 56, 1, []), (154, 157, 17, 10, 11, []), (157, 158, 1, 1, 0, []), (158, 161, 25, 0, 0, []), (161, 162, 11, 0, 0, []), (162, 165, 51, 57, 0, []), (165, 168, 17, 11, 11, []), (168, 169, 1, 1, 0, []), (169, 170, 0, (-1), 0, []), (170, 173, 17, 14, 11, []), (173, 174, 63, 0, 0, [])]
/-- 74: LaidQuarrel.feed(I)I -/
def t_X10_feed : List ME := [(0, 1, 1, 0, 1, []), (1, 2, 0, 0, 0, []), (2, 4, 0, 127, 0, []), (4, 7, 50, 111, 0, []), (7, 10, 6, 13, 1, []), (10, 12, 0, (-2), 0, []), (12, 13, 60, 0, 0, []), (13, 14, 1, 1, 0, []), (14, 17, 16, 0, 11, []), (17, 18, 1, 0, 1, []), (18, 19, 0, 0, 0, []), (19, 20, 0, 0, 0, []), (20, 23, 50, 116, 0, []), (23, 24, 60, 0, 0, [])]
/-- 75: LaidQuarrel.cellar()I -/
def t_X10_cellar : List ME := [(0, 1, 1, 1, 0, []), (1, 4, 16, 12, 11, []), (4, 5, 0, 5, 0, []), (5, 8, 7, 11, 2, []), (8, 10, 0, (-4), 0, []), (10, 11, 60, 0, 0, []), (11, 12, 1, 1, 0, []), (12, 15, 16, 10, 11, []), (15, 18, 51, 58, 0, []), (18, 19, 2, 0, 1, []), (19, 20, 1, 1, 0, []), (20, 23, 16, 0, 11, []), (23, 26, 51, 59, 0, []), (26, 27, 1, 0, 1, []), (27, 30, 6, 35, 2, []), (30, 32, 0, (-10), 0, []), (32, 33, 1, 0, 1, []), (33, 34, 4, 1, 0, []), (34, 35, 60, 0, 0, []), (35, 36, 1, 1, 0, []), (36, 39, 16, 9, 11, []), (39, 40, 1, 1, 0, []), (40, 43, 16, 10, 11, []), (43, 46, 51, 60, 1, []), (46, 47, 1, 1, 0, []), (47, 48, 11, 0, 0, []), (48, 51, 16, 12, 11, []), (51, 52, 0, 1, 0, []), (52, 53, 4, 0, 0, []), (53, 56, 17, 12, 11, []), (56, 57, 1, 1, 0, []), (57, 60, 16, 12, 11, []), (60, 61, 0, 1, 0, []), (61, 62, 4, 1, 0, []), (62, 63, 60, 0, 0, [])]
/-- 76: LaidQuarrel.bottle(III)I -/
def t_X10_bottle : List ME := [(0, 1, 1, 0, 1, []), (1, 2, 0, 0, 0, []), (2, 4, 0, 6, 0, []), (4, 7, 50, 111, 0, []), (7, 10, 6, 12, 1, []), (10, 11, 0, (-1), 0, []), (11, 12, 60, 0, 0, []), (12, 13, 1, 0, 2, []), (13, 14, 0, 0, 0, []), (14, 16, 0, 9, 0, []), (16, 19, 50, 111, 0, []), (19, 22, 6, 33, 0, []), (22, 23, 1, 0, 3, []), (23, 25, 0, (-99), 0, []), (25, 27, 0, 99, 0, []), (27, 30, 50, 111, 0, []), (30, 33, 6, 36, 1, []), (33, 35, 0, (-2), 0, []), (35, 36, 60, 0, 0, []), (36, 37, 1, 1, 0, []), (37, 40, 16, 11, 11, []), (40, 45, 51, 61, 0, []), (45, 47, 0, 6, 0, []), (47, 50, 7, 53, 2, []), (50, 52, 0, (-4), 0, []), (52, 53, 60, 0, 0, []), (53, 54, 1, 1, 0, []), (54, 55, 1, 0, 1, []), (55, 58, 51, 62, 1, []), (58, 60, 2, 1, 4, []), (60, 62, 1, 1, 4, []), (62, 65, 16, 3, 1, []), (65, 66, 1, 0, 2, []), (66, 69, 17, 1, 6, []), (69, 71, 1, 1, 4, []), (71, 74, 16, 3, 1, []), (74, 75, 1, 0, 3, []), (75, 78, 17, 2, 6, []), (78, 79, 1, 1, 0, []), (79, 82, 16, 11, 11, []), (82, 84, 1, 1, 4, []), (84, 89, 51, 63, 1, []), (89, 90, 12, 0, 0, []), (90, 92, 1, 1, 4, []), (92, 95, 16, 1, 1, []), (95, 96, 60, 0, 0, [])]
/-- 77: LaidQuarrel.guest(I)I -/
def t_X10_guest : List ME := [(0, 1, 1, 0, 1, []), (1, 3, 0, (-99), 0, []), (3, 5, 0, 99, 0, []), (5, 8, 50, 111, 0, []), (8, 11, 6, 14, 1, []), (11, 13, 0, (-2), 0, []), (13, 14, 60, 0, 0, []), (14, 15, 1, 1, 0, []), (15, 18, 16, 1, 11, []), (18, 19, 1, 0, 1, []), (19, 20, 0, 0, 0, []), (20, 21, 0, 0, 0, []), (21, 24, 51, 64, 3, []), (24, 27, 6, 39, 0, []), (27, 28, 1, 1, 0, []), (28, 31, 16, 1, 11, []), (31, 34, 16, 3, 8, []), (34, 35, 0, 1, 0, []), (35, 36, 4, 1, 0, []), (36, 39, 10, 41, 0, []), (39, 41, 0, (-4), 0, []), (41, 42, 60, 0, 0, [])]
/-- 78: LaidQuarrel.of(II)I -/
def t_X10_of : List ME := [(0, 1, 1, 1, 0, []), (1, 2, 1, 0, 1, []), (2, 5, 51, 65, 1, []), (5, 6, 2, 1, 3, []), (6, 7, 1, 1, 3, []), (7, 10, 8, 14, 1, []), (10, 13, 0, (-10001), 0, []), (13, 14, 60, 0, 0, []), (14, 15, 1, 0, 2, []), (15, 60, 40, 136, 0, [(0, 60), (1, 65), (2, 73), (3, 81), (4, 89), (5, 97), (6, 113), (7, 126)]), (60, 61, 1, 1, 3, []), (61, 64, 16, 0, 1, []), (64, 65, 60, 0, 0, []), (65, 66, 1, 1, 3, []), (66, 69, 16, 3, 1, []), (69, 72, 16, 1, 6, []), (72, 73, 60, 0, 0, []), (73, 74, 1, 1, 3, []), (74, 77, 16, 3, 1, []), (77, 80, 16, 2, 6, []), (80, 81, 60, 0, 0, []), (81, 82, 1, 1, 3, []), (82, 85, 16, 3, 1, []), (85, 88, 16, 3, 6, []), (88, 89, 60, 0, 0, []), (89, 90, 1, 1, 3, []), (90, 93, 16, 3, 1, []), (93, 96, 16, 4, 6, []), (96, 97, 60, 0, 0, []), (97, 98, 1, 1, 3, []), (98, 101, 16, 3, 1, []), (101, 104, 16, 5, 6, []), (104, 107, 6, 111, 0, []), (107, 108, 0, 1, 0, []), (108, 111, 10, 112, 0, []), (111, 112, 0, 0, 0, []), (112, 113, 60, 0, 0, []), (113, 114, 1, 1, 0, []), (114, 117, 16, 9, 11, []), (117, 118, 1, 1, 3, []), (118, 119, 1, 1, 3, []), (119, 122, 16, 3, 1, []), (122, 125, 51, 66, 2, []), (125, 126, 60, 0, 0, []), (126, 127, 1, 1, 0, []), (127, 128, 1, 1, 3, []), (128, 129, 1, 1, 3, []), (129, 132, 16, 3, 1, []), (132, 135, 51, 67, 2, []), (135, 136, 60, 0, 0, []), (136, 139, 0, (-10001), 0, []), (139, 140, 60, 0, 0, [])]
/-- 79: LaidQuarrel.row(III)I -/
def t_X10_row : List ME := [(0, 1, 1, 1, 0, []), (1, 2, 1, 0, 1, []), (2, 5, 51, 65, 1, []), (5, 7, 2, 1, 4, []), (7, 9, 1, 1, 4, []), (9, 12, 8, 21, 0, []), (12, 13, 1, 0, 2, []), (13, 14, 0, 0, 0, []), (14, 15, 0, 3, 0, []), (15, 18, 50, 111, 0, []), (18, 21, 6, 23, 1, []), (21, 22, 0, (-1), 0, []), (22, 23, 60, 0, 0, []), (23, 24, 1, 0, 3, []), (24, 25, 0, 0, 0, []), (25, 27, 0, 9, 0, []), (27, 30, 50, 111, 0, []), (30, 33, 6, 36, 1, []), (33, 35, 0, (-2), 0, []), (35, 36, 60, 0, 0, []), (36, 38, 1, 1, 4, []), (38, 41, 16, 0, 1, []), (41, 43, 0, 6, 0, []), (43, 46, 7, 49, 0, []), (46, 48, 0, (-3), 0, []), (48, 49, 60, 0, 0, []), (49, 51, 1, 1, 4, []), (51, 54, 16, 3, 1, []), (54, 55, 1, 0, 2, []), (55, 56, 1, 0, 3, []), (56, 59, 51, 68, 2, []), (59, 60, 60, 0, 0, [])]
/-- 80: LaidQuarrel.set(III)I -/
def t_X10_set : List ME := [(0, 1, 1, 1, 0, []), (1, 2, 1, 0, 1, []), (2, 5, 51, 65, 1, []), (5, 7, 2, 1, 4, []), (7, 9, 1, 1, 4, []), (9, 12, 8, 21, 0, []), (12, 13, 1, 0, 2, []), (13, 14, 0, 0, 0, []), (14, 15, 0, 1, 0, []), (15, 18, 50, 111, 0, []), (18, 21, 6, 23, 1, []), (21, 22, 0, (-1), 0, []), (22, 23, 60, 0, 0, []), (23, 24, 1, 0, 3, []), (24, 25, 0, 0, 0, []), (25, 26, 1, 0, 2, []), (26, 29, 6, 35, 1, []), (29, 32, 0, 199, 0, []), (32, 35, 10, 36, 0, []), (35, 36, 0, 3, 0, []), (36, 39, 50, 111, 0, []), (39, 42, 6, 45, 1, []), (42, 44, 0, (-2), 0, []), (44, 45, 60, 0, 0, []), (45, 46, 1, 0, 2, []), (46, 49, 6, 60, 1, []), (49, 51, 1, 1, 4, []), (51, 54, 16, 3, 1, []), (54, 57, 16, 3, 6, []), (57, 60, 10, 68, 0, []), (60, 62, 1, 1, 4, []), (62, 65, 16, 3, 1, []), (65, 68, 16, 4, 6, []), (68, 70, 2, 0, 5, []), (70, 71, 1, 0, 2, []), (71, 74, 6, 86, 1, []), (74, 76, 1, 1, 4, []), (76, 79, 16, 3, 1, []), (79, 80, 1, 0, 3, []), (80, 83, 17, 3, 6, []), (83, 86, 10, 95, 0, []), (86, 88, 1, 1, 4, []), (88, 91, 16, 3, 1, []), (91, 92, 1, 0, 3, []), (92, 95, 17, 4, 6, []), (95, 97, 1, 0, 5, []), (97, 98, 60, 0, 0, [])]
/-- 81: LaidQuarrel.mood(I)I -/
def t_X10_mood : List ME := [(0, 1, 1, 1, 0, []), (1, 2, 1, 0, 1, []), (2, 5, 51, 69, 1, []), (5, 8, 6, 20, 0, []), (8, 9, 1, 1, 0, []), (9, 12, 16, 1, 11, []), (12, 13, 1, 0, 1, []), (13, 14, 0, 0, 0, []), (14, 17, 51, 70, 2, []), (17, 20, 10, 23, 0, []), (20, 23, 0, (-10001), 0, []), (23, 24, 60, 0, 0, [])]
/-- 82: LaidQuarrel.told(I)I -/
def t_X10_told : List ME := [(0, 1, 1, 0, 1, []), (1, 40, 40, 80, 0, [(0, 40), (1, 45), (2, 53), (3, 61), (4, 66), (5, 72)]), (40, 41, 1, 1, 0, []), (41, 44, 16, 13, 11, []), (44, 45, 60, 0, 0, []), (45, 46, 1, 1, 0, []), (46, 49, 16, 9, 11, []), (49, 52, 51, 71, 0, []), (52, 53, 60, 0, 0, []), (53, 54, 1, 1, 0, []), (54, 57, 16, 9, 11, []), (57, 60, 51, 72, 0, []), (60, 61, 60, 0, 0, []), (61, 62, 1, 1, 0, []), (62, 65, 51, 73, 0, []), (65, 66, 60, 0, 0, []), (66, 67, 1, 1, 0, []), (67, 68, 0, 0, 0, []), (68, 71, 51, 74, 1, []), (71, 72, 60, 0, 0, []), (72, 73, 1, 1, 0, []), (73, 76, 16, 1, 11, []), (76, 79, 50, 117, 0, []), (79, 80, 60, 0, 0, []), (80, 83, 0, (-10001), 0, []), (83, 84, 60, 0, 0, [])]
/-- 83: LaidQuarrel.pour(II)I -/
def t_X10_pour : List ME := [(0, 1, 1, 1, 0, []), (1, 2, 1, 0, 1, []), (2, 5, 51, 65, 1, []), (5, 6, 2, 1, 3, []), (6, 7, 1, 1, 3, []), (7, 10, 8, 18, 0, []), (10, 11, 1, 1, 0, []), (11, 12, 1, 0, 2, []), (12, 15, 51, 69, 1, []), (15, 18, 6, 22, 1, []), (18, 21, 0, (-10001), 0, []), (21, 22, 60, 0, 0, []), (22, 23, 1, 1, 3, []), (23, 26, 16, 3, 1, []), (26, 29, 16, 5, 6, []), (29, 32, 6, 36, 0, []), (32, 35, 0, (-10003), 0, []), (35, 36, 60, 0, 0, []), (36, 37, 1, 1, 3, []), (37, 40, 16, 3, 1, []), (40, 41, 0, 1, 0, []), (41, 44, 17, 5, 6, []), (44, 45, 1, 1, 0, []), (45, 48, 16, 1, 11, []), (48, 49, 1, 0, 2, []), (49, 50, 1, 1, 0, []), (50, 51, 1, 1, 3, []), (51, 52, 1, 1, 3, []), (52, 55, 16, 3, 1, []), (55, 58, 51, 67, 2, []), (58, 61, 50, 127, 0, []), (61, 62, 60, 0, 0, [])]
/-- 84: LaidQuarrel.both(III)I -/
def t_X10_both : List ME := [(0, 1, 1, 1, 0, []), (1, 2, 1, 0, 1, []), (2, 5, 51, 65, 1, []), (5, 7, 2, 1, 4, []), (7, 8, 1, 1, 0, []), (8, 9, 1, 0, 2, []), (9, 12, 51, 65, 1, []), (12, 14, 2, 1, 5, []), (14, 16, 1, 1, 4, []), (16, 19, 8, 32, 0, []), (19, 21, 1, 1, 5, []), (21, 24, 8, 32, 0, []), (24, 25, 1, 1, 0, []), (25, 26, 1, 0, 3, []), (26, 29, 51, 69, 1, []), (29, 32, 6, 36, 1, []), (32, 35, 0, (-10001), 0, []), (35, 36, 60, 0, 0, []), (36, 37, 1, 0, 1, []), (37, 38, 1, 0, 2, []), (38, 41, 7, 45, 1, []), (41, 44, 0, (-10002), 0, []), (44, 45, 60, 0, 0, []), (45, 47, 1, 1, 4, []), (47, 50, 16, 3, 1, []), (50, 53, 16, 5, 6, []), (53, 56, 6, 67, 1, []), (56, 58, 1, 1, 5, []), (58, 61, 16, 3, 1, []), (61, 64, 16, 5, 6, []), (64, 67, 6, 71, 0, []), (67, 70, 0, (-10003), 0, []), (70, 71, 60, 0, 0, []), (71, 73, 1, 1, 4, []), (73, 76, 16, 3, 1, []), (76, 77, 0, 1, 0, []), (77, 80, 17, 5, 6, []), (80, 82, 1, 1, 5, []), (82, 85, 16, 3, 1, []), (85, 86, 0, 1, 0, []), (86, 89, 17, 5, 6, []), (89, 90, 1, 1, 0, []), (90, 93, 16, 1, 11, []), (93, 94, 1, 0, 3, []), (94, 95, 1, 1, 0, []), (95, 97, 1, 1, 4, []), (97, 99, 1, 1, 4, []), (99, 102, 16, 3, 1, []), (102, 105, 51, 67, 2, []), (105, 106, 1, 1, 0, []), (106, 108, 1, 1, 5, []), (108, 110, 1, 1, 5, []), (110, 113, 16, 3, 1, []), (113, 116, 51, 67, 2, []), (116, 117, 4, 0, 0, []), (117, 118, 0, 2, 0, []), (118, 119, 4, 3, 0, []), (119, 122, 50, 127, 0, []), (122, 123, 60, 0, 0, [])]
/-- 85: LaidQuarrel.pass(I)I -/
def t_X10_pass : List ME := [(0, 1, 1, 0, 1, []), (1, 2, 0, 0, 0, []), (2, 4, 0, 60, 0, []), (4, 7, 50, 111, 0, []), (7, 10, 6, 13, 1, []), (10, 12, 0, (-2), 0, []), (12, 13, 60, 0, 0, []), (13, 14, 1, 1, 0, []), (14, 17, 16, 13, 11, []), (17, 18, 1, 0, 1, []), (18, 19, 4, 0, 0, []), (19, 22, 0, 9999, 0, []), (22, 25, 7, 28, 5, []), (25, 27, 0, (-3), 0, []), (27, 28, 60, 0, 0, []), (28, 29, 0, 0, 0, []), (29, 30, 2, 0, 2, []), (30, 31, 1, 0, 2, []), (31, 32, 1, 1, 0, []), (32, 35, 16, 11, 11, []), (35, 40, 51, 61, 0, []), (40, 43, 7, 69, 3, []), (43, 44, 1, 1, 0, []), (44, 47, 16, 11, 11, []), (47, 48, 1, 0, 2, []), (48, 53, 51, 75, 1, []), (53, 56, 37, 1, 0, []), (56, 59, 16, 3, 1, []), (59, 60, 1, 0, 1, []), (60, 63, 51, 76, 1, []), (63, 66, 3, 2, 1, []), (66, 69, 10, 30, 0, []), (69, 70, 1, 1, 0, []), (70, 71, 1, 1, 0, []), (71, 74, 16, 1, 11, []), (74, 75, 1, 0, 1, []), (75, 78, 51, 77, 2, []), (78, 79, 1, 1, 0, []), (79, 80, 11, 0, 0, []), (80, 83, 16, 13, 11, []), (83, 84, 1, 0, 1, []), (84, 85, 4, 0, 0, []), (85, 88, 17, 13, 11, []), (88, 89, 1, 1, 0, []), (89, 92, 16, 13, 11, []), (92, 93, 60, 0, 0, [])]
/-- 86: LaidQuarrel.on(II)I -/
def t_X10_on : List ME := [(0, 1, 1, 0, 2, []), (1, 2, 0, 0, 0, []), (2, 3, 0, 1, 0, []), (3, 6, 50, 111, 0, []), (6, 7, 2, 0, 3, []), (7, 8, 1, 0, 2, []), (8, 10, 0, 10, 0, []), (10, 13, 7, 24, 2, []), (13, 14, 1, 1, 0, []), (14, 15, 1, 0, 2, []), (15, 17, 0, 10, 0, []), (17, 18, 4, 1, 0, []), (18, 21, 51, 65, 1, []), (21, 24, 10, 25, 0, []), (24, 25, 15, 0, 0, []), (25, 27, 2, 1, 4, []), (27, 28, 1, 0, 2, []), (28, 30, 0, 20, 0, []), (30, 33, 7, 48, 2, []), (33, 34, 1, 1, 0, []), (34, 35, 1, 0, 2, []), (35, 37, 0, 20, 0, []), (37, 38, 4, 1, 0, []), (38, 41, 51, 69, 1, []), (41, 44, 6, 48, 0, []), (44, 45, 0, 1, 0, []), (45, 48, 10, 49, 0, []), (48, 49, 0, 0, 0, []), (49, 51, 2, 0, 5, []), (51, 52, 1, 0, 3, []), (52, 55, 6, 69, 1, []), (55, 57, 1, 1, 4, []), (57, 60, 8, 69, 1, []), (60, 62, 1, 0, 5, []), (62, 65, 6, 69, 1, []), (65, 68, 0, (-10001), 0, []), (68, 69, 60, 0, 0, []), (69, 70, 1, 0, 1, []), (70, 71, 0, 0, 0, []), (71, 73, 0, 60, 0, []), (73, 76, 50, 111, 0, []), (76, 79, 6, 83, 1, []), (79, 82, 0, (-10002), 0, []), (82, 83, 60, 0, 0, []), (83, 85, 1, 1, 4, []), (85, 88, 8, 101, 0, []), (88, 89, 1, 1, 0, []), (89, 91, 1, 1, 4, []), (91, 93, 1, 1, 4, []), (93, 94, 1, 0, 1, []), (94, 97, 51, 78, 1, []), (97, 100, 51, 67, 2, []), (100, 101, 60, 0, 0, []), (101, 102, 1, 0, 2, []), (102, 105, 6, 111, 1, []), (105, 106, 1, 1, 0, []), (106, 107, 1, 0, 1, []), (107, 110, 51, 74, 1, []), (110, 111, 60, 0, 0, []), (111, 112, 1, 1, 0, []), (112, 115, 16, 2, 11, []), (115, 116, 1, 1, 0, []), (116, 119, 16, 1, 11, []), (119, 122, 51, 79, 1, []), (122, 123, 1, 1, 0, []), (123, 124, 1, 1, 0, []), (124, 127, 16, 2, 11, []), (127, 128, 1, 0, 1, []), (128, 131, 51, 77, 2, []), (131, 133, 1, 0, 5, []), (133, 136, 6, 151, 0, []), (136, 137, 1, 1, 0, []), (137, 140, 16, 2, 11, []), (140, 141, 1, 0, 2, []), (141, 143, 0, 20, 0, []), (143, 144, 4, 1, 0, []), (144, 145, 0, 0, 0, []), (145, 148, 51, 70, 2, []), (148, 151, 10, 158, 0, []), (151, 152, 1, 1, 0, []), (152, 155, 16, 2, 11, []), (155, 158, 50, 117, 0, []), (158, 159, 60, 0, 0, [])]
/-- 87: LaidQuarrel.when(II)I -/
def t_X10_when : List ME := [(0, 1, 1, 1, 0, []), (1, 2, 1, 0, 1, []), (2, 5, 51, 65, 1, []), (5, 6, 2, 1, 3, []), (6, 7, 1, 1, 3, []), (7, 10, 8, 19, 0, []), (10, 11, 1, 0, 2, []), (11, 12, 0, 0, 0, []), (12, 13, 0, 1, 0, []), (13, 16, 50, 111, 0, []), (16, 19, 6, 23, 1, []), (19, 22, 0, (-10001), 0, []), (22, 23, 60, 0, 0, []), (23, 24, 0, 0, 0, []), (24, 26, 2, 0, 4, []), (26, 27, 1, 1, 0, []), (27, 28, 1, 1, 3, []), (28, 29, 1, 1, 3, []), (29, 30, 0, 0, 0, []), (30, 33, 51, 78, 1, []), (33, 36, 51, 67, 2, []), (36, 38, 2, 0, 5, []), (38, 39, 0, 1, 0, []), (39, 41, 2, 0, 6, []), (41, 43, 1, 0, 6, []), (43, 45, 0, 60, 0, []), (45, 48, 7, 82, 4, []), (48, 49, 1, 1, 0, []), (49, 50, 1, 1, 3, []), (50, 51, 1, 1, 3, []), (51, 53, 1, 0, 6, []), (53, 56, 51, 78, 1, []), (56, 59, 51, 67, 2, []), (59, 61, 2, 0, 7, []), (61, 63, 1, 0, 7, []), (63, 65, 1, 0, 5, []), (65, 68, 7, 76, 5, []), (68, 70, 1, 0, 7, []), (70, 72, 2, 0, 5, []), (72, 74, 1, 0, 6, []), (74, 76, 2, 0, 4, []), (76, 79, 3, 6, 1, []), (79, 82, 10, 41, 0, []), (82, 83, 1, 0, 2, []), (83, 86, 6, 91, 1, []), (86, 88, 1, 0, 4, []), (88, 91, 10, 93, 0, []), (91, 93, 1, 0, 5, []), (93, 94, 60, 0, 0, [])]
/-- 88: LaidQuarrel.ripe(I)I -/
def t_X10_ripe : List ME := [(0, 1, 1, 1, 0, []), (1, 2, 1, 0, 1, []), (2, 5, 51, 65, 1, []), (5, 6, 2, 1, 2, []), (6, 7, 1, 1, 2, []), (7, 10, 8, 12, 1, []), (10, 11, 0, (-1), 0, []), (11, 12, 60, 0, 0, []), (12, 13, 0, 0, 0, []), (13, 14, 2, 0, 3, []), (14, 15, 1, 0, 3, []), (15, 17, 0, 60, 0, []), (17, 20, 7, 41, 4, []), (20, 21, 1, 1, 0, []), (21, 22, 1, 1, 2, []), (22, 23, 1, 1, 2, []), (23, 24, 1, 0, 3, []), (24, 27, 51, 78, 1, []), (27, 30, 51, 67, 2, []), (30, 33, 6, 35, 2, []), (33, 34, 1, 0, 3, []), (34, 35, 60, 0, 0, []), (35, 38, 3, 3, 1, []), (38, 41, 10, 14, 0, []), (41, 43, 0, (-5), 0, []), (43, 44, 60, 0, 0, [])]
/-- 89: LaidQuarrel.lies(I)I -/
def t_X10_lies : List ME := [(0, 1, 1, 1, 0, []), (1, 2, 1, 0, 1, []), (2, 5, 51, 65, 1, []), (5, 6, 2, 1, 2, []), (6, 7, 1, 1, 2, []), (7, 10, 8, 12, 1, []), (10, 11, 0, (-1), 0, []), (11, 12, 60, 0, 0, []), (12, 13, 1, 1, 2, []), (13, 16, 51, 80, 0, []), (16, 17, 2, 1, 3, []), (17, 18, 1, 1, 3, []), (18, 19, 0, 0, 0, []), (19, 22, 17, 4, 6, []), (22, 23, 0, 0, 0, []), (23, 25, 2, 0, 4, []), (25, 26, 1, 1, 0, []), (26, 27, 1, 1, 2, []), (27, 28, 1, 1, 3, []), (28, 31, 51, 67, 2, []), (31, 33, 2, 0, 5, []), (33, 34, 0, 1, 0, []), (34, 36, 2, 0, 6, []), (36, 38, 1, 0, 6, []), (38, 39, 0, 4, 0, []), (39, 42, 7, 77, 3, []), (42, 43, 1, 1, 3, []), (43, 45, 1, 0, 6, []), (45, 48, 17, 4, 6, []), (48, 49, 1, 1, 0, []), (49, 50, 1, 1, 2, []), (50, 51, 1, 1, 3, []), (51, 54, 51, 67, 2, []), (54, 56, 2, 0, 7, []), (56, 58, 1, 0, 7, []), (58, 60, 1, 0, 5, []), (60, 63, 7, 71, 5, []), (63, 65, 1, 0, 7, []), (65, 67, 2, 0, 5, []), (67, 69, 1, 0, 6, []), (69, 71, 2, 0, 4, []), (71, 74, 3, 6, 1, []), (74, 77, 10, 36, 0, []), (77, 79, 1, 0, 4, []), (79, 80, 60, 0, 0, [])]
/-- 90: LaidQuarrel.choose(II)I -/
def t_X10_choose : List ME := [(0, 1, 1, 1, 0, []), (1, 2, 1, 0, 1, []), (2, 5, 51, 69, 1, []), (5, 8, 6, 10, 1, []), (8, 9, 0, (-1), 0, []), (9, 10, 60, 0, 0, []), (10, 11, 1, 0, 2, []), (11, 13, 0, (-99), 0, []), (13, 15, 0, 99, 0, []), (15, 18, 50, 111, 0, []), (18, 21, 6, 24, 1, []), (21, 23, 0, (-2), 0, []), (23, 24, 60, 0, 0, []), (24, 25, 1, 1, 0, []), (25, 28, 51, 81, 0, []), (28, 29, 1, 1, 0, []), (29, 32, 51, 73, 0, []), (32, 33, 2, 0, 3, []), (33, 35, 0, (-5), 0, []), (35, 37, 2, 0, 4, []), (37, 39, 0, 7, 0, []), (39, 41, 2, 0, 5, []), (41, 42, 0, 0, 0, []), (42, 44, 2, 0, 6, []), (44, 46, 1, 0, 6, []), (46, 47, 1, 0, 3, []), (47, 50, 7, 107, 4, []), (50, 52, 1, 0, 6, []), (52, 55, 50, 228, 0, []), (55, 57, 2, 0, 7, []), (57, 59, 1, 0, 6, []), (59, 60, 1, 0, 3, []), (60, 61, 4, 5, 0, []), (61, 63, 1, 0, 6, []), (63, 66, 7, 101, 1, []), (66, 68, 1, 0, 7, []), (68, 70, 1, 0, 5, []), (70, 73, 7, 101, 3, []), (73, 74, 1, 1, 0, []), (74, 77, 16, 1, 11, []), (77, 78, 1, 0, 1, []), (78, 79, 0, 0, 0, []), (79, 82, 51, 70, 2, []), (82, 83, 1, 1, 0, []), (83, 85, 1, 0, 6, []), (85, 88, 51, 82, 1, []), (88, 89, 4, 0, 0, []), (89, 90, 1, 0, 2, []), (90, 93, 7, 101, 1, []), (93, 95, 1, 0, 7, []), (95, 97, 2, 0, 5, []), (97, 99, 1, 0, 6, []), (99, 101, 2, 0, 4, []), (101, 104, 3, 6, 1, []), (104, 107, 10, 44, 0, []), (107, 109, 1, 0, 4, []), (109, 110, 60, 0, 0, [])]
/-- 91: LaidQuarrel.line(II)I -/
def t_X10_line : List ME := [(0, 1, 1, 1, 0, []), (1, 2, 1, 0, 1, []), (2, 5, 51, 69, 1, []), (5, 8, 6, 17, 0, []), (8, 9, 1, 0, 2, []), (9, 10, 0, (-1), 0, []), (10, 11, 0, 5, 0, []), (11, 14, 50, 111, 0, []), (14, 17, 6, 21, 1, []), (17, 20, 0, (-10001), 0, []), (20, 21, 60, 0, 0, []), (21, 22, 1, 1, 0, []), (22, 25, 51, 81, 0, []), (25, 26, 1, 1, 0, []), (26, 29, 51, 73, 0, []), (29, 30, 2, 0, 3, []), (30, 31, 1, 1, 0, []), (31, 34, 16, 7, 11, []), (34, 35, 1, 0, 3, []), (35, 36, 1, 1, 0, []), (36, 39, 16, 1, 11, []), (39, 40, 1, 0, 1, []), (40, 41, 0, 0, 0, []), (41, 44, 51, 70, 2, []), (44, 45, 0, 0, 0, []), (45, 48, 50, 129, 0, []), (48, 50, 2, 0, 4, []), (50, 51, 1, 0, 2, []), (51, 54, 6, 60, 3, []), (54, 56, 1, 0, 4, []), (56, 59, 50, 130, 0, []), (59, 60, 60, 0, 0, []), (60, 61, 1, 0, 3, []), (61, 64, 50, 228, 0, []), (64, 65, 0, 1, 0, []), (65, 66, 4, 1, 0, []), (66, 67, 1, 0, 2, []), (67, 68, 4, 1, 0, []), (68, 70, 2, 0, 5, []), (70, 72, 1, 0, 5, []), (72, 75, 6, 80, 3, []), (75, 77, 0, (-5), 0, []), (77, 80, 10, 90, 0, []), (80, 82, 1, 0, 4, []), (82, 83, 0, 3, 0, []), (83, 85, 1, 0, 5, []), (85, 86, 4, 2, 0, []), (86, 87, 4, 9, 0, []), (87, 89, 0, 7, 0, []), (89, 90, 4, 5, 0, []), (90, 91, 60, 0, 0, [])]
/-- 92: LaidQuarrel.pair()I -/
def t_X10_pair : List ME := [(0, 1, 1, 1, 0, []), (1, 4, 51, 81, 0, []), (4, 5, 1, 1, 0, []), (5, 8, 51, 73, 0, []), (8, 9, 2, 0, 1, []), (9, 11, 0, (-5), 0, []), (11, 12, 2, 0, 2, []), (12, 13, 0, 0, 0, []), (13, 14, 2, 0, 3, []), (14, 15, 0, 0, 0, []), (15, 17, 2, 0, 4, []), (17, 19, 1, 0, 4, []), (19, 20, 1, 1, 0, []), (20, 23, 16, 11, 11, []), (23, 28, 51, 61, 0, []), (28, 31, 7, 131, 3, []), (31, 33, 1, 0, 4, []), (33, 34, 0, 1, 0, []), (34, 35, 4, 0, 0, []), (35, 37, 2, 0, 5, []), (37, 39, 1, 0, 5, []), (39, 40, 1, 1, 0, []), (40, 43, 16, 11, 11, []), (43, 48, 51, 61, 0, []), (48, 51, 7, 125, 3, []), (51, 52, 1, 1, 0, []), (52, 55, 16, 7, 11, []), (55, 57, 1, 0, 4, []), (57, 58, 0, 0, 0, []), (58, 61, 51, 70, 2, []), (61, 62, 1, 1, 0, []), (62, 65, 16, 7, 11, []), (65, 67, 1, 0, 5, []), (67, 68, 0, 0, 0, []), (68, 71, 51, 70, 2, []), (71, 72, 4, 0, 0, []), (72, 75, 50, 229, 0, []), (75, 77, 2, 0, 6, []), (77, 78, 1, 0, 1, []), (78, 80, 1, 0, 4, []), (80, 83, 50, 112, 0, []), (83, 86, 6, 119, 0, []), (86, 87, 1, 0, 1, []), (87, 89, 1, 0, 5, []), (89, 92, 50, 112, 0, []), (92, 95, 6, 119, 0, []), (95, 96, 1, 0, 2, []), (96, 98, 0, (-5), 0, []), (98, 101, 7, 107, 0, []), (101, 103, 1, 0, 6, []), (103, 104, 1, 0, 3, []), (104, 107, 7, 119, 3, []), (107, 109, 1, 0, 6, []), (109, 110, 2, 0, 3, []), (110, 112, 0, 10, 0, []), (112, 114, 1, 0, 4, []), (114, 115, 4, 2, 0, []), (115, 117, 1, 0, 5, []), (117, 118, 4, 0, 0, []), (118, 119, 2, 0, 2, []), (119, 122, 3, 5, 1, []), (122, 125, 10, 37, 0, []), (125, 128, 3, 4, 1, []), (128, 131, 10, 17, 0, []), (131, 132, 1, 0, 2, []), (132, 133, 60, 0, 0, [])]
/-- 93: LaidQuarrel.match(I)I -/
def t_X10_match : List ME := [(0, 1, 1, 0, 1, []), (1, 3, 0, 10, 0, []), (3, 6, 7, 21, 2, []), (6, 7, 1, 1, 0, []), (7, 8, 1, 0, 1, []), (8, 10, 0, 10, 0, []), (10, 11, 4, 1, 0, []), (11, 14, 51, 65, 1, []), (14, 17, 8, 21, 0, []), (17, 18, 0, 1, 0, []), (18, 21, 10, 22, 0, []), (21, 22, 0, 0, 0, []), (22, 23, 2, 0, 2, []), (23, 24, 1, 0, 1, []), (24, 27, 6, 33, 0, []), (27, 28, 1, 0, 2, []), (28, 31, 6, 33, 1, []), (31, 32, 0, (-1), 0, []), (32, 33, 60, 0, 0, []), (33, 34, 1, 1, 0, []), (34, 37, 51, 81, 0, []), (37, 38, 1, 1, 0, []), (38, 41, 51, 73, 0, []), (41, 42, 2, 0, 3, []), (42, 43, 1, 1, 0, []), (43, 44, 1, 0, 3, []), (44, 47, 51, 83, 1, []), (47, 48, 1, 0, 2, []), (48, 51, 6, 63, 0, []), (51, 52, 1, 1, 0, []), (52, 53, 1, 0, 1, []), (53, 55, 0, 10, 0, []), (55, 56, 4, 1, 0, []), (56, 57, 1, 0, 3, []), (57, 60, 51, 84, 2, []), (60, 63, 10, 72, 0, []), (63, 64, 1, 1, 0, []), (64, 67, 16, 8, 11, []), (67, 68, 1, 0, 3, []), (68, 69, 0, 0, 0, []), (69, 72, 51, 70, 2, []), (72, 73, 60, 0, 0, [])]
/-- 94: LaidQuarrel.words(III)I -/
def t_X10_words : List ME := [(0, 1, 1, 1, 0, []), (1, 2, 1, 0, 1, []), (2, 5, 51, 65, 1, []), (5, 7, 2, 1, 4, []), (7, 9, 1, 1, 4, []), (9, 12, 8, 21, 0, []), (12, 13, 1, 0, 3, []), (13, 14, 0, 0, 0, []), (14, 15, 0, 1, 0, []), (15, 18, 50, 111, 0, []), (18, 21, 6, 25, 1, []), (21, 24, 0, (-10001), 0, []), (24, 25, 60, 0, 0, []), (25, 26, 1, 0, 2, []), (26, 29, 0, (-999), 0, []), (29, 32, 0, 999, 0, []), (32, 35, 50, 111, 0, []), (35, 38, 6, 42, 1, []), (38, 41, 0, (-10002), 0, []), (41, 42, 60, 0, 0, []), (42, 44, 1, 1, 4, []), (44, 47, 51, 80, 0, []), (47, 49, 2, 1, 5, []), (49, 50, 0, 0, 0, []), (50, 52, 2, 0, 6, []), (52, 55, 0, (-10005), 0, []), (55, 57, 2, 0, 7, []), (57, 59, 0, 99, 0, []), (59, 61, 2, 0, 8, []), (61, 63, 1, 0, 8, []), (63, 65, 0, (-99), 0, []), (65, 68, 7, 100, 2, []), (68, 70, 1, 1, 5, []), (70, 72, 1, 0, 8, []), (72, 75, 17, 2, 6, []), (75, 76, 1, 1, 0, []), (76, 78, 1, 1, 4, []), (78, 80, 1, 1, 5, []), (80, 83, 51, 67, 2, []), (83, 84, 1, 0, 2, []), (84, 87, 7, 94, 1, []), (87, 90, 3, 6, 1, []), (90, 92, 1, 0, 8, []), (92, 94, 2, 0, 7, []), (94, 97, 3, 8, (-1), []), (97, 100, 10, 61, 0, []), (100, 101, 1, 0, 3, []), (101, 104, 6, 109, 1, []), (104, 106, 1, 0, 6, []), (106, 109, 10, 111, 0, []), (109, 111, 1, 0, 7, []), (111, 112, 60, 0, 0, [])]
/-- 95: LaidQuarrel.see(III)I -/
def t_X10_see : List ME := [(0, 1, 1, 0, 1, []), (1, 2, 0, (-1), 0, []), (2, 5, 7, 14, 1, []), (5, 6, 1, 1, 0, []), (6, 9, 16, 3, 11, []), (9, 12, 51, 59, 0, []), (12, 13, 0, 0, 0, []), (13, 14, 60, 0, 0, []), (14, 15, 1, 1, 0, []), (15, 16, 1, 0, 1, []), (16, 19, 51, 65, 1, []), (19, 22, 8, 24, 1, []), (22, 23, 0, (-1), 0, []), (23, 24, 60, 0, 0, []), (24, 25, 1, 0, 2, []), (25, 28, 0, (-999), 0, []), (28, 31, 0, 999, 0, []), (31, 34, 50, 111, 0, []), (34, 37, 6, 47, 0, []), (37, 38, 1, 0, 3, []), (38, 39, 0, 0, 0, []), (39, 41, 0, 20, 0, []), (41, 44, 50, 111, 0, []), (44, 47, 6, 50, 1, []), (47, 49, 0, (-2), 0, []), (49, 50, 60, 0, 0, []), (50, 51, 1, 1, 0, []), (51, 54, 16, 3, 11, []), (54, 55, 1, 0, 1, []), (55, 56, 1, 0, 2, []), (56, 57, 1, 0, 3, []), (57, 60, 50, 116, 0, []), (60, 61, 60, 0, 0, [])]
/-- 96: LaidQuarrel.old(II)I -/
def t_X10_old : List ME := [(0, 1, 1, 1, 0, []), (1, 2, 1, 0, 1, []), (2, 5, 51, 65, 1, []), (5, 6, 2, 1, 3, []), (6, 7, 1, 1, 3, []), (7, 10, 8, 19, 0, []), (10, 11, 1, 0, 2, []), (11, 12, 0, 0, 0, []), (12, 13, 0, 1, 0, []), (13, 16, 50, 111, 0, []), (16, 19, 6, 21, 1, []), (19, 20, 0, (-1), 0, []), (20, 21, 60, 0, 0, []), (21, 22, 0, 0, 0, []), (22, 24, 2, 0, 4, []), (24, 26, 0, (-5), 0, []), (26, 28, 2, 0, 5, []), (28, 30, 0, 99, 0, []), (30, 32, 2, 0, 6, []), (32, 34, 1, 0, 6, []), (34, 37, 6, 67, 2, []), (37, 38, 1, 1, 0, []), (38, 39, 1, 0, 1, []), (39, 41, 1, 0, 6, []), (41, 42, 1, 1, 3, []), (42, 45, 16, 3, 1, []), (45, 48, 16, 1, 6, []), (48, 51, 51, 85, 3, []), (51, 54, 6, 61, 0, []), (54, 57, 3, 4, 1, []), (57, 59, 1, 0, 6, []), (59, 61, 2, 0, 5, []), (61, 64, 3, 6, (-1), []), (64, 67, 10, 32, 0, []), (67, 68, 1, 0, 2, []), (68, 71, 6, 76, 1, []), (71, 73, 1, 0, 4, []), (73, 76, 10, 78, 0, []), (76, 78, 1, 0, 5, []), (78, 79, 60, 0, 0, [])]
/-- 97: LaidQuarrel.firm(II)I -/
def t_X10_firm : List ME := [(0, 1, 1, 1, 0, []), (1, 2, 1, 0, 1, []), (2, 5, 51, 65, 1, []), (5, 6, 2, 1, 3, []), (6, 7, 1, 1, 3, []), (7, 10, 8, 19, 0, []), (10, 11, 1, 0, 2, []), (11, 12, 0, 0, 0, []), (12, 13, 0, 1, 0, []), (13, 16, 50, 111, 0, []), (16, 19, 6, 21, 1, []), (19, 20, 0, (-1), 0, []), (20, 21, 60, 0, 0, []), (21, 22, 0, 0, 0, []), (22, 24, 2, 0, 4, []), (24, 26, 0, (-5), 0, []), (26, 28, 2, 0, 5, []), (28, 30, 0, 9, 0, []), (30, 32, 2, 0, 6, []), (32, 34, 1, 0, 6, []), (34, 37, 6, 67, 2, []), (37, 38, 1, 1, 0, []), (38, 39, 1, 0, 1, []), (39, 40, 1, 1, 3, []), (40, 43, 16, 3, 1, []), (43, 46, 16, 3, 6, []), (46, 48, 1, 0, 6, []), (48, 51, 51, 85, 3, []), (51, 54, 6, 61, 0, []), (54, 57, 3, 4, 1, []), (57, 59, 1, 0, 6, []), (59, 61, 2, 0, 5, []), (61, 64, 3, 6, (-1), []), (64, 67, 10, 32, 0, []), (67, 68, 1, 0, 2, []), (68, 71, 6, 76, 1, []), (71, 73, 1, 0, 4, []), (73, 76, 10, 78, 0, []), (76, 78, 1, 0, 5, []), (78, 79, 60, 0, 0, [])]
/-- 98: LaidQuarrel.whose(II)I -/
def t_X10_whose : List ME := [(0, 1, 1, 0, 1, []), (1, 4, 0, (-999), 0, []), (4, 7, 0, 999, 0, []), (7, 10, 50, 111, 0, []), (10, 13, 6, 23, 0, []), (13, 14, 1, 0, 2, []), (14, 15, 0, 0, 0, []), (15, 17, 0, 40, 0, []), (17, 20, 50, 111, 0, []), (20, 23, 6, 26, 1, []), (23, 25, 0, (-2), 0, []), (25, 26, 60, 0, 0, []), (26, 27, 0, 0, 0, []), (27, 28, 2, 0, 3, []), (28, 29, 0, 0, 0, []), (29, 31, 2, 0, 4, []), (31, 33, 1, 0, 4, []), (33, 34, 1, 1, 0, []), (34, 37, 16, 11, 11, []), (37, 42, 51, 61, 0, []), (42, 45, 7, 90, 3, []), (45, 46, 1, 1, 0, []), (46, 49, 16, 11, 11, []), (49, 51, 1, 0, 4, []), (51, 56, 51, 75, 1, []), (56, 59, 37, 1, 0, []), (59, 61, 2, 1, 5, []), (61, 62, 1, 1, 0, []), (62, 64, 1, 1, 5, []), (64, 66, 1, 1, 5, []), (66, 67, 1, 0, 2, []), (67, 70, 51, 78, 1, []), (70, 73, 51, 67, 2, []), (73, 74, 1, 0, 1, []), (74, 77, 7, 84, 1, []), (77, 78, 1, 0, 3, []), (78, 79, 0, 1, 0, []), (79, 81, 1, 0, 4, []), (81, 82, 4, 8, 0, []), (82, 83, 4, 6, 0, []), (83, 84, 2, 0, 3, []), (84, 87, 3, 4, 1, []), (87, 90, 10, 31, 0, []), (90, 91, 1, 0, 3, []), (91, 92, 60, 0, 0, [])]
/-- 99: LaidQuarrel.odds(III)J -/
def t_X10_odds : List ME := [(0, 1, 1, 1, 0, []), (1, 2, 1, 0, 1, []), (2, 5, 51, 69, 1, []), (5, 8, 6, 19, 0, []), (8, 9, 1, 0, 2, []), (9, 11, 0, (-99), 0, []), (11, 13, 0, 99, 0, []), (13, 16, 50, 111, 0, []), (16, 19, 6, 23, 1, []), (19, 22, 34, (-9223372036854775808), 0, []), (22, 23, 62, 0, 0, []), (23, 24, 0, 0, 0, []), (24, 26, 2, 0, 4, []), (26, 27, 0, 0, 0, []), (27, 29, 2, 0, 5, []), (29, 31, 1, 0, 5, []), (31, 32, 1, 1, 0, []), (32, 35, 16, 11, 11, []), (35, 40, 51, 61, 0, []), (40, 43, 7, 107, 3, []), (43, 44, 1, 1, 0, []), (44, 47, 16, 11, 11, []), (47, 49, 1, 0, 5, []), (49, 54, 51, 75, 1, []), (54, 57, 37, 1, 0, []), (57, 59, 2, 1, 6, []), (59, 61, 1, 1, 6, []), (61, 64, 16, 3, 1, []), (64, 67, 16, 5, 6, []), (67, 70, 6, 101, 1, []), (70, 71, 1, 1, 0, []), (71, 74, 16, 1, 11, []), (74, 75, 1, 0, 1, []), (75, 76, 0, 0, 0, []), (76, 79, 51, 70, 2, []), (79, 80, 1, 1, 0, []), (80, 82, 1, 1, 6, []), (82, 84, 1, 1, 6, []), (84, 87, 16, 3, 1, []), (87, 90, 51, 67, 2, []), (90, 91, 4, 0, 0, []), (91, 94, 50, 114, 0, []), (94, 95, 1, 0, 2, []), (95, 98, 7, 101, 2, []), (98, 101, 3, 4, 1, []), (101, 104, 3, 5, 1, []), (104, 107, 10, 29, 0, []), (107, 109, 1, 0, 4, []), (109, 110, 1, 1, 0, []), (110, 113, 51, 73, 0, []), (113, 116, 50, 228, 0, []), (116, 117, 1, 0, 3, []), (117, 120, 50, 118, 0, []), (120, 121, 62, 0, 0, [])]
/-- 100: LaidQuarrel.mean(II)J -/
def t_X10_mean : List ME := [(0, 1, 1, 0, 1, []), (1, 2, 0, 0, 0, []), (2, 4, 0, 60, 0, []), (4, 7, 50, 111, 0, []), (7, 10, 6, 14, 1, []), (10, 13, 34, (-9223372036854775808), 0, []), (13, 14, 62, 0, 0, []), (14, 15, 1, 1, 0, []), (15, 16, 1, 0, 1, []), (16, 19, 51, 74, 1, []), (19, 20, 1, 1, 0, []), (20, 23, 51, 73, 0, []), (23, 26, 50, 228, 0, []), (26, 27, 1, 0, 2, []), (27, 30, 50, 118, 0, []), (30, 31, 62, 0, 0, [])]
/-- 101: LaidQuarrel.evening(III)I -/
def t_X10_evening : List ME := [(0, 1, 1, 0, 1, []), (1, 2, 0, (-1), 0, []), (2, 5, 7, 14, 1, []), (5, 6, 1, 1, 0, []), (6, 9, 16, 4, 11, []), (9, 12, 51, 59, 0, []), (12, 13, 0, 0, 0, []), (13, 14, 60, 0, 0, []), (14, 15, 1, 0, 1, []), (15, 16, 0, 0, 0, []), (16, 17, 0, 3, 0, []), (17, 20, 50, 111, 0, []), (20, 23, 6, 48, 0, []), (23, 24, 1, 0, 1, []), (24, 27, 6, 35, 0, []), (27, 28, 1, 1, 0, []), (28, 29, 1, 0, 2, []), (29, 32, 51, 65, 1, []), (32, 35, 8, 48, 0, []), (35, 36, 1, 0, 1, []), (36, 37, 0, 1, 0, []), (37, 40, 7, 50, 1, []), (40, 41, 1, 1, 0, []), (41, 42, 1, 0, 3, []), (42, 45, 51, 69, 1, []), (45, 48, 6, 50, 1, []), (48, 49, 0, (-1), 0, []), (49, 50, 60, 0, 0, []), (50, 51, 1, 1, 0, []), (51, 54, 16, 4, 11, []), (54, 55, 1, 0, 1, []), (55, 56, 1, 0, 2, []), (56, 57, 1, 0, 3, []), (57, 60, 50, 116, 0, []), (60, 61, 60, 0, 0, [])]
/-- 102: LaidQuarrel.done(I)I -/
def t_X10_done : List ME := [(0, 1, 1, 0, 1, []), (1, 2, 0, 0, 0, []), (2, 3, 0, 1, 0, []), (3, 6, 50, 111, 0, []), (6, 9, 6, 13, 1, []), (9, 12, 0, (-10001), 0, []), (12, 13, 60, 0, 0, []), (13, 14, 1, 1, 0, []), (14, 17, 16, 2, 11, []), (17, 18, 1, 1, 0, []), (18, 21, 16, 1, 11, []), (21, 24, 51, 79, 1, []), (24, 25, 0, 0, 0, []), (25, 26, 2, 0, 2, []), (26, 27, 1, 0, 2, []), (27, 28, 1, 1, 0, []), (28, 31, 16, 11, 11, []), (31, 36, 51, 61, 0, []), (36, 39, 7, 62, 3, []), (39, 40, 1, 1, 0, []), (40, 43, 16, 11, 11, []), (43, 44, 1, 0, 2, []), (44, 49, 51, 75, 1, []), (49, 52, 37, 1, 0, []), (52, 55, 51, 80, 0, []), (55, 56, 12, 0, 0, []), (56, 59, 3, 2, 1, []), (59, 62, 10, 26, 0, []), (62, 63, 0, 0, 0, []), (63, 64, 2, 0, 2, []), (64, 65, 1, 0, 2, []), (65, 66, 1, 1, 0, []), (66, 69, 16, 4, 11, []), (69, 72, 16, 3, 8, []), (72, 75, 7, 116, 3, []), (75, 76, 1, 1, 0, []), (76, 77, 1, 1, 0, []), (77, 80, 16, 4, 11, []), (80, 81, 1, 0, 2, []), (81, 82, 0, 0, 0, []), (82, 85, 51, 70, 2, []), (85, 86, 1, 1, 0, []), (86, 87, 1, 1, 0, []), (87, 90, 16, 4, 11, []), (90, 91, 1, 0, 2, []), (91, 92, 0, 1, 0, []), (92, 95, 51, 70, 2, []), (95, 98, 51, 65, 1, []), (98, 99, 1, 1, 0, []), (99, 102, 16, 4, 11, []), (102, 103, 1, 0, 2, []), (103, 104, 0, 2, 0, []), (104, 107, 51, 70, 2, []), (107, 110, 51, 86, 3, []), (110, 113, 3, 2, 1, []), (113, 116, 10, 64, 0, []), (116, 117, 1, 0, 1, []), (117, 120, 6, 130, 1, []), (120, 121, 1, 1, 0, []), (121, 124, 16, 2, 11, []), (124, 127, 50, 117, 0, []), (127, 130, 10, 134, 0, []), (130, 131, 1, 1, 0, []), (131, 134, 51, 87, 0, []), (134, 135, 60, 0, 0, [])]
/-- 103: LaidQuarrel.book(II)I -/
def t_X10_book : List ME := [(0, 1, 1, 0, 1, []), (1, 2, 0, (-1), 0, []), (2, 5, 7, 14, 1, []), (5, 6, 1, 1, 0, []), (6, 9, 16, 5, 11, []), (9, 12, 51, 59, 0, []), (12, 13, 0, 0, 0, []), (13, 14, 60, 0, 0, []), (14, 15, 1, 1, 0, []), (15, 16, 1, 0, 1, []), (16, 19, 51, 65, 1, []), (19, 22, 8, 24, 1, []), (22, 23, 0, (-1), 0, []), (23, 24, 60, 0, 0, []), (24, 25, 1, 0, 2, []), (25, 28, 0, (-999), 0, []), (28, 31, 0, 999, 0, []), (31, 34, 50, 111, 0, []), (34, 37, 6, 40, 1, []), (37, 39, 0, (-2), 0, []), (39, 40, 60, 0, 0, []), (40, 41, 1, 1, 0, []), (41, 44, 16, 5, 11, []), (44, 45, 1, 0, 1, []), (45, 46, 1, 0, 2, []), (46, 47, 0, 0, 0, []), (47, 50, 50, 116, 0, []), (50, 51, 60, 0, 0, [])]
/-- 104: LaidQuarrel.looked()I -/
def t_X10_looked : List ME := [(0, 1, 0, 0, 0, []), (1, 2, 2, 0, 1, []), (2, 3, 1, 0, 1, []), (3, 4, 1, 1, 0, []), (4, 7, 16, 5, 11, []), (7, 10, 16, 3, 8, []), (10, 13, 7, 60, 3, []), (13, 14, 1, 1, 0, []), (14, 15, 1, 1, 0, []), (15, 18, 16, 5, 11, []), (18, 19, 1, 0, 1, []), (19, 20, 0, 0, 0, []), (20, 23, 51, 70, 2, []), (23, 26, 51, 65, 1, []), (26, 27, 2, 1, 2, []), (27, 28, 1, 1, 2, []), (28, 31, 8, 54, 0, []), (31, 32, 1, 1, 0, []), (32, 33, 1, 1, 2, []), (33, 34, 1, 1, 2, []), (34, 37, 16, 3, 1, []), (37, 40, 51, 67, 2, []), (40, 41, 1, 1, 0, []), (41, 44, 16, 5, 11, []), (44, 45, 1, 0, 1, []), (45, 46, 0, 1, 0, []), (46, 49, 51, 70, 2, []), (49, 52, 7, 54, 0, []), (52, 53, 1, 0, 1, []), (53, 54, 60, 0, 0, []), (54, 57, 3, 1, 1, []), (57, 60, 10, 2, 0, []), (60, 62, 0, (-5), 0, []), (62, 63, 60, 0, 0, [])]
/-- 105: LaidQuarrel.act(III)I -/
def t_X10_act : List ME := [(0, 1, 1, 1, 0, []), (1, 4, 16, 6, 11, []), (4, 7, 51, 59, 0, []), (7, 8, 1, 1, 0, []), (8, 9, 1, 0, 1, []), (9, 12, 51, 65, 1, []), (12, 14, 2, 1, 4, []), (14, 16, 1, 1, 4, []), (16, 19, 8, 21, 1, []), (19, 20, 0, 0, 0, []), (20, 21, 60, 0, 0, []), (21, 22, 1, 0, 2, []), (22, 48, 40, 69, 0, [(0, 48), (1, 55), (2, 62)]), (48, 50, 1, 1, 4, []), (50, 51, 1, 0, 3, []), (51, 54, 51, 88, 1, []), (54, 55, 60, 0, 0, []), (55, 57, 1, 1, 4, []), (57, 58, 1, 0, 3, []), (58, 61, 51, 89, 1, []), (61, 62, 60, 0, 0, []), (62, 64, 1, 1, 4, []), (64, 65, 1, 0, 3, []), (65, 68, 51, 90, 1, []), (68, 69, 60, 0, 0, []), (69, 70, 0, 0, 0, []), (70, 71, 60, 0, 0, [])]
/-- 106: LaidQuarrel.trace(I)I -/
def t_X10_trace : List ME := [(0, 1, 1, 0, 1, []), (1, 2, 0, 0, 0, []), (2, 3, 1, 1, 0, []), (3, 6, 16, 6, 11, []), (6, 9, 16, 3, 8, []), (9, 10, 0, 1, 0, []), (10, 11, 4, 1, 0, []), (11, 14, 50, 111, 0, []), (14, 17, 6, 29, 0, []), (17, 18, 1, 1, 0, []), (18, 21, 16, 6, 11, []), (21, 22, 1, 0, 1, []), (22, 23, 0, 0, 0, []), (23, 26, 51, 70, 2, []), (26, 29, 10, 30, 0, []), (29, 30, 0, (-1), 0, []), (30, 31, 60, 0, 0, [])]
/-- 107: LaidQuarrel.as(II)I -/
def t_X10_as : List ME := [(0, 1, 1, 1, 0, []), (1, 2, 1, 0, 1, []), (2, 5, 51, 65, 1, []), (5, 6, 2, 1, 3, []), (6, 7, 1, 1, 3, []), (7, 10, 8, 20, 0, []), (10, 11, 1, 0, 2, []), (11, 12, 0, 0, 0, []), (12, 14, 0, 6, 0, []), (14, 17, 50, 111, 0, []), (17, 20, 6, 22, 1, []), (20, 21, 0, (-1), 0, []), (21, 22, 60, 0, 0, []), (22, 23, 1, 0, 2, []), (23, 24, 1, 1, 3, []), (24, 27, 16, 0, 1, []), (27, 30, 7, 45, 0, []), (30, 31, 1, 0, 2, []), (31, 32, 1, 1, 3, []), (32, 35, 16, 0, 1, []), (35, 38, 50, 115, 0, []), (38, 41, 7, 45, 0, []), (41, 42, 1, 0, 2, []), (42, 45, 6, 49, 1, []), (45, 46, 0, 1, 0, []), (46, 49, 10, 50, 0, []), (49, 50, 0, 0, 0, []), (50, 52, 2, 0, 4, []), (52, 54, 1, 0, 4, []), (54, 57, 6, 67, 0, []), (57, 58, 1, 1, 3, []), (58, 61, 16, 3, 1, []), (61, 64, 16, 1, 6, []), (64, 67, 10, 69, 0, []), (67, 69, 0, (-6), 0, []), (69, 70, 60, 0, 0, [])]
/-- 108: LaidQuarrel.image()I -/
def t_X10_image : List ME := [(0, 1, 1, 1, 0, []), (1, 4, 16, 0, 11, []), (4, 7, 51, 91, 0, []), (7, 8, 1, 1, 0, []), (8, 11, 16, 1, 11, []), (11, 14, 51, 91, 0, []), (14, 15, 1, 1, 0, []), (15, 18, 16, 3, 11, []), (18, 21, 51, 91, 0, []), (21, 22, 1, 1, 0, []), (22, 25, 16, 4, 11, []), (25, 28, 51, 91, 0, []), (28, 29, 1, 1, 0, []), (29, 32, 16, 5, 11, []), (32, 35, 51, 91, 0, []), (35, 36, 1, 1, 0, []), (36, 39, 16, 9, 11, []), (39, 42, 51, 92, 0, []), (42, 43, 0, 0, 0, []), (43, 44, 2, 0, 1, []), (44, 45, 1, 0, 1, []), (45, 46, 1, 1, 0, []), (46, 49, 16, 11, 11, []), (49, 54, 51, 61, 0, []), (54, 57, 7, 79, 3, []), (57, 58, 1, 1, 0, []), (58, 61, 16, 11, 11, []), (61, 62, 1, 0, 1, []), (62, 67, 51, 75, 1, []), (67, 70, 37, 1, 0, []), (70, 73, 51, 93, 0, []), (73, 76, 3, 1, 1, []), (76, 79, 10, 44, 0, []), (79, 80, 1, 1, 0, []), (80, 81, 1, 1, 0, []), (81, 84, 16, 11, 11, []), (84, 89, 51, 61, 0, []), (89, 92, 17, 14, 11, []), (92, 93, 1, 1, 0, []), (93, 94, 1, 1, 0, []), (94, 97, 16, 12, 11, []), (97, 100, 17, 15, 11, []), (100, 101, 1, 1, 0, []), (101, 102, 1, 1, 0, []), (102, 105, 16, 13, 11, []), (105, 108, 17, 16, 11, []), (108, 109, 1, 1, 0, []), (109, 112, 16, 14, 11, []), (112, 113, 60, 0, 0, [])]
/-- 109: LaidQuarrel.undo()I -/
def t_X10_undo : List ME := [(0, 1, 1, 1, 0, []), (1, 4, 16, 14, 11, []), (4, 7, 6, 10, 3, []), (7, 9, 0, (-3), 0, []), (9, 10, 60, 0, 0, []), (10, 11, 1, 1, 0, []), (11, 14, 16, 0, 11, []), (14, 17, 51, 94, 0, []), (17, 18, 1, 1, 0, []), (18, 21, 16, 1, 11, []), (21, 24, 51, 94, 0, []), (24, 25, 1, 1, 0, []), (25, 28, 16, 3, 11, []), (28, 31, 51, 94, 0, []), (31, 32, 1, 1, 0, []), (32, 35, 16, 4, 11, []), (35, 38, 51, 94, 0, []), (38, 39, 1, 1, 0, []), (39, 42, 16, 5, 11, []), (42, 45, 51, 94, 0, []), (45, 46, 1, 1, 0, []), (46, 49, 16, 9, 11, []), (49, 52, 51, 95, 0, []), (52, 53, 1, 1, 0, []), (53, 56, 16, 11, 11, []), (56, 61, 51, 61, 0, []), (61, 62, 0, 1, 0, []), (62, 63, 4, 1, 0, []), (63, 64, 2, 0, 1, []), (64, 65, 1, 0, 1, []), (65, 66, 1, 1, 0, []), (66, 69, 16, 14, 11, []), (69, 72, 7, 89, 2, []), (72, 73, 1, 1, 0, []), (73, 76, 16, 11, 11, []), (76, 77, 1, 0, 1, []), (77, 82, 51, 96, 1, []), (82, 83, 12, 0, 0, []), (83, 86, 3, 1, (-1), []), (86, 89, 10, 64, 0, []), (89, 90, 0, 0, 0, []), (90, 91, 2, 0, 1, []), (91, 92, 1, 0, 1, []), (92, 93, 1, 1, 0, []), (93, 96, 16, 11, 11, []), (96, 101, 51, 61, 0, []), (101, 104, 7, 126, 3, []), (104, 105, 1, 1, 0, []), (105, 108, 16, 11, 11, []), (108, 109, 1, 0, 1, []), (109, 114, 51, 75, 1, []), (114, 117, 37, 1, 0, []), (117, 120, 51, 97, 0, []), (120, 123, 3, 1, 1, []), (123, 126, 10, 91, 0, []), (126, 127, 1, 1, 0, []), (127, 128, 1, 1, 0, []), (128, 131, 16, 15, 11, []), (131, 134, 17, 12, 11, []), (134, 135, 1, 1, 0, []), (135, 136, 1, 1, 0, []), (136, 139, 16, 16, 11, []), (139, 142, 17, 13, 11, []), (142, 143, 1, 1, 0, []), (143, 146, 16, 11, 11, []), (146, 151, 51, 61, 0, []), (151, 152, 60, 0, 0, [])]
/-- 110: LaidQuarrel.count(I)I -/
def t_X10_count : List ME := [(0, 1, 1, 0, 1, []), (1, 48, 40, 111, 0, [(0, 48), (1, 58), (2, 63), (3, 71), (4, 79), (5, 87), (6, 95), (7, 103)]), (48, 49, 1, 1, 0, []), (49, 52, 16, 11, 11, []), (52, 57, 51, 61, 0, []), (57, 58, 60, 0, 0, []), (58, 59, 1, 1, 0, []), (59, 62, 16, 12, 11, []), (62, 63, 60, 0, 0, []), (63, 64, 1, 1, 0, []), (64, 67, 16, 3, 11, []), (67, 70, 16, 3, 8, []), (70, 71, 60, 0, 0, []), (71, 72, 1, 1, 0, []), (72, 75, 16, 4, 11, []), (75, 78, 16, 3, 8, []), (78, 79, 60, 0, 0, []), (79, 80, 1, 1, 0, []), (80, 83, 16, 5, 11, []), (83, 86, 16, 3, 8, []), (86, 87, 60, 0, 0, []), (87, 88, 1, 1, 0, []), (88, 91, 16, 0, 11, []), (91, 94, 16, 3, 8, []), (94, 95, 60, 0, 0, []), (95, 96, 1, 1, 0, []), (96, 99, 16, 6, 11, []), (99, 102, 16, 3, 8, []), (102, 103, 60, 0, 0, []), (103, 104, 1, 1, 0, []), (104, 107, 16, 1, 11, []), (107, 110, 16, 3, 8, []), (110, 111, 60, 0, 0, []), (111, 112, 0, (-1), 0, []), (112, 113, 60, 0, 0, [])]
/-- 111: LaidQuarrel.within(III)Z -/
def t_X10_within : List ME := [(0, 1, 1, 0, 0, []), (1, 2, 1, 0, 1, []), (2, 5, 7, 14, 2, []), (5, 6, 1, 0, 0, []), (6, 7, 1, 0, 2, []), (7, 10, 7, 14, 4, []), (10, 11, 0, 1, 0, []), (11, 14, 10, 15, 0, []), (14, 15, 0, 0, 0, []), (15, 16, 60, 0, 0, [])]
/-- 112: LaidQuarrel.isIn(II)Z -/
def t_X10_isIn : List ME := [(0, 1, 1, 0, 0, []), (1, 2, 1, 0, 1, []), (2, 3, 4, 9, 0, []), (3, 4, 0, 1, 0, []), (4, 5, 4, 5, 0, []), (5, 6, 0, 1, 0, []), (6, 9, 7, 13, 1, []), (9, 10, 0, 1, 0, []), (10, 13, 10, 14, 0, []), (13, 14, 0, 0, 0, []), (14, 15, 60, 0, 0, [])]
/-- 113: LaidQuarrel.nearer(II)I -/
def t_X10_nearer : List ME := [(0, 1, 1, 0, 0, []), (1, 4, 6, 14, 3, []), (4, 5, 0, 0, 0, []), (5, 6, 1, 0, 0, []), (6, 7, 1, 0, 1, []), (7, 8, 4, 0, 0, []), (8, 11, 50, 231, 0, []), (11, 14, 10, 21, 0, []), (14, 15, 0, 0, 0, []), (15, 16, 1, 0, 0, []), (16, 17, 1, 0, 1, []), (17, 18, 4, 1, 0, []), (18, 21, 50, 230, 0, []), (21, 22, 60, 0, 0, [])]
/-- 114: LaidQuarrel.heldMood(I)I -/
def t_X10_heldMood : List ME := [(0, 2, 0, (-99), 0, []), (2, 4, 0, 99, 0, []), (4, 5, 1, 0, 0, []), (5, 8, 50, 231, 0, []), (8, 11, 50, 230, 0, []), (11, 12, 60, 0, 0, [])]
/-- 115: LaidQuarrel.kindAbove(I)I -/
def t_X10_kindAbove : List ME := [(0, 1, 1, 0, 0, []), (1, 2, 0, 3, 0, []), (2, 5, 7, 11, 5, []), (5, 6, 1, 0, 0, []), (6, 7, 0, 3, 0, []), (7, 8, 4, 1, 0, []), (8, 11, 10, 12, 0, []), (11, 12, 0, 0, 0, []), (12, 13, 60, 0, 0, [])]
/-- 116: LaidQuarrel.added(LLaidQuarrel$Shelf;III)I -/
def t_X10_added : List ME := [(0, 1, 1, 1, 0, []), (1, 2, 1, 0, 1, []), (2, 3, 1, 0, 2, []), (3, 4, 1, 0, 3, []), (4, 7, 51, 64, 3, []), (7, 10, 6, 17, 0, []), (10, 11, 1, 1, 0, []), (11, 14, 16, 3, 8, []), (14, 17, 10, 19, 0, []), (17, 19, 0, (-4), 0, []), (19, 20, 60, 0, 0, [])]
/-- 117: LaidQuarrel.sum(LLaidQuarrel$Shelf;)I -/
def t_X10_sum : List ME := [(0, 1, 0, 0, 0, []), (1, 2, 2, 0, 1, []), (2, 3, 0, 0, 0, []), (3, 4, 2, 0, 2, []), (4, 5, 1, 0, 2, []), (5, 6, 1, 1, 0, []), (6, 9, 16, 3, 8, []), (9, 12, 7, 27, 3, []), (12, 13, 1, 0, 1, []), (13, 14, 1, 1, 0, []), (14, 15, 1, 0, 2, []), (15, 16, 0, 0, 0, []), (16, 19, 51, 70, 2, []), (19, 20, 4, 0, 0, []), (20, 21, 2, 0, 1, []), (21, 24, 3, 2, 1, []), (24, 27, 10, 4, 0, []), (27, 28, 1, 0, 1, []), (28, 29, 60, 0, 0, [])]
/-- 118: LaidQuarrel.fraction(III)J -/
def t_X10_fraction : List ME := [(0, 1, 1, 0, 1, []), (1, 2, 0, 1, 0, []), (2, 5, 7, 14, 2, []), (5, 6, 1, 0, 2, []), (6, 7, 0, 0, 0, []), (7, 8, 0, 1, 0, []), (8, 11, 50, 111, 0, []), (11, 14, 6, 18, 1, []), (14, 17, 34, (-9223372036854775808), 0, []), (17, 18, 62, 0, 0, []), (18, 19, 1, 0, 2, []), (19, 22, 6, 26, 1, []), (22, 23, 1, 0, 0, []), (23, 26, 10, 27, 0, []), (26, 27, 1, 0, 1, []), (27, 28, 2, 0, 3, []), (28, 29, 1, 0, 1, []), (29, 31, 2, 0, 4, []), (31, 33, 1, 0, 4, []), (33, 34, 0, 1, 0, []), (34, 37, 7, 63, 5, []), (37, 38, 1, 0, 0, []), (38, 40, 1, 0, 4, []), (40, 41, 4, 4, 0, []), (41, 44, 6, 57, 1, []), (44, 45, 1, 0, 1, []), (45, 47, 1, 0, 4, []), (47, 48, 4, 4, 0, []), (48, 51, 6, 57, 1, []), (51, 52, 1, 0, 3, []), (52, 54, 1, 0, 4, []), (54, 55, 4, 3, 0, []), (55, 56, 28, 0, 0, []), (56, 57, 62, 0, 0, []), (57, 60, 3, 4, (-1), []), (60, 63, 10, 31, 0, []), (63, 64, 1, 0, 3, []), (64, 65, 28, 0, 0, []), (65, 66, 62, 0, 0, [])]
/-- 119: LaidQuarrel.isGuest(I)Z -/
def t_X10_isGuest : List ME := [(0, 1, 1, 0, 1, []), (1, 4, 6, 19, 2, []), (4, 5, 1, 0, 1, []), (5, 6, 1, 1, 0, []), (6, 9, 16, 1, 11, []), (9, 12, 16, 3, 8, []), (12, 15, 7, 19, 3, []), (15, 16, 0, 1, 0, []), (16, 19, 10, 20, 0, []), (19, 20, 0, 0, 0, []), (20, 21, 60, 0, 0, [])]
/-- 120: LaidQuarrel.bottleAt(I)LLaidQuarrel$Bottle; -/
def t_X10_bottleAt : List ME := [(0, 1, 1, 0, 1, []), (1, 4, 6, 33, 2, []), (4, 5, 1, 0, 1, []), (5, 6, 1, 1, 0, []), (6, 9, 16, 11, 11, []), (9, 14, 51, 61, 0, []), (14, 17, 7, 33, 3, []), (17, 18, 1, 1, 0, []), (18, 21, 16, 11, 11, []), (21, 22, 1, 0, 1, []), (22, 27, 51, 75, 1, []), (27, 30, 37, 1, 0, []), (30, 33, 10, 34, 0, []), (33, 34, 15, 0, 0, []), (34, 35, 61, 0, 0, [])]
/-- 121: LaidQuarrel.madeOf(I)LLaidQuarrel$Bottle; -/
def t_X10_madeOf : List ME := [(0, 1, 1, 1, 0, []), (1, 4, 16, 11, 11, []), (4, 9, 51, 61, 0, []), (9, 10, 2, 0, 2, []), (10, 11, 1, 0, 1, []), (11, 48, 40, 132, 0, [(1, 48), (2, 62), (3, 76), (4, 90), (5, 104), (6, 118)]), (48, 51, 25, 5, 0, []), (51, 52, 11, 0, 0, []), (52, 53, 1, 0, 1, []), (53, 54, 1, 0, 2, []), (54, 55, 1, 1, 0, []), (55, 58, 16, 6, 11, []), (58, 61, 51, 98, 3, []), (61, 62, 61, 0, 0, []), (62, 65, 25, 9, 0, []), (65, 66, 11, 0, 0, []), (66, 67, 1, 0, 1, []), (67, 68, 1, 0, 2, []), (68, 69, 1, 1, 0, []), (69, 72, 16, 6, 11, []), (72, 75, 51, 99, 3, []), (75, 76, 61, 0, 0, []), (76, 79, 25, 3, 0, []), (79, 80, 11, 0, 0, []), (80, 81, 1, 0, 1, []), (81, 82, 1, 0, 2, []), (82, 83, 1, 1, 0, []), (83, 86, 16, 6, 11, []), (86, 89, 51, 100, 3, []), (89, 90, 61, 0, 0, []), (90, 93, 25, 4, 0, []), (93, 94, 11, 0, 0, []), (94, 95, 1, 0, 1, []), (95, 96, 1, 0, 2, []), (96, 97, 1, 1, 0, []), (97, 100, 16, 6, 11, []), (100, 103, 51, 101, 3, []), (103, 104, 61, 0, 0, []), (104, 107, 25, 7, 0, []), (107, 108, 11, 0, 0, []), (108, 109, 1, 0, 1, []), (109, 110, 1, 0, 2, []), (110, 111, 1, 1, 0, []), (111, 114, 16, 6, 11, []), (114, 117, 51, 102, 3, []), (117, 118, 61, 0, 0, []), (118, 121, 25, 10, 0, []), (121, 122, 11, 0, 0, []), (122, 123, 1, 0, 1, []), (123, 124, 1, 0, 2, []), (124, 125, 1, 1, 0, []), (125, 128, 16, 6, 11, []), (128, 131, 51, 103, 3, []), (131, 132, 61, 0, 0, []), (132, 135, 25, 1, 0, []), (135, 136, 11, 0, 0, []), (136, 137, 1, 0, 1, []), (137, 138, 1, 0, 2, []), (138, 139, 1, 1, 0, []), (139, 142, 16, 6, 11, []), (142, 145, 51, 104, 3, []), (145, 146, 61, 0, 0, [])]
/-- 122: LaidQuarrel.says(LLaidQuarrel$Bottle;LLaidQuarrel$Laid;)I -/
def t_X10_says : List ME := [(0, 1, 1, 1, 1, []), (1, 2, 1, 1, 2, []), (2, 3, 1, 1, 0, []), (3, 6, 16, 9, 11, []), (6, 7, 1, 1, 1, []), (7, 8, 1, 1, 2, []), (8, 11, 51, 66, 2, []), (11, 14, 51, 105, 2, []), (14, 15, 60, 0, 0, [])]
/-- 123: LaidQuarrel.allSay(I)I -/
def t_X10_allSay : List ME := [(0, 1, 0, 0, 0, []), (1, 2, 2, 0, 2, []), (2, 3, 0, 0, 0, []), (3, 4, 2, 0, 3, []), (4, 5, 1, 0, 3, []), (5, 6, 1, 1, 0, []), (6, 9, 16, 11, 11, []), (9, 14, 51, 61, 0, []), (14, 17, 7, 64, 3, []), (17, 18, 1, 1, 0, []), (18, 21, 16, 11, 11, []), (21, 22, 1, 0, 3, []), (22, 27, 51, 75, 1, []), (27, 30, 37, 1, 0, []), (30, 32, 2, 1, 4, []), (32, 34, 1, 1, 4, []), (34, 37, 16, 3, 1, []), (37, 40, 16, 5, 6, []), (40, 43, 6, 58, 1, []), (43, 44, 1, 0, 2, []), (44, 45, 1, 1, 0, []), (45, 47, 1, 1, 4, []), (47, 49, 1, 1, 4, []), (49, 50, 1, 0, 1, []), (50, 53, 51, 78, 1, []), (53, 56, 51, 67, 2, []), (56, 57, 4, 0, 0, []), (57, 58, 2, 0, 2, []), (58, 61, 3, 3, 1, []), (61, 64, 10, 4, 0, []), (64, 65, 1, 0, 2, []), (65, 66, 60, 0, 0, [])]
/-- 124: LaidQuarrel.fullOnes()I -/
def t_X10_fullOnes : List ME := [(0, 1, 0, 0, 0, []), (1, 2, 2, 0, 1, []), (2, 3, 0, 0, 0, []), (3, 4, 2, 0, 2, []), (4, 5, 1, 0, 2, []), (5, 6, 1, 1, 0, []), (6, 9, 16, 11, 11, []), (9, 14, 51, 61, 0, []), (14, 17, 7, 51, 3, []), (17, 18, 1, 1, 0, []), (18, 21, 16, 11, 11, []), (21, 22, 1, 0, 2, []), (22, 27, 51, 75, 1, []), (27, 30, 37, 1, 0, []), (30, 33, 16, 3, 1, []), (33, 36, 16, 5, 6, []), (36, 39, 6, 45, 1, []), (39, 40, 1, 0, 1, []), (40, 41, 0, 1, 0, []), (41, 42, 1, 0, 2, []), (42, 43, 4, 8, 0, []), (43, 44, 4, 6, 0, []), (44, 45, 2, 0, 1, []), (45, 48, 3, 2, 1, []), (48, 51, 10, 4, 0, []), (51, 52, 1, 0, 1, []), (52, 53, 60, 0, 0, [])]
/-- 125: LaidQuarrel.hearAll()V -/
def t_X10_hearAll : List ME := [(0, 1, 1, 1, 0, []), (1, 4, 16, 7, 11, []), (4, 7, 51, 59, 0, []), (7, 8, 0, 0, 0, []), (8, 9, 2, 0, 1, []), (9, 10, 1, 0, 1, []), (10, 11, 1, 1, 0, []), (11, 14, 16, 11, 11, []), (14, 19, 51, 61, 0, []), (19, 22, 7, 61, 3, []), (22, 23, 1, 1, 0, []), (23, 26, 16, 11, 11, []), (26, 27, 1, 0, 1, []), (27, 32, 51, 75, 1, []), (32, 35, 37, 1, 0, []), (35, 36, 2, 1, 2, []), (36, 37, 1, 1, 0, []), (37, 40, 16, 7, 11, []), (40, 41, 1, 1, 0, []), (41, 42, 1, 1, 2, []), (42, 43, 1, 1, 2, []), (43, 46, 16, 3, 1, []), (46, 49, 51, 67, 2, []), (49, 50, 0, 0, 0, []), (50, 51, 0, 0, 0, []), (51, 54, 51, 64, 3, []), (54, 55, 12, 0, 0, []), (55, 58, 3, 1, 1, []), (58, 61, 10, 9, 0, []), (61, 62, 63, 0, 0, [])]
/-- 126: LaidQuarrel.saidBy(I)I -/
def t_X10_saidBy : List ME := [(0, 1, 0, 0, 0, []), (1, 2, 2, 0, 2, []), (2, 3, 0, 0, 0, []), (3, 4, 2, 0, 3, []), (4, 5, 1, 0, 3, []), (5, 6, 1, 1, 0, []), (6, 9, 16, 7, 11, []), (9, 12, 16, 3, 8, []), (12, 15, 7, 41, 3, []), (15, 16, 1, 0, 1, []), (16, 17, 1, 0, 3, []), (17, 20, 50, 112, 0, []), (20, 23, 6, 35, 0, []), (23, 24, 1, 0, 2, []), (24, 25, 1, 1, 0, []), (25, 28, 16, 7, 11, []), (28, 29, 1, 0, 3, []), (29, 30, 0, 0, 0, []), (30, 33, 51, 70, 2, []), (33, 34, 4, 0, 0, []), (34, 35, 2, 0, 2, []), (35, 38, 3, 3, 1, []), (38, 41, 10, 4, 0, []), (41, 42, 1, 0, 2, []), (42, 43, 60, 0, 0, [])]
/-- 127: LaidQuarrel.lift(LLaidQuarrel$Shelf;II)I -/
def t_X10_lift : List ME := [(0, 1, 1, 1, 0, []), (1, 2, 1, 0, 1, []), (2, 3, 0, 0, 0, []), (3, 6, 51, 70, 2, []), (6, 7, 1, 0, 2, []), (7, 8, 4, 0, 0, []), (8, 11, 50, 114, 0, []), (11, 12, 2, 0, 3, []), (12, 13, 1, 1, 0, []), (13, 14, 1, 0, 1, []), (14, 15, 1, 0, 3, []), (15, 18, 51, 106, 2, []), (18, 19, 1, 0, 3, []), (19, 20, 60, 0, 0, [])]
/-- 128: LaidQuarrel.calmDown(LLaidQuarrel$Shelf;I)V -/
def t_X10_calmDown : List ME := [(0, 1, 1, 1, 0, []), (1, 4, 16, 9, 11, []), (4, 7, 51, 71, 0, []), (7, 8, 1, 0, 2, []), (8, 9, 4, 2, 0, []), (9, 10, 2, 0, 3, []), (10, 11, 0, 0, 0, []), (11, 13, 2, 0, 4, []), (13, 15, 1, 0, 4, []), (15, 16, 1, 1, 1, []), (16, 19, 16, 3, 8, []), (19, 22, 7, 45, 3, []), (22, 23, 1, 1, 1, []), (23, 25, 1, 0, 4, []), (25, 26, 1, 1, 1, []), (26, 28, 1, 0, 4, []), (28, 29, 0, 0, 0, []), (29, 32, 51, 70, 2, []), (32, 33, 1, 0, 3, []), (33, 36, 50, 113, 0, []), (36, 39, 51, 106, 2, []), (39, 42, 3, 4, 1, []), (42, 45, 10, 13, 0, []), (45, 46, 63, 0, 0, [])]
/-- 129: LaidQuarrel.bestLine(LLaidQuarrel$Shelf;III)I -/
def t_X10_bestLine : List ME := [(0, 1, 1, 0, 1, []), (1, 4, 6, 13, 0, []), (4, 5, 1, 0, 1, []), (5, 8, 50, 228, 0, []), (8, 10, 0, 6, 0, []), (10, 13, 7, 23, 5, []), (13, 14, 1, 0, 2, []), (14, 16, 0, 99, 0, []), (16, 17, 4, 0, 0, []), (17, 19, 0, 18, 0, []), (19, 20, 4, 8, 0, []), (20, 21, 1, 0, 3, []), (21, 22, 4, 6, 0, []), (22, 23, 60, 0, 0, []), (23, 24, 0, (-1), 0, []), (24, 26, 2, 0, 4, []), (26, 27, 0, 0, 0, []), (27, 29, 2, 0, 5, []), (29, 31, 1, 0, 5, []), (31, 32, 1, 1, 0, []), (32, 35, 16, 3, 8, []), (35, 38, 7, 105, 3, []), (38, 39, 1, 0, 1, []), (39, 41, 1, 0, 5, []), (41, 44, 50, 112, 0, []), (44, 47, 6, 99, 0, []), (47, 48, 1, 1, 0, []), (48, 49, 1, 0, 1, []), (49, 50, 0, 1, 0, []), (50, 52, 1, 0, 5, []), (52, 53, 4, 8, 0, []), (53, 54, 4, 7, 0, []), (54, 55, 1, 0, 2, []), (55, 56, 1, 1, 0, []), (56, 58, 1, 0, 5, []), (58, 59, 0, 0, 0, []), (59, 62, 51, 70, 2, []), (62, 63, 4, 0, 0, []), (63, 66, 50, 114, 0, []), (66, 67, 1, 0, 3, []), (67, 68, 0, 3, 0, []), (68, 69, 4, 8, 0, []), (69, 71, 1, 0, 5, []), (71, 72, 4, 6, 0, []), (72, 75, 50, 129, 0, []), (75, 77, 2, 0, 6, []), (77, 79, 1, 0, 4, []), (79, 82, 6, 95, 2, []), (82, 84, 1, 0, 6, []), (84, 87, 50, 130, 0, []), (87, 89, 1, 0, 4, []), (89, 92, 50, 130, 0, []), (92, 95, 7, 99, 5, []), (95, 97, 1, 0, 6, []), (97, 99, 2, 0, 4, []), (99, 102, 3, 5, 1, []), (102, 105, 10, 29, 0, []), (105, 107, 1, 0, 4, []), (107, 108, 60, 0, 0, [])]
/-- 130: LaidQuarrel.moodOf(I)I -/
def t_X10_moodOf : List ME := [(0, 1, 1, 0, 0, []), (1, 3, 0, 18, 0, []), (3, 4, 4, 9, 0, []), (4, 6, 0, 99, 0, []), (6, 7, 4, 1, 0, []), (7, 8, 60, 0, 0, [])]
/-- 131: LaidQuarrel.countPairs(I)V -/
def t_X10_countPairs : List ME := [(0, 1, 1, 1, 0, []), (1, 4, 16, 8, 11, []), (4, 7, 51, 59, 0, []), (7, 8, 0, 0, 0, []), (8, 9, 2, 0, 2, []), (9, 10, 1, 0, 2, []), (10, 11, 1, 0, 1, []), (11, 14, 7, 123, 4, []), (14, 15, 1, 0, 2, []), (15, 18, 50, 227, 0, []), (18, 19, 2, 0, 3, []), (19, 20, 1, 0, 2, []), (20, 21, 1, 0, 2, []), (21, 22, 0, 1, 0, []), (22, 23, 4, 1, 0, []), (23, 24, 4, 5, 0, []), (24, 26, 2, 0, 4, []), (26, 27, 1, 1, 0, []), (27, 30, 16, 8, 11, []), (30, 32, 1, 0, 4, []), (32, 33, 0, 0, 0, []), (33, 36, 51, 70, 2, []), (36, 38, 2, 0, 5, []), (38, 39, 1, 0, 3, []), (39, 40, 0, 1, 0, []), (40, 41, 4, 0, 0, []), (41, 43, 2, 0, 6, []), (43, 45, 1, 0, 6, []), (45, 46, 1, 1, 0, []), (46, 49, 16, 7, 11, []), (49, 52, 16, 3, 8, []), (52, 55, 7, 105, 3, []), (55, 57, 1, 0, 4, []), (57, 59, 1, 0, 6, []), (59, 62, 50, 112, 0, []), (62, 65, 6, 99, 0, []), (65, 66, 1, 1, 0, []), (66, 67, 1, 0, 3, []), (67, 69, 1, 0, 6, []), (69, 72, 51, 107, 2, []), (72, 75, 6, 99, 0, []), (75, 77, 1, 0, 5, []), (77, 78, 0, 1, 0, []), (78, 79, 1, 1, 0, []), (79, 82, 16, 8, 11, []), (82, 84, 1, 0, 4, []), (84, 85, 0, 1, 0, []), (85, 87, 1, 0, 6, []), (87, 88, 4, 8, 0, []), (88, 89, 4, 7, 0, []), (89, 90, 0, 0, 0, []), (90, 93, 51, 70, 2, []), (93, 94, 4, 0, 0, []), (94, 97, 50, 230, 0, []), (97, 99, 2, 0, 5, []), (99, 102, 3, 6, 1, []), (102, 105, 10, 43, 0, []), (105, 106, 1, 1, 0, []), (106, 109, 16, 8, 11, []), (109, 111, 1, 0, 5, []), (111, 112, 0, 0, 0, []), (112, 113, 0, 0, 0, []), (113, 116, 51, 64, 3, []), (116, 117, 12, 0, 0, []), (117, 120, 3, 2, 1, []), (120, 123, 10, 9, 0, []), (123, 124, 63, 0, 0, [])]
/-- 132: LaidQuarrel.makesPeace(II)Z -/
def t_X10_makesPeace : List ME := [(0, 1, 1, 1, 0, []), (1, 4, 16, 7, 11, []), (4, 5, 1, 0, 1, []), (5, 6, 0, 0, 0, []), (6, 9, 51, 70, 2, []), (9, 10, 1, 1, 0, []), (10, 13, 16, 7, 11, []), (13, 14, 1, 0, 2, []), (14, 15, 0, 0, 0, []), (15, 18, 51, 70, 2, []), (18, 19, 4, 0, 0, []), (19, 22, 50, 229, 0, []), (22, 23, 1, 1, 0, []), (23, 26, 16, 9, 11, []), (26, 29, 51, 72, 0, []), (29, 32, 7, 36, 4, []), (32, 33, 0, 1, 0, []), (33, 36, 10, 37, 0, []), (36, 37, 0, 0, 0, []), (37, 38, 60, 0, 0, [])]
/-- 133: LaidQuarrel.partnerOf(II)I -/
def t_X10_partnerOf : List ME := [(0, 1, 1, 0, 2, []), (1, 2, 2, 0, 3, []), (2, 3, 0, 0, 0, []), (3, 5, 2, 0, 4, []), (5, 7, 1, 0, 4, []), (7, 8, 1, 1, 0, []), (8, 11, 16, 7, 11, []), (11, 14, 16, 3, 8, []), (14, 17, 7, 93, 3, []), (17, 18, 1, 0, 3, []), (18, 20, 1, 0, 4, []), (20, 23, 50, 112, 0, []), (23, 26, 6, 36, 0, []), (26, 27, 1, 1, 0, []), (27, 29, 1, 0, 4, []), (29, 30, 1, 0, 3, []), (30, 33, 51, 108, 2, []), (33, 36, 10, 38, 0, []), (36, 38, 0, (-5), 0, []), (38, 40, 2, 0, 5, []), (40, 42, 1, 0, 4, []), (42, 43, 1, 0, 1, []), (43, 46, 7, 52, 0, []), (46, 48, 1, 0, 5, []), (48, 49, 1, 0, 1, []), (49, 52, 7, 66, 1, []), (52, 54, 1, 0, 4, []), (54, 55, 1, 0, 1, []), (55, 58, 7, 63, 1, []), (58, 60, 1, 0, 5, []), (60, 63, 10, 65, 0, []), (63, 65, 1, 0, 4, []), (65, 66, 60, 0, 0, []), (66, 67, 1, 0, 3, []), (67, 68, 0, 1, 0, []), (68, 70, 1, 0, 4, []), (70, 71, 4, 8, 0, []), (71, 72, 0, (-1), 0, []), (72, 73, 4, 7, 0, []), (73, 74, 4, 5, 0, []), (74, 75, 2, 0, 3, []), (75, 77, 1, 0, 5, []), (77, 80, 6, 87, 2, []), (80, 81, 1, 0, 3, []), (81, 82, 0, 1, 0, []), (82, 84, 1, 0, 5, []), (84, 85, 4, 8, 0, []), (85, 86, 4, 7, 0, []), (86, 87, 2, 0, 3, []), (87, 90, 3, 4, 1, []), (90, 93, 10, 5, 0, []), (93, 95, 0, (-5), 0, []), (95, 96, 60, 0, 0, [])]
/-- 134: LaidQuarrel.leastPartner(II)I -/
def t_X10_leastPartner : List ME := [(0, 1, 1, 0, 2, []), (1, 2, 0, 1, 0, []), (2, 3, 1, 0, 1, []), (3, 4, 4, 8, 0, []), (4, 5, 4, 7, 0, []), (5, 6, 2, 0, 3, []), (6, 7, 1, 0, 1, []), (7, 8, 0, 1, 0, []), (8, 9, 4, 0, 0, []), (9, 11, 2, 0, 4, []), (11, 13, 1, 0, 4, []), (13, 14, 1, 1, 0, []), (14, 17, 16, 7, 11, []), (17, 20, 16, 3, 8, []), (20, 23, 7, 79, 3, []), (23, 24, 1, 0, 3, []), (24, 26, 1, 0, 4, []), (26, 29, 50, 112, 0, []), (29, 32, 6, 73, 0, []), (32, 33, 1, 1, 0, []), (33, 34, 1, 0, 1, []), (34, 36, 1, 0, 4, []), (36, 39, 51, 107, 2, []), (39, 42, 6, 73, 0, []), (42, 43, 0, 1, 0, []), (43, 44, 1, 1, 0, []), (44, 47, 16, 8, 11, []), (47, 48, 1, 0, 3, []), (48, 49, 0, 1, 0, []), (49, 51, 1, 0, 4, []), (51, 52, 4, 8, 0, []), (52, 53, 4, 7, 0, []), (53, 54, 0, 0, 0, []), (54, 57, 51, 70, 2, []), (57, 58, 4, 0, 0, []), (58, 59, 1, 1, 0, []), (59, 62, 16, 8, 11, []), (62, 63, 1, 0, 2, []), (63, 64, 0, 0, 0, []), (64, 67, 51, 70, 2, []), (67, 70, 7, 73, 1, []), (70, 72, 1, 0, 4, []), (72, 73, 60, 0, 0, []), (73, 76, 3, 4, 1, []), (76, 79, 10, 11, 0, []), (79, 81, 0, (-5), 0, []), (81, 82, 60, 0, 0, [])]
/-- 135: LaidQuarrel.allSeenIsSo(III)Z -/
def t_X10_allSeenIsSo : List ME := [(0, 1, 0, 0, 0, []), (1, 3, 2, 0, 4, []), (3, 5, 1, 0, 4, []), (5, 6, 1, 1, 0, []), (6, 9, 16, 3, 11, []), (9, 12, 16, 3, 8, []), (12, 15, 7, 109, 3, []), (15, 16, 1, 1, 0, []), (16, 19, 16, 3, 11, []), (19, 21, 1, 0, 4, []), (21, 22, 0, 0, 0, []), (22, 25, 51, 70, 2, []), (25, 27, 2, 0, 5, []), (27, 28, 1, 1, 0, []), (28, 30, 1, 0, 5, []), (30, 33, 51, 65, 1, []), (33, 35, 2, 1, 6, []), (35, 37, 1, 1, 6, []), (37, 40, 8, 103, 0, []), (40, 42, 1, 1, 6, []), (42, 45, 51, 80, 0, []), (45, 47, 2, 1, 7, []), (47, 49, 1, 0, 5, []), (49, 50, 1, 0, 1, []), (50, 53, 7, 65, 1, []), (53, 55, 1, 1, 7, []), (55, 56, 1, 0, 2, []), (56, 59, 17, 3, 6, []), (59, 61, 1, 1, 7, []), (61, 62, 1, 0, 3, []), (62, 65, 17, 1, 6, []), (65, 67, 1, 1, 7, []), (67, 68, 1, 1, 0, []), (68, 71, 16, 3, 11, []), (71, 73, 1, 0, 4, []), (73, 74, 0, 2, 0, []), (74, 77, 51, 70, 2, []), (77, 80, 51, 76, 1, []), (80, 81, 1, 1, 0, []), (81, 83, 1, 1, 6, []), (83, 85, 1, 1, 7, []), (85, 88, 51, 67, 2, []), (88, 89, 1, 1, 0, []), (89, 92, 16, 3, 11, []), (92, 94, 1, 0, 4, []), (94, 95, 0, 1, 0, []), (95, 98, 51, 70, 2, []), (98, 101, 7, 103, 0, []), (101, 102, 0, 0, 0, []), (102, 103, 60, 0, 0, []), (103, 106, 3, 4, 1, []), (106, 109, 10, 3, 0, []), (109, 110, 0, 1, 0, []), (110, 111, 60, 0, 0, [])]
/-- 136: LaidQuarrel.tryRow(ILLaidQuarrel$Bottle;I)V -/
def t_X10_tryRow : List ME := [(0, 1, 1, 0, 1, []), (1, 4, 6, 60, 1, []), (4, 5, 0, 0, 0, []), (5, 7, 2, 0, 4, []), (7, 9, 1, 0, 4, []), (9, 10, 1, 1, 0, []), (10, 13, 16, 11, 11, []), (13, 18, 51, 61, 0, []), (18, 21, 7, 48, 3, []), (21, 22, 1, 1, 0, []), (22, 25, 16, 11, 11, []), (25, 27, 1, 0, 4, []), (27, 32, 51, 75, 1, []), (32, 35, 37, 1, 0, []), (35, 38, 16, 5, 1, []), (38, 39, 0, 1, 0, []), (39, 42, 51, 76, 1, []), (42, 45, 3, 4, 1, []), (45, 48, 10, 7, 0, []), (48, 49, 1, 1, 0, []), (49, 50, 1, 1, 0, []), (50, 53, 16, 2, 11, []), (53, 54, 0, 1, 0, []), (54, 57, 51, 77, 2, []), (57, 60, 10, 155, 0, []), (60, 61, 1, 1, 2, []), (61, 64, 8, 108, 0, []), (64, 65, 1, 0, 1, []), (65, 66, 0, 1, 0, []), (66, 69, 7, 108, 1, []), (69, 70, 1, 1, 2, []), (70, 73, 16, 5, 1, []), (73, 76, 16, 5, 6, []), (76, 79, 6, 108, 1, []), (79, 80, 1, 1, 0, []), (80, 83, 16, 2, 11, []), (83, 84, 1, 0, 3, []), (84, 85, 1, 1, 0, []), (85, 86, 1, 1, 2, []), (86, 87, 1, 1, 2, []), (87, 90, 16, 5, 1, []), (90, 93, 51, 67, 2, []), (93, 96, 50, 127, 0, []), (96, 97, 12, 0, 0, []), (97, 98, 1, 1, 2, []), (98, 101, 16, 5, 1, []), (101, 102, 0, 1, 0, []), (102, 105, 17, 5, 6, []), (105, 108, 10, 155, 0, []), (108, 109, 1, 1, 2, []), (109, 112, 8, 138, 0, []), (112, 113, 1, 0, 1, []), (113, 114, 0, 2, 0, []), (114, 117, 7, 138, 1, []), (117, 118, 1, 1, 2, []), (118, 121, 16, 5, 1, []), (121, 122, 1, 1, 2, []), (122, 125, 16, 5, 1, []), (125, 128, 16, 4, 6, []), (128, 129, 0, 1, 0, []), (129, 130, 4, 0, 0, []), (130, 131, 0, 4, 0, []), (131, 132, 4, 4, 0, []), (132, 135, 17, 4, 6, []), (135, 138, 10, 155, 0, []), (138, 139, 1, 1, 2, []), (139, 142, 8, 155, 0, []), (142, 143, 1, 0, 1, []), (143, 144, 0, 3, 0, []), (144, 147, 7, 155, 1, []), (147, 148, 1, 1, 2, []), (148, 151, 16, 5, 1, []), (151, 152, 0, 0, 0, []), (152, 155, 17, 2, 6, []), (155, 156, 63, 0, 0, [])]
/-- 137: LaidQuarrel.allSayAsTried()I -/
def t_X10_allSayAsTried : List ME := [(0, 1, 0, 0, 0, []), (1, 2, 2, 0, 1, []), (2, 3, 0, 0, 0, []), (3, 4, 2, 0, 2, []), (4, 5, 1, 0, 2, []), (5, 6, 1, 1, 0, []), (6, 9, 16, 11, 11, []), (9, 14, 51, 61, 0, []), (14, 17, 7, 59, 3, []), (17, 18, 1, 1, 0, []), (18, 21, 16, 11, 11, []), (21, 22, 1, 0, 2, []), (22, 27, 51, 75, 1, []), (27, 30, 37, 1, 0, []), (30, 31, 2, 1, 3, []), (31, 32, 1, 1, 3, []), (32, 35, 16, 5, 1, []), (35, 38, 16, 5, 6, []), (38, 41, 6, 53, 1, []), (41, 42, 1, 0, 1, []), (42, 43, 1, 1, 0, []), (43, 44, 1, 1, 3, []), (44, 45, 1, 1, 3, []), (45, 48, 16, 5, 1, []), (48, 51, 51, 67, 2, []), (51, 52, 4, 0, 0, []), (52, 53, 2, 0, 1, []), (53, 56, 3, 2, 1, []), (56, 59, 10, 4, 0, []), (59, 60, 1, 0, 1, []), (60, 61, 60, 0, 0, [])]
/-- 138: LaidQuarrelModel.<init>()V -/
def t_X11_init : List ME := [(0, 1, 1, 1, 0, []), (1, 4, 53, 0, 0, []), (4, 5, 1, 1, 0, []), (5, 8, 0, 943, 0, []), (8, 10, 26, 20, 0, []), (10, 13, 17, 1, 12, []), (13, 14, 1, 1, 0, []), (14, 17, 0, 943, 0, []), (17, 19, 26, 20, 0, []), (19, 22, 17, 2, 12, []), (22, 23, 1, 1, 0, []), (23, 25, 0, 29, 0, []), (25, 27, 26, 20, 0, []), (27, 30, 17, 3, 12, []), (30, 31, 1, 1, 0, []), (31, 33, 0, 6, 0, []), (33, 35, 26, 20, 0, []), (35, 38, 17, 10, 12, []), (38, 39, 1, 1, 0, []), (39, 41, 0, 64, 0, []), (41, 43, 26, 21, 0, []), (43, 46, 17, 11, 12, []), (46, 47, 1, 1, 0, []), (47, 49, 0, 6, 0, []), (49, 51, 26, 20, 0, []), (51, 54, 17, 12, 12, []), (54, 55, 1, 1, 0, []), (55, 57, 0, 6, 0, []), (57, 59, 26, 20, 0, []), (59, 62, 17, 13, 12, []), (62, 63, 1, 1, 0, []), (63, 65, 0, 6, 0, []), (65, 67, 26, 20, 0, []), (67, 70, 17, 14, 12, []), (70, 71, 1, 1, 0, []), (71, 73, 0, 6, 0, []), (73, 75, 26, 20, 0, []), (75, 78, 17, 16, 12, []), (78, 79, 1, 1, 0, []), (79, 81, 0, 6, 0, []), (81, 83, 26, 20, 0, []), (83, 86, 17, 17, 12, []), (86, 87, 1, 1, 0, []), (87, 89, 0, 20, 0, []), (89, 91, 26, 20, 0, []), (91, 94, 17, 19, 12, []), (94, 95, 1, 1, 0, []), (95, 98, 16, 1, 12, []), (98, 100, 0, 35, 0, []), (100, 101, 0, (-1), 0, []), (101, 102, 19, 0, 0, []), (102, 103, 63, 0, 0, [])]
/-- 139: LaidQuarrelModel.in(III)Z -/
def t_X11_in : List ME := [(0, 1, 1, 0, 0, []), (1, 2, 1, 0, 1, []), (2, 5, 7, 14, 2, []), (5, 6, 1, 0, 0, []), (6, 7, 1, 0, 2, []), (7, 10, 7, 14, 4, []), (10, 11, 0, 1, 0, []), (11, 14, 10, 15, 0, []), (14, 15, 0, 0, 0, []), (15, 16, 60, 0, 0, [])]
/-- 140: LaidQuarrelModel.within(III)I -/
def t_X11_within : List ME := [(0, 1, 1, 0, 0, []), (1, 2, 1, 0, 1, []), (2, 5, 7, 9, 3, []), (5, 6, 1, 0, 1, []), (6, 9, 10, 19, 0, []), (9, 10, 1, 0, 0, []), (10, 11, 1, 0, 2, []), (11, 14, 7, 18, 5, []), (14, 15, 1, 0, 2, []), (15, 18, 10, 19, 0, []), (18, 19, 1, 0, 0, []), (19, 20, 60, 0, 0, [])]
/-- 141: LaidQuarrelModel.size(I)I -/
def t_X11_size : List ME := [(0, 1, 1, 0, 0, []), (1, 4, 6, 9, 3, []), (4, 5, 1, 0, 0, []), (5, 6, 5, 0, 0, []), (6, 9, 10, 10, 0, []), (9, 10, 1, 0, 0, []), (10, 11, 60, 0, 0, [])]
/-- 142: LaidQuarrelModel.nearer(II)I -/
def t_X11_nearer : List ME := [(0, 1, 1, 0, 0, []), (1, 4, 50, 141, 0, []), (4, 5, 1, 0, 1, []), (5, 8, 7, 12, 4, []), (8, 9, 0, 0, 0, []), (9, 12, 10, 25, 0, []), (12, 13, 1, 0, 0, []), (13, 16, 6, 22, 5, []), (16, 17, 1, 0, 0, []), (17, 18, 1, 0, 1, []), (18, 19, 4, 1, 0, []), (19, 22, 10, 25, 0, []), (22, 23, 1, 0, 0, []), (23, 24, 1, 0, 1, []), (24, 25, 4, 0, 0, []), (25, 26, 60, 0, 0, [])]
/-- 143: LaidQuarrelModel.isBottle(I)Z -/
def t_X11_isBottle : List ME := [(0, 1, 1, 0, 1, []), (1, 2, 0, 0, 0, []), (2, 3, 1, 1, 0, []), (3, 6, 16, 1, 12, []), (6, 8, 0, 29, 0, []), (8, 9, 18, 0, 0, []), (9, 10, 0, 1, 0, []), (10, 11, 4, 1, 0, []), (11, 14, 50, 139, 0, []), (14, 15, 60, 0, 0, [])]
/-- 144: LaidQuarrelModel.isGuest(I)Z -/
def t_X11_isGuest : List ME := [(0, 1, 1, 0, 1, []), (1, 2, 0, 0, 0, []), (2, 3, 1, 1, 0, []), (3, 6, 16, 1, 12, []), (6, 8, 0, 36, 0, []), (8, 9, 18, 0, 0, []), (9, 10, 0, 1, 0, []), (10, 11, 4, 1, 0, []), (11, 14, 50, 139, 0, []), (14, 15, 60, 0, 0, [])]
/-- 145: LaidQuarrelModel.isMood(I)Z -/
def t_X11_isMood : List ME := [(0, 1, 1, 0, 0, []), (1, 3, 0, (-99), 0, []), (3, 5, 0, 99, 0, []), (5, 8, 50, 139, 0, []), (8, 9, 60, 0, 0, [])]
/-- 146: LaidQuarrelModel.isSaying(I)Z -/
def t_X11_isSaying : List ME := [(0, 1, 1, 0, 0, []), (1, 4, 0, (-999), 0, []), (4, 7, 0, 999, 0, []), (7, 10, 50, 139, 0, []), (10, 11, 60, 0, 0, [])]
/-- 147: LaidQuarrelModel.keeps()V -/
def t_X11_keeps : List ME := [(0, 1, 0, 0, 0, []), (1, 2, 2, 0, 1, []), (2, 3, 1, 0, 1, []), (3, 5, 0, 29, 0, []), (5, 8, 7, 26, 3, []), (8, 9, 1, 1, 0, []), (9, 12, 16, 3, 12, []), (12, 13, 1, 0, 1, []), (13, 14, 1, 1, 0, []), (14, 17, 16, 1, 12, []), (17, 18, 1, 0, 1, []), (18, 19, 18, 0, 0, []), (19, 20, 19, 0, 0, []), (20, 23, 3, 1, 1, []), (23, 26, 10, 2, 0, []), (26, 27, 63, 0, 0, [])]
/-- 148: LaidQuarrelModel.goesBack()V -/
def t_X11_goesBack : List ME := [(0, 1, 0, 0, 0, []), (1, 2, 2, 0, 1, []), (2, 3, 1, 0, 1, []), (3, 5, 0, 29, 0, []), (5, 8, 7, 26, 3, []), (8, 9, 1, 1, 0, []), (9, 12, 16, 1, 12, []), (12, 13, 1, 0, 1, []), (13, 14, 1, 1, 0, []), (14, 17, 16, 3, 12, []), (17, 18, 1, 0, 1, []), (18, 19, 18, 0, 0, []), (19, 20, 19, 0, 0, []), (20, 23, 3, 1, 1, []), (23, 26, 10, 2, 0, []), (26, 27, 63, 0, 0, [])]
/-- 149: LaidQuarrelModel.feed(I)I -/
def t_X11_feed : List ME := [(0, 1, 1, 0, 1, []), (1, 2, 0, 0, 0, []), (2, 4, 0, 127, 0, []), (4, 7, 50, 139, 0, []), (7, 10, 6, 13, 1, []), (10, 12, 0, (-2), 0, []), (12, 13, 60, 0, 0, []), (13, 14, 1, 1, 0, []), (14, 17, 16, 1, 12, []), (17, 19, 0, 34, 0, []), (19, 20, 18, 0, 0, []), (20, 22, 0, 100, 0, []), (22, 25, 7, 28, 1, []), (25, 27, 0, (-4), 0, []), (27, 28, 60, 0, 0, []), (28, 29, 1, 1, 0, []), (29, 32, 16, 1, 12, []), (32, 35, 0, 128, 0, []), (35, 36, 1, 1, 0, []), (36, 39, 16, 1, 12, []), (39, 41, 0, 34, 0, []), (41, 42, 18, 0, 0, []), (42, 43, 4, 0, 0, []), (43, 44, 1, 0, 1, []), (44, 45, 19, 0, 0, []), (45, 46, 1, 1, 0, []), (46, 49, 16, 1, 12, []), (49, 51, 0, 34, 0, []), (51, 52, 14, 0, 0, []), (52, 53, 18, 0, 0, []), (53, 54, 0, 1, 0, []), (54, 55, 4, 0, 0, []), (55, 56, 19, 0, 0, []), (56, 57, 1, 1, 0, []), (57, 60, 16, 1, 12, []), (60, 62, 0, 34, 0, []), (62, 63, 18, 0, 0, []), (63, 64, 60, 0, 0, [])]
/-- 150: LaidQuarrelModel.here()I -/
def t_X11_here : List ME := [(0, 1, 1, 1, 0, []), (1, 4, 16, 6, 12, []), (4, 5, 1, 1, 0, []), (5, 8, 16, 7, 12, []), (8, 11, 7, 27, 3, []), (11, 12, 1, 1, 0, []), (12, 15, 16, 1, 12, []), (15, 18, 0, 128, 0, []), (18, 19, 1, 1, 0, []), (19, 22, 16, 6, 12, []), (22, 23, 4, 0, 0, []), (23, 24, 18, 0, 0, []), (24, 27, 10, 28, 0, []), (27, 28, 0, (-1), 0, []), (28, 29, 60, 0, 0, [])]
/-- 151: LaidQuarrelModel.must(I)V -/
def t_X11_must : List ME := [(0, 1, 1, 1, 0, []), (1, 2, 1, 1, 0, []), (2, 5, 16, 8, 12, []), (5, 8, 6, 16, 1, []), (8, 9, 1, 1, 0, []), (9, 12, 51, 109, 0, []), (12, 13, 1, 0, 1, []), (13, 16, 7, 20, 0, []), (16, 17, 0, 1, 0, []), (17, 20, 10, 21, 0, []), (20, 21, 0, 0, 0, []), (21, 24, 17, 8, 12, []), (24, 25, 1, 1, 0, []), (25, 26, 11, 0, 0, []), (26, 29, 16, 6, 12, []), (29, 30, 1, 1, 0, []), (30, 33, 16, 8, 12, []), (33, 36, 6, 40, 0, []), (36, 37, 0, 0, 0, []), (37, 40, 10, 41, 0, []), (40, 41, 0, 1, 0, []), (41, 42, 4, 0, 0, []), (42, 45, 17, 6, 12, []), (45, 46, 63, 0, 0, [])]
/-- 152: LaidQuarrelModel.spells(Ljava/lang/String;)V -/
def t_X11_spells : List ME := [(0, 1, 0, 0, 0, []), (1, 2, 2, 0, 2, []), (2, 3, 1, 0, 2, []), (3, 4, 1, 1, 1, []), (4, 7, 52, 0, 1, []), (7, 10, 7, 25, 3, []), (10, 11, 1, 1, 0, []), (11, 12, 1, 1, 1, []), (12, 13, 1, 0, 2, []), (13, 16, 52, 1, 2, []), (16, 19, 51, 110, 1, []), (19, 22, 3, 2, 1, []), (22, 25, 10, 2, 0, []), (25, 26, 63, 0, 0, [])]
/-- 153: LaidQuarrelModel.figures()I -/
def t_X11_figures : List ME := [(0, 1, 1, 1, 0, []), (1, 2, 1, 1, 0, []), (2, 5, 16, 8, 12, []), (5, 8, 6, 22, 1, []), (8, 9, 1, 1, 0, []), (9, 12, 51, 109, 0, []), (12, 14, 0, 48, 0, []), (14, 16, 0, 57, 0, []), (16, 19, 50, 139, 0, []), (19, 22, 6, 26, 1, []), (22, 23, 0, 1, 0, []), (23, 26, 10, 27, 0, []), (26, 27, 0, 0, 0, []), (27, 30, 17, 8, 12, []), (30, 31, 0, 0, 0, []), (31, 32, 2, 0, 1, []), (32, 33, 0, 0, 0, []), (33, 34, 2, 0, 2, []), (34, 35, 1, 0, 2, []), (35, 36, 0, 2, 0, []), (36, 39, 7, 97, 3, []), (39, 40, 1, 1, 0, []), (40, 43, 16, 8, 12, []), (43, 46, 6, 97, 1, []), (46, 47, 1, 1, 0, []), (47, 50, 51, 109, 0, []), (50, 52, 0, 48, 0, []), (52, 54, 0, 57, 0, []), (54, 57, 50, 139, 0, []), (57, 60, 6, 97, 0, []), (60, 61, 1, 0, 2, []), (61, 64, 6, 68, 0, []), (64, 65, 1, 0, 1, []), (65, 68, 6, 97, 5, []), (68, 70, 0, 10, 0, []), (70, 71, 1, 0, 1, []), (71, 72, 4, 2, 0, []), (72, 73, 1, 1, 0, []), (73, 76, 51, 109, 0, []), (76, 77, 4, 0, 0, []), (77, 79, 0, 48, 0, []), (79, 80, 4, 1, 0, []), (80, 81, 2, 0, 1, []), (81, 82, 1, 1, 0, []), (82, 83, 11, 0, 0, []), (83, 86, 16, 6, 12, []), (86, 87, 0, 1, 0, []), (87, 88, 4, 0, 0, []), (88, 91, 17, 6, 12, []), (91, 94, 3, 2, 1, []), (94, 97, 10, 34, 0, []), (97, 98, 1, 0, 1, []), (98, 99, 60, 0, 0, [])]
/-- 154: LaidQuarrelModel.among(Ljava/lang/String;)I -/
def t_X11_among : List ME := [(0, 1, 0, 0, 0, []), (1, 2, 2, 0, 2, []), (2, 3, 1, 0, 2, []), (3, 4, 1, 1, 1, []), (4, 7, 52, 0, 1, []), (7, 10, 7, 40, 3, []), (10, 11, 1, 1, 0, []), (11, 14, 51, 109, 0, []), (14, 15, 1, 1, 1, []), (15, 16, 1, 0, 2, []), (16, 19, 52, 1, 2, []), (19, 22, 7, 34, 1, []), (22, 23, 1, 1, 0, []), (23, 24, 11, 0, 0, []), (24, 27, 16, 6, 12, []), (27, 28, 0, 1, 0, []), (28, 29, 4, 0, 0, []), (29, 32, 17, 6, 12, []), (32, 33, 1, 0, 2, []), (33, 34, 60, 0, 0, []), (34, 37, 3, 2, 1, []), (37, 40, 10, 2, 0, []), (40, 41, 0, (-1), 0, []), (41, 42, 60, 0, 0, [])]
/-- 155: LaidQuarrelModel.emits(I)V -/
def t_X11_emits : List ME := [(0, 1, 1, 1, 0, []), (1, 4, 16, 8, 12, []), (4, 7, 6, 56, 1, []), (7, 8, 1, 1, 0, []), (8, 11, 16, 1, 12, []), (11, 14, 0, 243, 0, []), (14, 17, 0, 140, 0, []), (17, 18, 1, 1, 0, []), (18, 21, 16, 5, 12, []), (21, 22, 4, 2, 0, []), (22, 23, 4, 0, 0, []), (23, 24, 1, 1, 0, []), (24, 27, 16, 1, 12, []), (27, 30, 0, 238, 0, []), (30, 31, 1, 1, 0, []), (31, 34, 16, 5, 12, []), (34, 35, 4, 0, 0, []), (35, 36, 18, 0, 0, []), (36, 37, 4, 0, 0, []), (37, 38, 1, 0, 1, []), (38, 39, 19, 0, 0, []), (39, 40, 1, 1, 0, []), (40, 43, 16, 1, 12, []), (43, 46, 0, 238, 0, []), (46, 47, 1, 1, 0, []), (47, 50, 16, 5, 12, []), (50, 51, 4, 0, 0, []), (51, 52, 14, 0, 0, []), (52, 53, 18, 0, 0, []), (53, 54, 0, 1, 0, []), (54, 55, 4, 0, 0, []), (55, 56, 19, 0, 0, []), (56, 57, 63, 0, 0, [])]
/-- 156: LaidQuarrelModel.factor()V -/
def t_X11_factor : List ME := [(0, 1, 1, 1, 0, []), (1, 4, 16, 8, 12, []), (4, 7, 6, 8, 0, []), (7, 8, 63, 0, 0, []), (8, 9, 1, 1, 0, []), (9, 12, 51, 109, 0, []), (12, 13, 2, 0, 1, []), (13, 14, 1, 0, 1, []), (14, 16, 0, 33, 0, []), (16, 19, 7, 25, 0, []), (19, 20, 1, 0, 1, []), (20, 22, 0, 40, 0, []), (22, 25, 7, 112, 1, []), (25, 26, 1, 1, 0, []), (26, 27, 1, 1, 0, []), (27, 30, 16, 9, 12, []), (30, 31, 0, 5, 0, []), (31, 34, 7, 38, 1, []), (34, 35, 0, 1, 0, []), (35, 38, 10, 39, 0, []), (38, 39, 0, 0, 0, []), (39, 42, 17, 8, 12, []), (42, 43, 1, 1, 0, []), (43, 44, 11, 0, 0, []), (44, 47, 16, 9, 12, []), (47, 48, 0, 1, 0, []), (48, 49, 4, 0, 0, []), (49, 52, 17, 9, 12, []), (52, 53, 1, 1, 0, []), (53, 54, 11, 0, 0, []), (54, 57, 16, 6, 12, []), (57, 58, 1, 1, 0, []), (58, 61, 16, 8, 12, []), (61, 64, 6, 68, 0, []), (64, 65, 0, 0, 0, []), (65, 68, 10, 69, 0, []), (68, 69, 0, 1, 0, []), (69, 70, 4, 0, 0, []), (70, 73, 17, 6, 12, []), (73, 74, 1, 0, 1, []), (74, 76, 0, 33, 0, []), (76, 79, 7, 91, 1, []), (79, 80, 1, 1, 0, []), (80, 83, 51, 111, 0, []), (83, 84, 1, 1, 0, []), (84, 85, 0, (-1), 0, []), (85, 88, 51, 112, 1, []), (88, 91, 10, 101, 0, []), (91, 92, 1, 1, 0, []), (92, 95, 51, 113, 0, []), (95, 96, 1, 1, 0, []), (96, 98, 0, 41, 0, []), (98, 101, 51, 110, 1, []), (101, 102, 1, 1, 0, []), (102, 103, 11, 0, 0, []), (103, 106, 16, 9, 12, []), (106, 107, 0, 1, 0, []), (107, 108, 4, 1, 0, []), (108, 111, 17, 9, 12, []), (111, 112, 63, 0, 0, []), (112, 113, 1, 1, 0, []), (113, 115, 35, 7, 0, []), (115, 118, 51, 114, 1, []), (118, 119, 2, 0, 2, []), (119, 120, 1, 1, 0, []), (120, 121, 1, 0, 2, []), (121, 122, 0, (-1), 0, []), (122, 125, 7, 129, 1, []), (125, 126, 0, 1, 0, []), (126, 129, 10, 130, 0, []), (129, 130, 0, 0, 0, []), (130, 133, 17, 8, 12, []), (133, 134, 1, 1, 0, []), (134, 137, 16, 8, 12, []), (137, 140, 6, 144, 0, []), (140, 141, 0, 0, 0, []), (141, 144, 10, 150, 0, []), (144, 145, 1, 1, 0, []), (145, 147, 35, 8, 0, []), (147, 150, 51, 114, 1, []), (150, 151, 2, 0, 3, []), (151, 152, 1, 1, 0, []), (152, 153, 1, 1, 0, []), (153, 156, 16, 8, 12, []), (156, 159, 6, 164, 1, []), (159, 160, 1, 0, 3, []), (160, 161, 0, (-1), 0, []), (161, 164, 7, 168, 1, []), (164, 165, 0, 1, 0, []), (165, 168, 10, 169, 0, []), (168, 169, 0, 0, 0, []), (169, 172, 17, 8, 12, []), (172, 173, 1, 1, 0, []), (173, 176, 51, 115, 0, []), (176, 178, 2, 0, 4, []), (178, 179, 1, 1, 0, []), (179, 180, 1, 0, 2, []), (180, 182, 0, 8, 0, []), (182, 183, 1, 0, 3, []), (183, 184, 4, 2, 0, []), (184, 185, 4, 0, 0, []), (185, 187, 0, 32, 0, []), (187, 189, 1, 0, 4, []), (189, 190, 4, 2, 0, []), (190, 191, 4, 0, 0, []), (191, 194, 51, 112, 1, []), (194, 195, 63, 0, 0, [])]
/-- 157: LaidQuarrelModel.every()V -/
def t_X11_every : List ME := [(0, 1, 1, 1, 0, []), (1, 4, 51, 111, 0, []), (4, 5, 1, 1, 0, []), (5, 8, 16, 8, 12, []), (8, 11, 6, 43, 1, []), (11, 12, 1, 1, 0, []), (12, 15, 51, 109, 0, []), (15, 17, 0, 38, 0, []), (17, 20, 7, 43, 1, []), (20, 21, 1, 1, 0, []), (21, 22, 11, 0, 0, []), (22, 25, 16, 6, 12, []), (25, 26, 0, 1, 0, []), (26, 27, 4, 0, 0, []), (27, 30, 17, 6, 12, []), (30, 31, 1, 1, 0, []), (31, 34, 51, 111, 0, []), (34, 35, 1, 1, 0, []), (35, 37, 0, (-2), 0, []), (37, 40, 51, 112, 1, []), (40, 43, 10, 4, 0, []), (43, 44, 63, 0, 0, [])]
/-- 158: LaidQuarrelModel.some()V -/
def t_X11_some : List ME := [(0, 1, 1, 1, 0, []), (1, 4, 51, 116, 0, []), (4, 5, 1, 1, 0, []), (5, 8, 16, 8, 12, []), (8, 11, 6, 43, 1, []), (11, 12, 1, 1, 0, []), (12, 15, 51, 109, 0, []), (15, 17, 0, 124, 0, []), (17, 20, 7, 43, 1, []), (20, 21, 1, 1, 0, []), (21, 22, 11, 0, 0, []), (22, 25, 16, 6, 12, []), (25, 26, 0, 1, 0, []), (26, 27, 4, 0, 0, []), (27, 30, 17, 6, 12, []), (30, 31, 1, 1, 0, []), (31, 34, 51, 116, 0, []), (34, 35, 1, 1, 0, []), (35, 37, 0, (-3), 0, []), (37, 40, 51, 112, 1, []), (40, 43, 10, 4, 0, []), (43, 44, 63, 0, 0, [])]
/-- 159: LaidQuarrelModel.much(ILjava/lang/String;)V -/
def t_X11_much : List ME := [(0, 1, 1, 1, 0, []), (1, 2, 1, 1, 2, []), (2, 5, 51, 117, 1, []), (5, 6, 1, 1, 0, []), (6, 9, 51, 115, 0, []), (9, 10, 2, 0, 3, []), (10, 11, 1, 1, 0, []), (11, 13, 0, 32, 0, []), (13, 16, 51, 110, 1, []), (16, 17, 1, 1, 0, []), (17, 20, 51, 113, 0, []), (20, 21, 1, 1, 0, []), (21, 22, 1, 0, 1, []), (22, 23, 1, 0, 3, []), (23, 24, 4, 1, 0, []), (24, 27, 51, 112, 1, []), (27, 28, 63, 0, 0, [])]
/-- 160: LaidQuarrelModel.tellsHere(ILjava/lang/String;)V -/
def t_X11_tellsHere : List ME := [(0, 1, 1, 1, 0, []), (1, 2, 1, 1, 2, []), (2, 5, 51, 117, 1, []), (5, 6, 1, 1, 0, []), (6, 9, 51, 115, 0, []), (9, 10, 2, 0, 3, []), (10, 11, 1, 1, 0, []), (11, 14, 16, 8, 12, []), (14, 17, 6, 29, 1, []), (17, 18, 1, 1, 0, []), (18, 21, 16, 1, 12, []), (21, 22, 1, 0, 1, []), (22, 23, 1, 1, 0, []), (23, 26, 16, 5, 12, []), (26, 27, 4, 0, 0, []), (27, 28, 1, 0, 3, []), (28, 29, 19, 0, 0, []), (29, 30, 63, 0, 0, [])]
/-- 161: LaidQuarrelModel.wordOfS()V -/
def t_X11_wordOfS : List ME := [(0, 1, 1, 1, 0, []), (1, 3, 0, 115, 0, []), (3, 6, 51, 110, 1, []), (6, 7, 1, 1, 0, []), (7, 10, 51, 109, 0, []), (10, 12, 0, 111, 0, []), (12, 15, 7, 26, 1, []), (15, 16, 1, 1, 0, []), (16, 18, 0, (-10), 0, []), (18, 20, 35, 6, 0, []), (20, 23, 51, 118, 2, []), (23, 26, 10, 35, 0, []), (26, 27, 1, 1, 0, []), (27, 30, 0, (-200), 0, []), (30, 32, 35, 9, 0, []), (32, 35, 51, 118, 2, []), (35, 36, 63, 0, 0, [])]
/-- 162: LaidQuarrelModel.clauseHere()V -/
def t_X11_clauseHere : List ME := [(0, 1, 1, 1, 0, []), (1, 4, 51, 109, 0, []), (4, 40, 40, 71, 0, [(99, 40), (112, 52), (115, 64)]), (40, 41, 1, 1, 0, []), (41, 44, 0, 228, 0, []), (44, 46, 35, 4, 0, []), (46, 49, 51, 119, 2, []), (49, 52, 10, 76, 0, []), (52, 53, 1, 1, 0, []), (53, 56, 0, 233, 0, []), (56, 58, 35, 5, 0, []), (58, 61, 51, 119, 2, []), (61, 64, 10, 76, 0, []), (64, 65, 1, 1, 0, []), (65, 68, 51, 120, 0, []), (68, 71, 10, 76, 0, []), (71, 72, 1, 1, 0, []), (72, 73, 0, 1, 0, []), (73, 76, 17, 8, 12, []), (76, 77, 63, 0, 0, [])]
/-- 163: LaidQuarrelModel.cellar()I -/
def t_X11_cellar : List ME := [(0, 1, 1, 1, 0, []), (1, 4, 16, 1, 12, []), (4, 6, 0, 30, 0, []), (6, 7, 18, 0, 0, []), (7, 8, 0, 5, 0, []), (8, 11, 7, 14, 1, []), (11, 13, 0, (-4), 0, []), (13, 14, 60, 0, 0, []), (14, 15, 1, 1, 0, []), (15, 16, 1, 1, 0, []), (16, 19, 16, 1, 12, []), (19, 21, 0, 30, 0, []), (21, 22, 18, 0, 0, []), (22, 25, 17, 5, 12, []), (25, 26, 1, 1, 0, []), (26, 27, 1, 1, 0, []), (27, 30, 16, 1, 12, []), (30, 32, 0, 34, 0, []), (32, 33, 18, 0, 0, []), (33, 36, 17, 7, 12, []), (36, 37, 1, 1, 0, []), (37, 40, 16, 1, 12, []), (40, 42, 0, 34, 0, []), (42, 43, 0, 0, 0, []), (43, 44, 19, 0, 0, []), (44, 45, 1, 1, 0, []), (45, 48, 16, 1, 12, []), (48, 51, 0, 228, 0, []), (51, 52, 1, 1, 0, []), (52, 55, 16, 5, 12, []), (55, 56, 4, 0, 0, []), (56, 57, 0, 0, 0, []), (57, 58, 19, 0, 0, []), (58, 59, 1, 1, 0, []), (59, 62, 16, 1, 12, []), (62, 65, 0, 233, 0, []), (65, 66, 1, 1, 0, []), (66, 69, 16, 5, 12, []), (69, 70, 4, 0, 0, []), (70, 71, 0, 5, 0, []), (71, 72, 19, 0, 0, []), (72, 73, 1, 1, 0, []), (73, 76, 16, 1, 12, []), (76, 79, 0, 238, 0, []), (79, 80, 1, 1, 0, []), (80, 83, 16, 5, 12, []), (83, 84, 4, 0, 0, []), (84, 85, 0, 0, 0, []), (85, 86, 19, 0, 0, []), (86, 87, 1, 1, 0, []), (87, 88, 0, 0, 0, []), (88, 91, 17, 6, 12, []), (91, 92, 1, 1, 0, []), (92, 93, 0, 0, 0, []), (93, 96, 17, 8, 12, []), (96, 97, 1, 1, 0, []), (97, 98, 0, 0, 0, []), (98, 101, 17, 9, 12, []), (101, 102, 0, 1, 0, []), (102, 103, 2, 0, 1, []), (103, 104, 1, 1, 0, []), (104, 107, 51, 121, 0, []), (107, 108, 1, 1, 0, []), (108, 111, 16, 8, 12, []), (111, 114, 6, 149, 1, []), (114, 115, 1, 0, 1, []), (115, 117, 0, 10, 0, []), (117, 120, 7, 149, 3, []), (120, 121, 1, 1, 0, []), (121, 124, 51, 109, 0, []), (124, 126, 0, 59, 0, []), (126, 129, 7, 149, 1, []), (129, 130, 1, 1, 0, []), (130, 131, 11, 0, 0, []), (131, 134, 16, 6, 12, []), (134, 135, 0, 1, 0, []), (135, 136, 4, 0, 0, []), (136, 139, 17, 6, 12, []), (139, 140, 1, 1, 0, []), (140, 143, 51, 121, 0, []), (143, 146, 3, 1, 1, []), (146, 149, 10, 107, 0, []), (149, 150, 1, 1, 0, []), (150, 153, 16, 8, 12, []), (153, 156, 6, 167, 1, []), (156, 157, 1, 1, 0, []), (157, 160, 16, 6, 12, []), (160, 161, 1, 1, 0, []), (161, 164, 16, 7, 12, []), (164, 167, 7, 175, 0, []), (167, 169, 0, (-10), 0, []), (169, 170, 1, 1, 0, []), (170, 173, 16, 6, 12, []), (173, 174, 4, 1, 0, []), (174, 175, 60, 0, 0, []), (175, 176, 1, 1, 0, []), (176, 179, 16, 1, 12, []), (179, 181, 0, 30, 0, []), (181, 182, 14, 0, 0, []), (182, 183, 18, 0, 0, []), (183, 184, 0, 1, 0, []), (184, 185, 4, 0, 0, []), (185, 186, 19, 0, 0, []), (186, 187, 1, 1, 0, []), (187, 190, 16, 1, 12, []), (190, 192, 0, 35, 0, []), (192, 193, 1, 1, 0, []), (193, 196, 16, 5, 12, []), (196, 197, 19, 0, 0, []), (197, 198, 1, 1, 0, []), (198, 201, 16, 5, 12, []), (201, 202, 60, 0, 0, [])]
/-- 164: LaidQuarrelModel.tellsOf(II)I -/
def t_X11_tellsOf : List ME := [(0, 1, 1, 1, 0, []), (1, 4, 16, 1, 12, []), (4, 6, 0, 35, 0, []), (6, 7, 18, 0, 0, []), (7, 8, 0, (-1), 0, []), (8, 11, 7, 15, 1, []), (11, 12, 1, 0, 2, []), (12, 15, 10, 29, 0, []), (15, 16, 1, 1, 0, []), (16, 19, 16, 1, 12, []), (19, 20, 1, 0, 1, []), (20, 21, 1, 1, 0, []), (21, 24, 16, 1, 12, []), (24, 26, 0, 35, 0, []), (26, 27, 18, 0, 0, []), (27, 28, 4, 0, 0, []), (28, 29, 18, 0, 0, []), (29, 30, 60, 0, 0, [])]
/-- 165: LaidQuarrelModel.looks(I)I -/
def t_X11_looks : List ME := [(0, 1, 1, 1, 0, []), (1, 4, 16, 10, 12, []), (4, 5, 0, 0, 0, []), (5, 6, 1, 0, 1, []), (6, 7, 19, 0, 0, []), (7, 8, 1, 1, 0, []), (8, 11, 16, 10, 12, []), (11, 12, 0, 1, 0, []), (12, 13, 1, 1, 0, []), (13, 16, 16, 1, 12, []), (16, 18, 0, 37, 0, []), (18, 19, 1, 0, 1, []), (19, 20, 4, 0, 0, []), (20, 21, 18, 0, 0, []), (21, 22, 19, 0, 0, []), (22, 23, 1, 1, 0, []), (23, 26, 16, 10, 12, []), (26, 27, 0, 2, 0, []), (27, 28, 1, 1, 0, []), (28, 31, 16, 1, 12, []), (31, 33, 0, 43, 0, []), (33, 34, 1, 0, 1, []), (34, 35, 4, 0, 0, []), (35, 36, 18, 0, 0, []), (36, 37, 19, 0, 0, []), (37, 38, 1, 1, 0, []), (38, 41, 16, 10, 12, []), (41, 42, 0, 3, 0, []), (42, 43, 1, 1, 0, []), (43, 46, 16, 1, 12, []), (46, 48, 0, 7, 0, []), (48, 49, 1, 0, 1, []), (49, 50, 4, 0, 0, []), (50, 51, 18, 0, 0, []), (51, 53, 0, 10, 0, []), (53, 54, 4, 3, 0, []), (54, 55, 19, 0, 0, []), (55, 56, 1, 1, 0, []), (56, 59, 16, 10, 12, []), (59, 60, 0, 4, 0, []), (60, 61, 1, 1, 0, []), (61, 64, 16, 1, 12, []), (64, 66, 0, 13, 0, []), (66, 67, 1, 0, 1, []), (67, 68, 4, 0, 0, []), (68, 69, 18, 0, 0, []), (69, 70, 19, 0, 0, []), (70, 71, 1, 1, 0, []), (71, 74, 16, 10, 12, []), (74, 75, 0, 5, 0, []), (75, 76, 1, 1, 0, []), (76, 79, 16, 1, 12, []), (79, 80, 0, 1, 0, []), (80, 81, 1, 0, 1, []), (81, 82, 4, 0, 0, []), (82, 83, 18, 0, 0, []), (83, 86, 50, 141, 0, []), (86, 88, 0, 10, 0, []), (88, 89, 4, 3, 0, []), (89, 90, 19, 0, 0, []), (90, 91, 0, 0, 0, []), (91, 92, 2, 0, 2, []), (92, 93, 1, 1, 0, []), (93, 96, 0, 238, 0, []), (96, 97, 0, 0, 0, []), (97, 100, 51, 122, 2, []), (100, 101, 2, 0, 3, []), (101, 104, 0, 243, 0, []), (104, 107, 0, 140, 0, []), (107, 108, 1, 1, 0, []), (108, 111, 16, 1, 12, []), (111, 113, 0, 35, 0, []), (113, 114, 18, 0, 0, []), (114, 115, 4, 2, 0, []), (115, 116, 4, 0, 0, []), (116, 118, 2, 0, 4, []), (118, 119, 0, 0, 0, []), (119, 121, 2, 0, 5, []), (121, 123, 1, 0, 4, []), (123, 125, 2, 0, 6, []), (125, 127, 1, 0, 6, []), (127, 129, 1, 0, 4, []), (129, 130, 1, 0, 3, []), (130, 131, 4, 0, 0, []), (131, 134, 7, 431, 3, []), (134, 135, 1, 1, 0, []), (135, 138, 16, 1, 12, []), (138, 140, 1, 0, 6, []), (140, 141, 18, 0, 0, []), (141, 143, 2, 0, 7, []), (143, 145, 1, 0, 7, []), (145, 148, 6, 242, 2, []), (148, 149, 1, 1, 0, []), (149, 152, 16, 10, 12, []), (152, 154, 1, 0, 7, []), (154, 156, 0, 8, 0, []), (156, 157, 4, 4, 0, []), (157, 158, 18, 0, 0, []), (158, 160, 2, 0, 8, []), (160, 162, 1, 0, 7, []), (162, 164, 0, 8, 0, []), (164, 165, 4, 3, 0, []), (165, 166, 0, 4, 0, []), (166, 167, 4, 4, 0, []), (167, 169, 2, 0, 9, []), (169, 171, 1, 0, 7, []), (171, 173, 0, 32, 0, []), (173, 174, 4, 3, 0, []), (174, 176, 2, 0, 10, []), (176, 177, 1, 1, 0, []), (177, 180, 16, 11, 12, []), (180, 182, 1, 0, 5, []), (182, 184, 1, 0, 9, []), (184, 187, 6, 202, 1, []), (187, 189, 1, 0, 8, []), (189, 191, 1, 0, 10, []), (191, 194, 7, 198, 3, []), (194, 195, 0, 1, 0, []), (195, 198, 10, 235, 0, []), (198, 199, 0, 0, 0, []), (199, 202, 10, 235, 0, []), (202, 204, 1, 0, 9, []), (204, 205, 0, 1, 0, []), (205, 208, 7, 223, 1, []), (208, 210, 1, 0, 8, []), (210, 212, 1, 0, 10, []), (212, 215, 7, 219, 1, []), (215, 216, 0, 1, 0, []), (216, 219, 10, 235, 0, []), (219, 220, 0, 0, 0, []), (220, 223, 10, 235, 0, []), (223, 225, 1, 0, 8, []), (225, 227, 1, 0, 10, []), (227, 230, 7, 234, 5, []), (230, 231, 0, 1, 0, []), (231, 234, 10, 235, 0, []), (234, 235, 0, 0, 0, []), (235, 236, 21, 0, 0, []), (236, 239, 3, 5, 1, []), (239, 242, 10, 425, 0, []), (242, 244, 1, 0, 7, []), (244, 245, 0, (-1), 0, []), (245, 248, 7, 277, 1, []), (248, 249, 1, 1, 0, []), (249, 252, 16, 11, 12, []), (252, 254, 1, 0, 5, []), (254, 255, 0, 1, 0, []), (255, 256, 4, 1, 0, []), (256, 257, 1, 1, 0, []), (257, 260, 16, 11, 12, []), (260, 262, 1, 0, 5, []), (262, 263, 0, 1, 0, []), (263, 264, 4, 1, 0, []), (264, 265, 20, 0, 0, []), (265, 268, 6, 272, 1, []), (268, 269, 0, 1, 0, []), (269, 272, 10, 273, 0, []), (272, 273, 0, 0, 0, []), (273, 274, 21, 0, 0, []), (274, 277, 10, 425, 0, []), (277, 279, 1, 0, 7, []), (279, 281, 0, (-10), 0, []), (281, 284, 7, 363, 5, []), (284, 287, 3, 5, (-1), []), (287, 288, 1, 1, 0, []), (288, 291, 16, 11, 12, []), (291, 293, 1, 0, 5, []), (293, 294, 0, 1, 0, []), (294, 295, 4, 1, 0, []), (295, 297, 1, 0, 7, []), (297, 299, 0, (-2), 0, []), (299, 302, 7, 332, 1, []), (302, 303, 1, 1, 0, []), (303, 306, 16, 11, 12, []), (306, 308, 1, 0, 5, []), (308, 309, 0, 1, 0, []), (309, 310, 4, 1, 0, []), (310, 311, 20, 0, 0, []), (311, 314, 6, 328, 0, []), (314, 315, 1, 1, 0, []), (315, 318, 16, 11, 12, []), (318, 320, 1, 0, 5, []), (320, 321, 20, 0, 0, []), (321, 324, 6, 328, 0, []), (324, 325, 0, 1, 0, []), (325, 328, 10, 359, 0, []), (328, 329, 0, 0, 0, []), (329, 332, 10, 359, 0, []), (332, 333, 1, 1, 0, []), (333, 336, 16, 11, 12, []), (336, 338, 1, 0, 5, []), (338, 339, 0, 1, 0, []), (339, 340, 4, 1, 0, []), (340, 341, 20, 0, 0, []), (341, 344, 6, 354, 1, []), (344, 345, 1, 1, 0, []), (345, 348, 16, 11, 12, []), (348, 350, 1, 0, 5, []), (350, 351, 20, 0, 0, []), (351, 354, 6, 358, 0, []), (354, 355, 0, 1, 0, []), (355, 358, 10, 359, 0, []), (358, 359, 0, 0, 0, []), (359, 360, 21, 0, 0, []), (360, 363, 10, 425, 0, []), (363, 364, 0, 0, 0, []), (364, 366, 2, 0, 5, []), (366, 367, 1, 1, 0, []), (367, 370, 16, 11, 12, []), (370, 371, 0, 0, 0, []), (371, 372, 20, 0, 0, []), (372, 374, 2, 0, 8, []), (374, 375, 1, 0, 2, []), (375, 377, 1, 0, 8, []), (377, 380, 6, 396, 0, []), (380, 382, 1, 0, 7, []), (382, 385, 0, (-200), 0, []), (385, 388, 7, 396, 5, []), (388, 390, 0, (-10), 0, []), (390, 392, 1, 0, 7, []), (392, 393, 4, 1, 0, []), (393, 396, 10, 397, 0, []), (396, 397, 0, 0, 0, []), (397, 398, 4, 0, 0, []), (398, 399, 2, 0, 2, []), (399, 400, 1, 0, 2, []), (400, 402, 1, 0, 8, []), (402, 405, 6, 422, 0, []), (405, 407, 1, 0, 7, []), (407, 410, 0, (-200), 0, []), (410, 413, 7, 422, 4, []), (413, 416, 0, (-200), 0, []), (416, 418, 1, 0, 7, []), (418, 419, 4, 1, 0, []), (419, 422, 10, 423, 0, []), (422, 423, 0, 0, 0, []), (423, 424, 4, 1, 0, []), (424, 425, 2, 0, 2, []), (425, 428, 3, 6, 1, []), (428, 431, 10, 125, 0, []), (431, 432, 1, 0, 2, []), (432, 433, 60, 0, 0, [])]
/-- 166: LaidQuarrelModel.softOf(I)I -/
def t_X11_softOf : List ME := [(0, 2, 0, 10, 0, []), (2, 3, 1, 1, 0, []), (3, 4, 1, 0, 1, []), (4, 7, 51, 123, 1, []), (7, 8, 4, 0, 0, []), (8, 9, 2, 0, 2, []), (9, 10, 1, 0, 2, []), (10, 13, 6, 17, 3, []), (13, 14, 0, 0, 0, []), (14, 17, 10, 31, 0, []), (17, 18, 1, 1, 0, []), (18, 21, 16, 1, 12, []), (21, 23, 0, 7, 0, []), (23, 24, 1, 0, 1, []), (24, 25, 4, 0, 0, []), (25, 26, 18, 0, 0, []), (26, 27, 1, 0, 2, []), (27, 28, 4, 2, 0, []), (28, 30, 0, 20, 0, []), (30, 31, 4, 3, 0, []), (31, 32, 60, 0, 0, [])]
/-- 167: LaidQuarrelModel.saysOf(I)I -/
def t_X11_saysOf : List ME := [(0, 1, 1, 1, 0, []), (1, 2, 1, 0, 1, []), (2, 5, 51, 124, 1, []), (5, 6, 2, 0, 2, []), (6, 7, 1, 1, 0, []), (7, 10, 16, 1, 12, []), (10, 11, 0, 1, 0, []), (11, 12, 1, 0, 1, []), (12, 13, 4, 0, 0, []), (13, 14, 18, 0, 0, []), (14, 15, 2, 0, 3, []), (15, 16, 1, 1, 0, []), (16, 19, 16, 1, 12, []), (19, 21, 0, 43, 0, []), (21, 22, 1, 0, 1, []), (22, 23, 4, 0, 0, []), (23, 24, 18, 0, 0, []), (24, 26, 2, 0, 4, []), (26, 27, 1, 0, 3, []), (27, 28, 1, 0, 2, []), (28, 31, 50, 142, 0, []), (31, 32, 1, 1, 0, []), (32, 35, 16, 1, 12, []), (35, 37, 0, 13, 0, []), (37, 38, 1, 0, 1, []), (38, 39, 4, 0, 0, []), (39, 40, 18, 0, 0, []), (40, 41, 0, 2, 0, []), (41, 42, 4, 4, 0, []), (42, 43, 0, 1, 0, []), (43, 46, 7, 50, 1, []), (46, 47, 0, (-1), 0, []), (47, 50, 10, 51, 0, []), (50, 51, 0, 1, 0, []), (51, 52, 4, 2, 0, []), (52, 54, 2, 0, 5, []), (54, 55, 1, 1, 0, []), (55, 58, 16, 1, 12, []), (58, 60, 0, 37, 0, []), (60, 61, 1, 0, 1, []), (61, 62, 4, 0, 0, []), (62, 63, 18, 0, 0, []), (63, 100, 40, 206, 0, [(1, 100), (2, 108), (3, 116), (4, 119), (5, 148), (6, 181)]), (100, 101, 1, 0, 3, []), (101, 102, 1, 0, 2, []), (102, 103, 0, 2, 0, []), (103, 104, 4, 3, 0, []), (104, 107, 50, 142, 0, []), (107, 108, 60, 0, 0, []), (108, 109, 1, 0, 3, []), (109, 110, 0, 2, 0, []), (110, 111, 1, 0, 2, []), (111, 112, 4, 2, 0, []), (112, 115, 50, 142, 0, []), (115, 116, 60, 0, 0, []), (116, 118, 1, 0, 5, []), (118, 119, 60, 0, 0, []), (119, 120, 1, 0, 3, []), (120, 121, 1, 0, 2, []), (121, 122, 0, 2, 0, []), (122, 123, 4, 3, 0, []), (123, 126, 50, 142, 0, []), (126, 127, 1, 1, 0, []), (127, 130, 16, 1, 12, []), (130, 132, 0, 7, 0, []), (132, 133, 1, 0, 1, []), (133, 134, 4, 0, 0, []), (134, 135, 18, 0, 0, []), (135, 137, 0, 40, 0, []), (137, 140, 7, 145, 5, []), (140, 142, 1, 0, 4, []), (142, 145, 10, 146, 0, []), (145, 146, 0, 0, 0, []), (146, 147, 4, 1, 0, []), (147, 148, 60, 0, 0, []), (148, 149, 1, 0, 3, []), (149, 150, 0, 2, 0, []), (150, 151, 1, 0, 2, []), (151, 152, 4, 2, 0, []), (152, 155, 50, 142, 0, []), (155, 156, 1, 0, 3, []), (156, 159, 6, 178, 5, []), (159, 160, 1, 1, 0, []), (160, 163, 16, 1, 12, []), (163, 165, 0, 7, 0, []), (165, 166, 1, 0, 1, []), (166, 167, 4, 0, 0, []), (167, 168, 18, 0, 0, []), (168, 170, 0, 30, 0, []), (170, 173, 7, 178, 5, []), (173, 175, 1, 0, 4, []), (175, 178, 10, 179, 0, []), (178, 179, 0, 0, 0, []), (179, 180, 4, 1, 0, []), (180, 181, 60, 0, 0, []), (181, 183, 1, 0, 5, []), (183, 184, 1, 1, 0, []), (184, 187, 16, 1, 12, []), (187, 189, 0, 49, 0, []), (189, 190, 0, 4, 0, []), (190, 191, 1, 0, 1, []), (191, 192, 4, 2, 0, []), (192, 193, 4, 0, 0, []), (193, 194, 1, 1, 0, []), (194, 197, 16, 1, 12, []), (197, 199, 0, 13, 0, []), (199, 200, 1, 0, 1, []), (200, 201, 4, 0, 0, []), (201, 202, 18, 0, 0, []), (202, 203, 4, 0, 0, []), (203, 204, 18, 0, 0, []), (204, 205, 4, 0, 0, []), (205, 206, 60, 0, 0, []), (206, 207, 1, 0, 3, []), (207, 208, 1, 0, 2, []), (208, 211, 50, 142, 0, []), (211, 212, 60, 0, 0, [])]
/-- 168: LaidQuarrelModel.bottle(III)I -/
def t_X11_bottle : List ME := [(0, 1, 1, 0, 1, []), (1, 2, 0, 0, 0, []), (2, 4, 0, 6, 0, []), (4, 7, 50, 139, 0, []), (7, 10, 6, 12, 1, []), (10, 11, 0, (-1), 0, []), (11, 12, 60, 0, 0, []), (12, 13, 1, 0, 2, []), (13, 14, 0, 0, 0, []), (14, 16, 0, 9, 0, []), (16, 19, 50, 139, 0, []), (19, 22, 6, 29, 0, []), (22, 23, 1, 0, 3, []), (23, 26, 50, 145, 0, []), (26, 29, 6, 32, 1, []), (29, 31, 0, (-2), 0, []), (31, 32, 60, 0, 0, []), (32, 33, 1, 1, 0, []), (33, 36, 16, 1, 12, []), (36, 38, 0, 29, 0, []), (38, 39, 18, 0, 0, []), (39, 41, 0, 6, 0, []), (41, 44, 7, 47, 1, []), (44, 46, 0, (-4), 0, []), (46, 47, 60, 0, 0, []), (47, 48, 1, 1, 0, []), (48, 51, 16, 1, 12, []), (51, 53, 0, 29, 0, []), (53, 54, 18, 0, 0, []), (54, 56, 2, 0, 4, []), (56, 57, 1, 1, 0, []), (57, 60, 16, 1, 12, []), (60, 62, 0, 37, 0, []), (62, 64, 1, 0, 4, []), (64, 65, 4, 0, 0, []), (65, 66, 1, 0, 1, []), (66, 67, 19, 0, 0, []), (67, 68, 1, 1, 0, []), (68, 71, 16, 1, 12, []), (71, 73, 0, 43, 0, []), (73, 75, 1, 0, 4, []), (75, 76, 4, 0, 0, []), (76, 77, 1, 0, 2, []), (77, 78, 19, 0, 0, []), (78, 79, 1, 1, 0, []), (79, 82, 16, 1, 12, []), (82, 83, 0, 1, 0, []), (83, 85, 1, 0, 4, []), (85, 86, 4, 0, 0, []), (86, 87, 1, 0, 3, []), (87, 88, 19, 0, 0, []), (88, 89, 1, 1, 0, []), (89, 92, 16, 1, 12, []), (92, 94, 0, 7, 0, []), (94, 96, 1, 0, 4, []), (96, 97, 4, 0, 0, []), (97, 98, 0, 0, 0, []), (98, 99, 19, 0, 0, []), (99, 100, 1, 1, 0, []), (100, 103, 16, 1, 12, []), (103, 105, 0, 13, 0, []), (105, 107, 1, 0, 4, []), (107, 108, 4, 0, 0, []), (108, 109, 0, 0, 0, []), (109, 110, 19, 0, 0, []), (110, 111, 1, 1, 0, []), (111, 114, 16, 1, 12, []), (114, 116, 0, 19, 0, []), (116, 118, 1, 0, 4, []), (118, 119, 4, 0, 0, []), (119, 120, 0, 0, 0, []), (120, 121, 19, 0, 0, []), (121, 122, 0, 0, 0, []), (122, 124, 2, 0, 5, []), (124, 126, 1, 0, 5, []), (126, 127, 0, 4, 0, []), (127, 130, 7, 152, 3, []), (130, 131, 1, 1, 0, []), (131, 134, 16, 1, 12, []), (134, 136, 0, 49, 0, []), (136, 137, 0, 4, 0, []), (137, 139, 1, 0, 4, []), (139, 140, 4, 2, 0, []), (140, 141, 4, 0, 0, []), (141, 143, 1, 0, 5, []), (143, 144, 4, 0, 0, []), (144, 145, 0, 0, 0, []), (145, 146, 19, 0, 0, []), (146, 149, 3, 5, 1, []), (149, 152, 10, 124, 0, []), (152, 153, 1, 1, 0, []), (153, 156, 16, 1, 12, []), (156, 158, 0, 29, 0, []), (158, 159, 14, 0, 0, []), (159, 160, 18, 0, 0, []), (160, 161, 0, 1, 0, []), (161, 162, 4, 0, 0, []), (162, 163, 19, 0, 0, []), (163, 165, 1, 0, 4, []), (165, 166, 60, 0, 0, [])]
/-- 169: LaidQuarrelModel.guest(I)I -/
def t_X11_guest : List ME := [(0, 1, 1, 0, 1, []), (1, 4, 50, 145, 0, []), (4, 7, 6, 10, 1, []), (7, 9, 0, (-2), 0, []), (9, 10, 60, 0, 0, []), (10, 11, 1, 1, 0, []), (11, 14, 16, 1, 12, []), (14, 16, 0, 36, 0, []), (16, 17, 18, 0, 0, []), (17, 18, 0, 4, 0, []), (18, 21, 7, 24, 1, []), (21, 23, 0, (-4), 0, []), (23, 24, 60, 0, 0, []), (24, 25, 1, 1, 0, []), (25, 28, 16, 1, 12, []), (28, 30, 0, 25, 0, []), (30, 31, 1, 1, 0, []), (31, 34, 16, 1, 12, []), (34, 36, 0, 36, 0, []), (36, 37, 18, 0, 0, []), (37, 38, 4, 0, 0, []), (38, 39, 1, 0, 1, []), (39, 40, 19, 0, 0, []), (40, 41, 1, 1, 0, []), (41, 44, 16, 1, 12, []), (44, 46, 0, 36, 0, []), (46, 47, 14, 0, 0, []), (47, 48, 18, 0, 0, []), (48, 49, 0, 1, 0, []), (49, 50, 4, 0, 0, []), (50, 51, 19, 0, 0, []), (51, 52, 1, 1, 0, []), (52, 55, 16, 1, 12, []), (55, 57, 0, 36, 0, []), (57, 58, 18, 0, 0, []), (58, 59, 0, 1, 0, []), (59, 60, 4, 1, 0, []), (60, 61, 60, 0, 0, [])]
/-- 170: LaidQuarrelModel.of(II)I -/
def t_X11_of : List ME := [(0, 1, 1, 1, 0, []), (1, 2, 1, 0, 1, []), (2, 5, 51, 125, 1, []), (5, 8, 6, 18, 0, []), (8, 9, 1, 0, 2, []), (9, 10, 0, 0, 0, []), (10, 12, 0, 7, 0, []), (12, 15, 50, 139, 0, []), (15, 18, 6, 22, 1, []), (18, 21, 0, (-10001), 0, []), (21, 22, 60, 0, 0, []), (22, 23, 1, 0, 2, []), (23, 68, 40, 100, 0, [(0, 68), (1, 78), (2, 100), (3, 100), (4, 100), (5, 100), (6, 88), (7, 94)]), (68, 69, 1, 1, 0, []), (69, 72, 16, 1, 12, []), (72, 74, 0, 37, 0, []), (74, 75, 1, 0, 1, []), (75, 76, 4, 0, 0, []), (76, 77, 18, 0, 0, []), (77, 78, 60, 0, 0, []), (78, 79, 1, 1, 0, []), (79, 82, 16, 1, 12, []), (82, 84, 0, 43, 0, []), (84, 85, 1, 0, 1, []), (85, 86, 4, 0, 0, []), (86, 87, 18, 0, 0, []), (87, 88, 60, 0, 0, []), (88, 89, 1, 1, 0, []), (89, 90, 1, 0, 1, []), (90, 93, 51, 124, 1, []), (93, 94, 60, 0, 0, []), (94, 95, 1, 1, 0, []), (95, 96, 1, 0, 1, []), (96, 99, 51, 126, 1, []), (99, 100, 60, 0, 0, []), (100, 101, 1, 1, 0, []), (101, 104, 16, 1, 12, []), (104, 105, 0, 1, 0, []), (105, 107, 0, 6, 0, []), (107, 108, 1, 0, 2, []), (108, 109, 0, 2, 0, []), (109, 110, 4, 1, 0, []), (110, 111, 4, 2, 0, []), (111, 112, 4, 0, 0, []), (112, 113, 1, 0, 1, []), (113, 114, 4, 0, 0, []), (114, 115, 18, 0, 0, []), (115, 116, 60, 0, 0, [])]
/-- 171: LaidQuarrelModel.row(III)I -/
def t_X11_row : List ME := [(0, 1, 1, 1, 0, []), (1, 2, 1, 0, 1, []), (2, 5, 51, 125, 1, []), (5, 8, 6, 17, 0, []), (8, 9, 1, 0, 2, []), (9, 10, 0, 0, 0, []), (10, 11, 0, 3, 0, []), (11, 14, 50, 139, 0, []), (14, 17, 6, 19, 1, []), (17, 18, 0, (-1), 0, []), (18, 19, 60, 0, 0, []), (19, 20, 1, 0, 3, []), (20, 21, 0, 0, 0, []), (21, 23, 0, 9, 0, []), (23, 26, 50, 139, 0, []), (26, 29, 6, 32, 1, []), (29, 31, 0, (-2), 0, []), (31, 32, 60, 0, 0, []), (32, 33, 1, 1, 0, []), (33, 36, 16, 1, 12, []), (36, 38, 0, 37, 0, []), (38, 39, 1, 0, 1, []), (39, 40, 4, 0, 0, []), (40, 41, 18, 0, 0, []), (41, 43, 0, 6, 0, []), (43, 46, 7, 49, 0, []), (46, 48, 0, (-3), 0, []), (48, 49, 60, 0, 0, []), (49, 50, 1, 1, 0, []), (50, 53, 16, 1, 12, []), (53, 55, 0, 49, 0, []), (55, 56, 0, 4, 0, []), (56, 57, 1, 0, 1, []), (57, 58, 4, 2, 0, []), (58, 59, 4, 0, 0, []), (59, 60, 1, 0, 2, []), (60, 61, 4, 0, 0, []), (61, 62, 18, 0, 0, []), (62, 64, 2, 0, 4, []), (64, 65, 1, 1, 0, []), (65, 68, 16, 1, 12, []), (68, 70, 0, 49, 0, []), (70, 71, 0, 4, 0, []), (71, 72, 1, 0, 1, []), (72, 73, 4, 2, 0, []), (73, 74, 4, 0, 0, []), (74, 75, 1, 0, 2, []), (75, 76, 4, 0, 0, []), (76, 77, 1, 0, 3, []), (77, 78, 19, 0, 0, []), (78, 80, 1, 0, 4, []), (80, 81, 60, 0, 0, [])]
/-- 172: LaidQuarrelModel.set(III)I -/
def t_X11_set : List ME := [(0, 1, 1, 1, 0, []), (1, 2, 1, 0, 1, []), (2, 5, 51, 125, 1, []), (5, 8, 6, 17, 0, []), (8, 9, 1, 0, 2, []), (9, 10, 0, 0, 0, []), (10, 11, 0, 1, 0, []), (11, 14, 50, 139, 0, []), (14, 17, 6, 19, 1, []), (17, 18, 0, (-1), 0, []), (18, 19, 60, 0, 0, []), (19, 20, 1, 0, 3, []), (20, 21, 0, 0, 0, []), (21, 22, 1, 0, 2, []), (22, 25, 6, 31, 1, []), (25, 28, 0, 199, 0, []), (28, 31, 10, 32, 0, []), (31, 32, 0, 3, 0, []), (32, 35, 50, 139, 0, []), (35, 38, 6, 41, 1, []), (38, 40, 0, (-2), 0, []), (40, 41, 60, 0, 0, []), (41, 43, 0, 7, 0, []), (43, 45, 0, 6, 0, []), (45, 46, 1, 0, 2, []), (46, 47, 4, 2, 0, []), (47, 48, 4, 0, 0, []), (48, 49, 1, 0, 1, []), (49, 50, 4, 0, 0, []), (50, 52, 2, 0, 4, []), (52, 53, 1, 1, 0, []), (53, 56, 16, 1, 12, []), (56, 58, 1, 0, 4, []), (58, 59, 18, 0, 0, []), (59, 61, 2, 0, 5, []), (61, 62, 1, 1, 0, []), (62, 65, 16, 1, 12, []), (65, 67, 1, 0, 4, []), (67, 68, 1, 0, 3, []), (68, 69, 19, 0, 0, []), (69, 71, 1, 0, 5, []), (71, 72, 60, 0, 0, [])]
/-- 173: LaidQuarrelModel.mood(I)I -/
def t_X11_mood : List ME := [(0, 1, 1, 1, 0, []), (1, 2, 1, 0, 1, []), (2, 5, 51, 127, 1, []), (5, 8, 6, 20, 0, []), (8, 9, 1, 1, 0, []), (9, 12, 16, 1, 12, []), (12, 14, 0, 25, 0, []), (14, 15, 1, 0, 1, []), (15, 16, 4, 0, 0, []), (16, 17, 18, 0, 0, []), (17, 20, 10, 23, 0, []), (20, 23, 0, (-10001), 0, []), (23, 24, 60, 0, 0, [])]
/-- 174: LaidQuarrelModel.fullOnes()I -/
def t_X11_fullOnes : List ME := [(0, 1, 0, 0, 0, []), (1, 2, 2, 0, 1, []), (2, 3, 0, 0, 0, []), (3, 4, 2, 0, 2, []), (4, 5, 1, 0, 2, []), (5, 6, 1, 1, 0, []), (6, 9, 16, 1, 12, []), (9, 11, 0, 29, 0, []), (11, 12, 18, 0, 0, []), (12, 15, 7, 43, 3, []), (15, 16, 1, 0, 1, []), (16, 17, 1, 1, 0, []), (17, 20, 16, 1, 12, []), (20, 22, 0, 19, 0, []), (22, 23, 1, 0, 2, []), (23, 24, 4, 0, 0, []), (24, 25, 18, 0, 0, []), (25, 28, 6, 34, 1, []), (28, 29, 0, 1, 0, []), (29, 30, 1, 0, 2, []), (30, 31, 4, 8, 0, []), (31, 34, 10, 35, 0, []), (34, 35, 0, 0, 0, []), (35, 36, 4, 6, 0, []), (36, 37, 2, 0, 1, []), (37, 40, 3, 2, 1, []), (40, 43, 10, 4, 0, []), (43, 44, 1, 0, 1, []), (44, 45, 60, 0, 0, [])]
/-- 175: LaidQuarrelModel.allSay()I -/
def t_X11_allSay : List ME := [(0, 1, 0, 0, 0, []), (1, 2, 2, 0, 1, []), (2, 3, 0, 0, 0, []), (3, 4, 2, 0, 2, []), (4, 5, 1, 0, 2, []), (5, 6, 1, 1, 0, []), (6, 9, 16, 1, 12, []), (9, 11, 0, 29, 0, []), (11, 12, 18, 0, 0, []), (12, 15, 7, 45, 3, []), (15, 16, 1, 0, 1, []), (16, 17, 1, 1, 0, []), (17, 20, 16, 1, 12, []), (20, 22, 0, 19, 0, []), (22, 23, 1, 0, 2, []), (23, 24, 4, 0, 0, []), (24, 25, 18, 0, 0, []), (25, 28, 6, 36, 1, []), (28, 29, 1, 1, 0, []), (29, 30, 1, 0, 2, []), (30, 33, 51, 126, 1, []), (33, 36, 10, 37, 0, []), (36, 37, 0, 0, 0, []), (37, 38, 4, 0, 0, []), (38, 39, 2, 0, 1, []), (39, 42, 3, 2, 1, []), (42, 45, 10, 4, 0, []), (45, 46, 1, 0, 1, []), (46, 47, 60, 0, 0, [])]
/-- 176: LaidQuarrelModel.allMoods()I -/
def t_X11_allMoods : List ME := [(0, 1, 0, 0, 0, []), (1, 2, 2, 0, 1, []), (2, 3, 0, 0, 0, []), (3, 4, 2, 0, 2, []), (4, 5, 1, 0, 2, []), (5, 6, 1, 1, 0, []), (6, 9, 16, 1, 12, []), (9, 11, 0, 36, 0, []), (11, 12, 18, 0, 0, []), (12, 15, 7, 33, 3, []), (15, 16, 1, 0, 1, []), (16, 17, 1, 1, 0, []), (17, 20, 16, 1, 12, []), (20, 22, 0, 25, 0, []), (22, 23, 1, 0, 2, []), (23, 24, 4, 0, 0, []), (24, 25, 18, 0, 0, []), (25, 26, 4, 0, 0, []), (26, 27, 2, 0, 1, []), (27, 30, 3, 2, 1, []), (30, 33, 10, 4, 0, []), (33, 34, 1, 0, 1, []), (34, 35, 60, 0, 0, [])]
/-- 177: LaidQuarrelModel.told(I)I -/
def t_X11_told : List ME := [(0, 1, 1, 0, 1, []), (1, 40, 40, 80, 0, [(0, 40), (1, 47), (2, 56), (3, 65), (4, 70), (5, 75)]), (40, 41, 1, 1, 0, []), (41, 44, 16, 1, 12, []), (44, 45, 0, 0, 0, []), (45, 46, 18, 0, 0, []), (46, 47, 60, 0, 0, []), (47, 48, 1, 1, 0, []), (48, 51, 0, 228, 0, []), (51, 52, 0, 0, 0, []), (52, 55, 51, 122, 2, []), (55, 56, 60, 0, 0, []), (56, 57, 1, 1, 0, []), (57, 60, 0, 233, 0, []), (60, 61, 0, 5, 0, []), (61, 64, 51, 122, 2, []), (64, 65, 60, 0, 0, []), (65, 66, 1, 1, 0, []), (66, 69, 51, 128, 0, []), (69, 70, 60, 0, 0, []), (70, 71, 1, 1, 0, []), (71, 74, 51, 129, 0, []), (74, 75, 60, 0, 0, []), (75, 76, 1, 1, 0, []), (76, 79, 51, 130, 0, []), (79, 80, 60, 0, 0, []), (80, 83, 0, (-10001), 0, []), (83, 84, 60, 0, 0, [])]
/-- 178: LaidQuarrelModel.brings(II)V -/
def t_X11_brings : List ME := [(0, 1, 1, 1, 0, []), (1, 4, 16, 1, 12, []), (4, 6, 0, 25, 0, []), (6, 7, 1, 0, 1, []), (7, 8, 4, 0, 0, []), (8, 9, 1, 1, 0, []), (9, 12, 16, 1, 12, []), (12, 14, 0, 25, 0, []), (14, 15, 1, 0, 1, []), (15, 16, 4, 0, 0, []), (16, 17, 18, 0, 0, []), (17, 18, 1, 0, 2, []), (18, 19, 4, 0, 0, []), (19, 21, 0, (-99), 0, []), (21, 23, 0, 99, 0, []), (23, 26, 50, 140, 0, []), (26, 27, 19, 0, 0, []), (27, 28, 63, 0, 0, [])]
/-- 179: LaidQuarrelModel.pours(II)V -/
def t_X11_pours : List ME := [(0, 1, 1, 1, 0, []), (1, 2, 1, 0, 2, []), (2, 3, 1, 1, 0, []), (3, 4, 1, 0, 1, []), (4, 7, 51, 126, 1, []), (7, 10, 51, 131, 2, []), (10, 11, 1, 1, 0, []), (11, 14, 16, 1, 12, []), (14, 16, 0, 19, 0, []), (16, 17, 1, 0, 1, []), (17, 18, 4, 0, 0, []), (18, 19, 0, 1, 0, []), (19, 20, 19, 0, 0, []), (20, 21, 63, 0, 0, [])]
/-- 180: LaidQuarrelModel.pour(II)I -/
def t_X11_pour : List ME := [(0, 1, 1, 1, 0, []), (1, 2, 1, 0, 1, []), (2, 5, 51, 125, 1, []), (5, 8, 6, 16, 0, []), (8, 9, 1, 1, 0, []), (9, 10, 1, 0, 2, []), (10, 13, 51, 127, 1, []), (13, 16, 6, 20, 1, []), (16, 19, 0, (-10001), 0, []), (19, 20, 60, 0, 0, []), (20, 21, 1, 1, 0, []), (21, 24, 16, 1, 12, []), (24, 26, 0, 19, 0, []), (26, 27, 1, 0, 1, []), (27, 28, 4, 0, 0, []), (28, 29, 18, 0, 0, []), (29, 30, 0, 1, 0, []), (30, 33, 7, 37, 1, []), (33, 36, 0, (-10003), 0, []), (36, 37, 60, 0, 0, []), (37, 38, 1, 1, 0, []), (38, 39, 1, 0, 1, []), (39, 40, 1, 0, 2, []), (40, 43, 51, 132, 2, []), (43, 44, 1, 1, 0, []), (44, 47, 16, 1, 12, []), (47, 49, 0, 25, 0, []), (49, 50, 1, 0, 2, []), (50, 51, 4, 0, 0, []), (51, 52, 18, 0, 0, []), (52, 53, 60, 0, 0, [])]
/-- 181: LaidQuarrelModel.both(III)I -/
def t_X11_both : List ME := [(0, 1, 1, 1, 0, []), (1, 2, 1, 0, 1, []), (2, 5, 51, 125, 1, []), (5, 8, 6, 24, 0, []), (8, 9, 1, 1, 0, []), (9, 10, 1, 0, 2, []), (10, 13, 51, 125, 1, []), (13, 16, 6, 24, 0, []), (16, 17, 1, 1, 0, []), (17, 18, 1, 0, 3, []), (18, 21, 51, 127, 1, []), (21, 24, 6, 28, 1, []), (24, 27, 0, (-10001), 0, []), (27, 28, 60, 0, 0, []), (28, 29, 1, 0, 1, []), (29, 30, 1, 0, 2, []), (30, 33, 7, 37, 1, []), (33, 36, 0, (-10002), 0, []), (36, 37, 60, 0, 0, []), (37, 38, 1, 1, 0, []), (38, 41, 16, 1, 12, []), (41, 43, 0, 19, 0, []), (43, 44, 1, 0, 1, []), (44, 45, 4, 0, 0, []), (45, 46, 18, 0, 0, []), (46, 47, 1, 1, 0, []), (47, 50, 16, 1, 12, []), (50, 52, 0, 19, 0, []), (52, 53, 1, 0, 2, []), (53, 54, 4, 0, 0, []), (54, 55, 18, 0, 0, []), (55, 56, 4, 0, 0, []), (56, 59, 6, 63, 5, []), (59, 62, 0, (-10003), 0, []), (62, 63, 60, 0, 0, []), (63, 64, 1, 1, 0, []), (64, 65, 1, 0, 3, []), (65, 66, 1, 1, 0, []), (66, 67, 1, 0, 1, []), (67, 70, 51, 126, 1, []), (70, 71, 1, 1, 0, []), (71, 72, 1, 0, 2, []), (72, 75, 51, 126, 1, []), (75, 76, 4, 0, 0, []), (76, 77, 0, 2, 0, []), (77, 78, 4, 3, 0, []), (78, 81, 51, 131, 2, []), (81, 82, 1, 1, 0, []), (82, 85, 16, 1, 12, []), (85, 87, 0, 19, 0, []), (87, 88, 1, 0, 1, []), (88, 89, 4, 0, 0, []), (89, 90, 0, 1, 0, []), (90, 91, 19, 0, 0, []), (91, 92, 1, 1, 0, []), (92, 95, 16, 1, 12, []), (95, 97, 0, 19, 0, []), (97, 98, 1, 0, 2, []), (98, 99, 4, 0, 0, []), (99, 100, 0, 1, 0, []), (100, 101, 19, 0, 0, []), (101, 102, 1, 1, 0, []), (102, 105, 16, 1, 12, []), (105, 107, 0, 25, 0, []), (107, 108, 1, 0, 3, []), (108, 109, 4, 0, 0, []), (109, 110, 18, 0, 0, []), (110, 111, 60, 0, 0, [])]
/-- 182: LaidQuarrelModel.goes()V -/
def t_X11_goes : List ME := [(0, 1, 0, 0, 0, []), (1, 2, 2, 0, 1, []), (2, 3, 1, 0, 1, []), (3, 4, 1, 1, 0, []), (4, 7, 16, 1, 12, []), (7, 9, 0, 29, 0, []), (9, 10, 18, 0, 0, []), (10, 13, 7, 63, 3, []), (13, 14, 1, 1, 0, []), (14, 17, 16, 1, 12, []), (17, 19, 0, 7, 0, []), (19, 20, 1, 0, 1, []), (20, 21, 4, 0, 0, []), (21, 22, 14, 0, 0, []), (22, 23, 18, 0, 0, []), (23, 24, 1, 1, 0, []), (24, 27, 16, 1, 12, []), (27, 29, 0, 19, 0, []), (29, 30, 1, 0, 1, []), (30, 31, 4, 0, 0, []), (31, 32, 18, 0, 0, []), (32, 35, 6, 54, 1, []), (35, 36, 1, 1, 0, []), (36, 39, 16, 1, 12, []), (39, 41, 0, 7, 0, []), (41, 42, 1, 0, 1, []), (42, 43, 4, 0, 0, []), (43, 44, 18, 0, 0, []), (44, 47, 0, 199, 0, []), (47, 50, 7, 54, 3, []), (50, 51, 0, 1, 0, []), (51, 54, 10, 55, 0, []), (54, 55, 0, 0, 0, []), (55, 56, 4, 0, 0, []), (56, 57, 19, 0, 0, []), (57, 60, 3, 1, 1, []), (60, 63, 10, 2, 0, []), (63, 64, 0, 0, 0, []), (64, 65, 2, 0, 1, []), (65, 66, 1, 0, 1, []), (66, 67, 1, 1, 0, []), (67, 70, 16, 1, 12, []), (70, 72, 0, 36, 0, []), (72, 73, 18, 0, 0, []), (73, 76, 7, 111, 3, []), (76, 77, 1, 1, 0, []), (77, 80, 16, 1, 12, []), (80, 82, 0, 25, 0, []), (82, 83, 1, 0, 1, []), (83, 84, 4, 0, 0, []), (84, 85, 1, 1, 0, []), (85, 88, 16, 1, 12, []), (88, 90, 0, 25, 0, []), (90, 91, 1, 0, 1, []), (91, 92, 4, 0, 0, []), (92, 93, 18, 0, 0, []), (93, 94, 1, 1, 0, []), (94, 97, 0, 228, 0, []), (97, 98, 0, 0, 0, []), (98, 101, 51, 122, 2, []), (101, 104, 50, 142, 0, []), (104, 105, 19, 0, 0, []), (105, 108, 3, 1, 1, []), (108, 111, 10, 65, 0, []), (111, 112, 1, 1, 0, []), (112, 115, 16, 1, 12, []), (115, 116, 0, 0, 0, []), (116, 117, 14, 0, 0, []), (117, 118, 18, 0, 0, []), (118, 119, 0, 1, 0, []), (119, 120, 4, 0, 0, []), (120, 121, 19, 0, 0, []), (121, 122, 63, 0, 0, [])]
/-- 183: LaidQuarrelModel.goesOn(I)V -/
def t_X11_goesOn : List ME := [(0, 1, 0, 0, 0, []), (1, 2, 2, 0, 2, []), (2, 3, 1, 0, 2, []), (3, 4, 1, 0, 1, []), (4, 7, 7, 17, 3, []), (7, 8, 1, 1, 0, []), (8, 11, 51, 133, 0, []), (11, 14, 3, 2, 1, []), (14, 17, 10, 2, 0, []), (17, 18, 63, 0, 0, [])]
/-- 184: LaidQuarrelModel.pass(I)I -/
def t_X11_pass : List ME := [(0, 1, 1, 0, 1, []), (1, 2, 0, 0, 0, []), (2, 4, 0, 60, 0, []), (4, 7, 50, 139, 0, []), (7, 10, 6, 13, 1, []), (10, 12, 0, (-2), 0, []), (12, 13, 60, 0, 0, []), (13, 14, 1, 1, 0, []), (14, 17, 16, 1, 12, []), (17, 18, 0, 0, 0, []), (18, 19, 18, 0, 0, []), (19, 20, 1, 0, 1, []), (20, 21, 4, 0, 0, []), (21, 24, 0, 9999, 0, []), (24, 27, 7, 30, 5, []), (27, 29, 0, (-3), 0, []), (29, 30, 60, 0, 0, []), (30, 31, 1, 1, 0, []), (31, 32, 1, 0, 1, []), (32, 35, 51, 134, 1, []), (35, 36, 1, 1, 0, []), (36, 39, 16, 1, 12, []), (39, 40, 0, 0, 0, []), (40, 41, 18, 0, 0, []), (41, 42, 60, 0, 0, [])]
/-- 185: LaidQuarrelModel.on(II)I -/
def t_X11_on : List ME := [(0, 1, 1, 0, 2, []), (1, 2, 0, 0, 0, []), (2, 3, 0, 1, 0, []), (3, 6, 50, 139, 0, []), (6, 9, 6, 35, 1, []), (9, 10, 1, 1, 0, []), (10, 11, 1, 0, 2, []), (11, 13, 0, 10, 0, []), (13, 14, 4, 1, 0, []), (14, 17, 51, 125, 1, []), (17, 20, 6, 35, 1, []), (20, 21, 1, 1, 0, []), (21, 22, 1, 0, 2, []), (22, 24, 0, 20, 0, []), (24, 25, 4, 1, 0, []), (25, 28, 51, 127, 1, []), (28, 31, 6, 35, 1, []), (31, 34, 0, (-10001), 0, []), (34, 35, 60, 0, 0, []), (35, 36, 1, 0, 1, []), (36, 37, 0, 0, 0, []), (37, 39, 0, 60, 0, []), (39, 42, 50, 139, 0, []), (42, 45, 6, 49, 1, []), (45, 48, 0, (-10002), 0, []), (48, 49, 60, 0, 0, []), (49, 50, 1, 1, 0, []), (50, 53, 51, 135, 0, []), (53, 54, 1, 1, 0, []), (54, 55, 1, 0, 1, []), (55, 58, 51, 134, 1, []), (58, 59, 1, 0, 2, []), (59, 62, 6, 69, 1, []), (62, 63, 1, 1, 0, []), (63, 66, 51, 129, 0, []), (66, 69, 10, 110, 0, []), (69, 70, 1, 0, 2, []), (70, 71, 0, 1, 0, []), (71, 74, 7, 81, 1, []), (74, 75, 1, 1, 0, []), (75, 78, 51, 130, 0, []), (78, 81, 10, 110, 0, []), (81, 82, 1, 0, 2, []), (82, 84, 0, 20, 0, []), (84, 87, 7, 98, 3, []), (87, 88, 1, 1, 0, []), (88, 89, 1, 0, 2, []), (89, 91, 0, 10, 0, []), (91, 92, 4, 1, 0, []), (92, 95, 51, 126, 1, []), (95, 98, 10, 110, 0, []), (98, 99, 1, 1, 0, []), (99, 102, 16, 1, 12, []), (102, 104, 0, 25, 0, []), (104, 105, 1, 0, 2, []), (105, 106, 4, 0, 0, []), (106, 108, 0, 20, 0, []), (108, 109, 4, 1, 0, []), (109, 110, 18, 0, 0, []), (110, 111, 2, 0, 3, []), (111, 112, 1, 1, 0, []), (112, 115, 51, 136, 0, []), (115, 116, 1, 0, 3, []), (116, 117, 60, 0, 0, [])]
/-- 186: LaidQuarrelModel.when(II)I -/
def t_X11_when : List ME := [(0, 1, 1, 1, 0, []), (1, 2, 1, 0, 1, []), (2, 5, 51, 125, 1, []), (5, 8, 6, 17, 0, []), (8, 9, 1, 0, 2, []), (9, 10, 0, 0, 0, []), (10, 11, 0, 1, 0, []), (11, 14, 50, 139, 0, []), (14, 17, 6, 21, 1, []), (17, 20, 0, (-10001), 0, []), (20, 21, 60, 0, 0, []), (21, 22, 1, 1, 0, []), (22, 25, 51, 135, 0, []), (25, 26, 0, 0, 0, []), (26, 27, 2, 0, 3, []), (27, 29, 0, (-1000000), 0, []), (29, 31, 2, 0, 4, []), (31, 32, 0, 0, 0, []), (32, 34, 2, 0, 5, []), (34, 36, 1, 0, 5, []), (36, 38, 0, 60, 0, []), (38, 41, 7, 88, 4, []), (41, 42, 1, 1, 0, []), (42, 43, 1, 0, 1, []), (43, 46, 51, 126, 1, []), (46, 48, 2, 0, 6, []), (48, 50, 1, 0, 6, []), (50, 52, 1, 0, 4, []), (52, 55, 7, 60, 5, []), (55, 57, 1, 0, 5, []), (57, 60, 10, 61, 0, []), (60, 61, 1, 0, 3, []), (61, 62, 2, 0, 3, []), (62, 64, 1, 0, 6, []), (64, 66, 1, 0, 4, []), (66, 69, 7, 74, 5, []), (69, 71, 1, 0, 6, []), (71, 74, 10, 76, 0, []), (74, 76, 1, 0, 4, []), (76, 78, 2, 0, 4, []), (78, 79, 1, 1, 0, []), (79, 82, 51, 133, 0, []), (82, 85, 3, 5, 1, []), (85, 88, 10, 34, 0, []), (88, 89, 1, 1, 0, []), (89, 92, 51, 136, 0, []), (92, 93, 1, 0, 2, []), (93, 96, 6, 100, 1, []), (96, 97, 1, 0, 3, []), (97, 100, 10, 102, 0, []), (100, 102, 1, 0, 4, []), (102, 103, 60, 0, 0, [])]
/-- 187: LaidQuarrelModel.ripe(I)I -/
def t_X11_ripe : List ME := [(0, 1, 1, 1, 0, []), (1, 2, 1, 0, 1, []), (2, 5, 51, 125, 1, []), (5, 8, 6, 10, 1, []), (8, 9, 0, (-1), 0, []), (9, 10, 60, 0, 0, []), (10, 11, 1, 1, 0, []), (11, 14, 51, 135, 0, []), (14, 16, 0, (-5), 0, []), (16, 17, 2, 0, 2, []), (17, 18, 0, 0, 0, []), (18, 19, 2, 0, 3, []), (19, 20, 1, 0, 3, []), (20, 22, 0, 60, 0, []), (22, 25, 7, 56, 4, []), (25, 26, 1, 0, 2, []), (26, 28, 0, (-5), 0, []), (28, 31, 7, 56, 1, []), (31, 32, 1, 1, 0, []), (32, 33, 1, 0, 1, []), (33, 36, 51, 126, 1, []), (36, 39, 6, 43, 2, []), (39, 40, 1, 0, 3, []), (40, 43, 10, 45, 0, []), (43, 45, 0, (-5), 0, []), (45, 46, 2, 0, 2, []), (46, 47, 1, 1, 0, []), (47, 50, 51, 133, 0, []), (50, 53, 3, 3, 1, []), (53, 56, 10, 19, 0, []), (56, 57, 1, 1, 0, []), (57, 60, 51, 136, 0, []), (60, 61, 1, 0, 2, []), (61, 62, 60, 0, 0, [])]
/-- 188: LaidQuarrelModel.lies(I)I -/
def t_X11_lies : List ME := [(0, 1, 1, 1, 0, []), (1, 2, 1, 0, 1, []), (2, 5, 51, 125, 1, []), (5, 8, 6, 10, 1, []), (8, 9, 0, (-1), 0, []), (9, 10, 60, 0, 0, []), (10, 11, 1, 1, 0, []), (11, 14, 16, 1, 12, []), (14, 16, 0, 13, 0, []), (16, 17, 1, 0, 1, []), (17, 18, 4, 0, 0, []), (18, 19, 18, 0, 0, []), (19, 20, 2, 0, 2, []), (20, 21, 0, 0, 0, []), (21, 22, 2, 0, 3, []), (22, 24, 0, (-1000000), 0, []), (24, 26, 2, 0, 4, []), (26, 27, 0, 0, 0, []), (27, 29, 2, 0, 5, []), (29, 31, 1, 0, 5, []), (31, 32, 0, 4, 0, []), (32, 35, 7, 89, 3, []), (35, 36, 1, 1, 0, []), (36, 39, 16, 1, 12, []), (39, 41, 0, 13, 0, []), (41, 42, 1, 0, 1, []), (42, 43, 4, 0, 0, []), (43, 45, 1, 0, 5, []), (45, 46, 19, 0, 0, []), (46, 47, 1, 1, 0, []), (47, 48, 1, 0, 1, []), (48, 51, 51, 126, 1, []), (51, 53, 2, 0, 6, []), (53, 55, 1, 0, 6, []), (55, 57, 1, 0, 4, []), (57, 60, 7, 65, 5, []), (60, 62, 1, 0, 5, []), (62, 65, 10, 66, 0, []), (65, 66, 1, 0, 3, []), (66, 67, 2, 0, 3, []), (67, 69, 1, 0, 6, []), (69, 71, 1, 0, 4, []), (71, 74, 7, 79, 5, []), (74, 76, 1, 0, 6, []), (76, 79, 10, 81, 0, []), (79, 81, 1, 0, 4, []), (81, 83, 2, 0, 4, []), (83, 86, 3, 5, 1, []), (86, 89, 10, 29, 0, []), (89, 90, 1, 1, 0, []), (90, 93, 16, 1, 12, []), (93, 95, 0, 13, 0, []), (95, 96, 1, 0, 1, []), (96, 97, 4, 0, 0, []), (97, 98, 1, 0, 2, []), (98, 99, 19, 0, 0, []), (99, 100, 1, 0, 3, []), (100, 101, 60, 0, 0, [])]
/-- 189: LaidQuarrelModel.looksForSayings()V -/
def t_X11_looksForSayings : List ME := [(0, 1, 0, 0, 0, []), (1, 2, 2, 0, 1, []), (2, 3, 1, 0, 1, []), (3, 4, 1, 1, 0, []), (4, 7, 16, 1, 12, []), (7, 9, 0, 29, 0, []), (9, 10, 18, 0, 0, []), (10, 13, 7, 30, 3, []), (13, 14, 1, 1, 0, []), (14, 17, 16, 12, 12, []), (17, 18, 1, 0, 1, []), (18, 19, 1, 1, 0, []), (19, 20, 1, 0, 1, []), (20, 23, 51, 126, 1, []), (23, 24, 19, 0, 0, []), (24, 27, 3, 1, 1, []), (27, 30, 10, 2, 0, []), (30, 31, 63, 0, 0, [])]
/-- 190: LaidQuarrelModel.countOf(I)I -/
def t_X11_countOf : List ME := [(0, 1, 0, 0, 0, []), (1, 2, 2, 0, 1, []), (2, 3, 0, 0, 0, []), (3, 4, 2, 0, 2, []), (4, 5, 1, 0, 2, []), (5, 7, 0, 6, 0, []), (7, 10, 7, 24, 3, []), (10, 11, 1, 0, 1, []), (11, 12, 1, 0, 0, []), (12, 13, 1, 0, 2, []), (13, 14, 4, 9, 0, []), (14, 15, 0, 1, 0, []), (15, 16, 4, 5, 0, []), (16, 17, 4, 0, 0, []), (17, 18, 2, 0, 1, []), (18, 21, 3, 2, 1, []), (21, 24, 10, 4, 0, []), (24, 25, 1, 0, 1, []), (25, 26, 60, 0, 0, [])]
/-- 191: LaidQuarrelModel.sumOf(I)I -/
def t_X11_sumOf : List ME := [(0, 1, 0, 0, 0, []), (1, 2, 2, 0, 2, []), (2, 3, 0, 0, 0, []), (3, 4, 2, 0, 3, []), (4, 5, 1, 0, 3, []), (5, 6, 1, 1, 0, []), (6, 9, 16, 1, 12, []), (9, 11, 0, 29, 0, []), (11, 12, 18, 0, 0, []), (12, 15, 7, 43, 3, []), (15, 16, 1, 0, 2, []), (16, 17, 1, 0, 1, []), (17, 18, 1, 0, 3, []), (18, 19, 4, 9, 0, []), (19, 20, 0, 1, 0, []), (20, 21, 4, 5, 0, []), (21, 22, 0, 1, 0, []), (22, 25, 7, 34, 1, []), (25, 26, 1, 1, 0, []), (26, 29, 16, 12, 12, []), (29, 30, 1, 0, 3, []), (30, 31, 18, 0, 0, []), (31, 34, 10, 35, 0, []), (34, 35, 0, 0, 0, []), (35, 36, 4, 0, 0, []), (36, 37, 2, 0, 2, []), (37, 40, 3, 3, 1, []), (40, 43, 10, 4, 0, []), (43, 44, 1, 0, 2, []), (44, 45, 60, 0, 0, [])]
/-- 192: LaidQuarrelModel.choose(II)I -/
def t_X11_choose : List ME := [(0, 1, 1, 1, 0, []), (1, 2, 1, 0, 1, []), (2, 5, 51, 127, 1, []), (5, 8, 6, 10, 1, []), (8, 9, 0, (-1), 0, []), (9, 10, 60, 0, 0, []), (10, 11, 1, 0, 2, []), (11, 14, 50, 145, 0, []), (14, 17, 6, 20, 1, []), (17, 19, 0, (-2), 0, []), (19, 20, 60, 0, 0, []), (20, 21, 1, 1, 0, []), (21, 24, 51, 137, 0, []), (24, 25, 1, 1, 0, []), (25, 28, 51, 128, 0, []), (28, 29, 2, 0, 3, []), (29, 31, 0, (-5), 0, []), (31, 33, 2, 0, 4, []), (33, 34, 0, 0, 0, []), (34, 36, 2, 0, 5, []), (36, 38, 1, 0, 5, []), (38, 39, 1, 0, 3, []), (39, 42, 7, 118, 4, []), (42, 44, 1, 0, 5, []), (44, 45, 1, 0, 3, []), (45, 46, 0, (-1), 0, []), (46, 47, 4, 7, 0, []), (47, 48, 4, 5, 0, []), (48, 51, 6, 75, 1, []), (51, 52, 1, 1, 0, []), (52, 55, 16, 1, 12, []), (55, 57, 0, 25, 0, []), (57, 58, 1, 0, 1, []), (58, 59, 4, 0, 0, []), (59, 60, 18, 0, 0, []), (60, 61, 1, 1, 0, []), (61, 63, 1, 0, 5, []), (63, 66, 51, 138, 1, []), (66, 67, 4, 0, 0, []), (67, 68, 1, 0, 2, []), (68, 71, 7, 75, 1, []), (71, 72, 0, 1, 0, []), (72, 75, 10, 76, 0, []), (75, 76, 0, 0, 0, []), (76, 78, 2, 0, 6, []), (78, 80, 1, 0, 6, []), (80, 83, 6, 108, 0, []), (83, 85, 1, 0, 4, []), (85, 87, 0, (-5), 0, []), (87, 90, 7, 103, 0, []), (90, 92, 1, 0, 5, []), (92, 95, 50, 190, 0, []), (95, 97, 1, 0, 4, []), (97, 100, 50, 190, 0, []), (100, 103, 7, 108, 3, []), (103, 105, 1, 0, 5, []), (105, 108, 10, 110, 0, []), (108, 110, 1, 0, 4, []), (110, 112, 2, 0, 4, []), (112, 115, 3, 5, 1, []), (115, 118, 10, 36, 0, []), (118, 120, 1, 0, 4, []), (120, 121, 60, 0, 0, [])]
/-- 193: LaidQuarrelModel.ordersFrom(III)V -/
def t_X11_ordersFrom : List ME := [(0, 1, 1, 0, 2, []), (1, 4, 6, 47, 1, []), (4, 5, 1, 0, 3, []), (5, 6, 1, 1, 0, []), (6, 9, 16, 15, 12, []), (9, 12, 7, 46, 5, []), (12, 13, 1, 1, 0, []), (13, 14, 1, 0, 3, []), (14, 17, 17, 15, 12, []), (17, 18, 0, 0, 0, []), (18, 20, 2, 0, 4, []), (20, 22, 1, 0, 4, []), (22, 23, 1, 0, 1, []), (23, 26, 7, 46, 3, []), (26, 27, 1, 1, 0, []), (27, 30, 16, 14, 12, []), (30, 32, 1, 0, 4, []), (32, 33, 1, 1, 0, []), (33, 36, 16, 13, 12, []), (36, 38, 1, 0, 4, []), (38, 39, 18, 0, 0, []), (39, 40, 19, 0, 0, []), (40, 43, 3, 4, 1, []), (43, 46, 10, 20, 0, []), (46, 47, 63, 0, 0, []), (47, 48, 0, 0, 0, []), (48, 50, 2, 0, 4, []), (50, 52, 1, 0, 4, []), (52, 53, 1, 1, 0, []), (53, 56, 16, 1, 12, []), (56, 58, 0, 29, 0, []), (58, 59, 18, 0, 0, []), (59, 62, 7, 117, 3, []), (62, 63, 1, 0, 2, []), (63, 65, 1, 0, 4, []), (65, 66, 4, 9, 0, []), (66, 67, 0, 1, 0, []), (67, 68, 4, 5, 0, []), (68, 69, 0, 1, 0, []), (69, 72, 7, 111, 1, []), (72, 73, 1, 1, 0, []), (73, 76, 16, 13, 12, []), (76, 77, 1, 0, 1, []), (77, 79, 1, 0, 4, []), (79, 80, 19, 0, 0, []), (80, 81, 1, 1, 0, []), (81, 82, 1, 0, 1, []), (82, 83, 0, 1, 0, []), (83, 84, 4, 0, 0, []), (84, 85, 1, 0, 2, []), (85, 86, 0, 1, 0, []), (86, 88, 1, 0, 4, []), (88, 89, 4, 8, 0, []), (89, 90, 0, (-1), 0, []), (90, 91, 4, 7, 0, []), (91, 92, 4, 5, 0, []), (92, 93, 1, 0, 3, []), (93, 94, 1, 1, 0, []), (94, 97, 16, 12, 12, []), (97, 99, 1, 0, 4, []), (99, 100, 18, 0, 0, []), (100, 101, 4, 0, 0, []), (101, 103, 0, (-99), 0, []), (103, 105, 0, 99, 0, []), (105, 108, 50, 140, 0, []), (108, 111, 51, 139, 3, []), (111, 114, 3, 4, 1, []), (114, 117, 10, 50, 0, []), (117, 118, 63, 0, 0, [])]
/-- 194: LaidQuarrelModel.line(II)I -/
def t_X11_line : List ME := [(0, 1, 1, 1, 0, []), (1, 2, 1, 0, 1, []), (2, 5, 51, 127, 1, []), (5, 8, 6, 17, 0, []), (8, 9, 1, 0, 2, []), (9, 10, 0, (-1), 0, []), (10, 11, 0, 5, 0, []), (11, 14, 50, 139, 0, []), (14, 17, 6, 21, 1, []), (17, 20, 0, (-10001), 0, []), (20, 21, 60, 0, 0, []), (21, 22, 1, 1, 0, []), (22, 25, 51, 137, 0, []), (25, 26, 1, 1, 0, []), (26, 28, 0, (-1000000), 0, []), (28, 31, 17, 15, 12, []), (31, 32, 1, 1, 0, []), (32, 33, 0, 0, 0, []), (33, 34, 1, 1, 0, []), (34, 37, 51, 128, 0, []), (37, 38, 1, 1, 0, []), (38, 41, 16, 1, 12, []), (41, 43, 0, 25, 0, []), (43, 44, 1, 0, 1, []), (44, 45, 4, 0, 0, []), (45, 46, 18, 0, 0, []), (46, 49, 51, 139, 3, []), (49, 50, 1, 0, 2, []), (50, 51, 0, (-1), 0, []), (51, 54, 7, 61, 1, []), (54, 55, 1, 1, 0, []), (55, 58, 16, 15, 12, []), (58, 61, 10, 83, 0, []), (61, 62, 1, 0, 2, []), (62, 63, 1, 1, 0, []), (63, 66, 51, 128, 0, []), (66, 69, 50, 190, 0, []), (69, 72, 7, 81, 3, []), (72, 73, 1, 1, 0, []), (73, 76, 16, 14, 12, []), (76, 77, 1, 0, 2, []), (77, 78, 18, 0, 0, []), (78, 81, 10, 83, 0, []), (81, 83, 0, (-5), 0, []), (83, 84, 60, 0, 0, [])]
/-- 195: LaidQuarrelModel.pair()I -/
def t_X11_pair : List ME := [(0, 1, 1, 1, 0, []), (1, 4, 51, 137, 0, []), (4, 6, 0, (-5), 0, []), (6, 7, 2, 0, 1, []), (7, 8, 0, 0, 0, []), (8, 9, 2, 0, 2, []), (9, 10, 0, 0, 0, []), (10, 11, 2, 0, 3, []), (11, 12, 1, 0, 3, []), (12, 13, 1, 1, 0, []), (13, 16, 16, 1, 12, []), (16, 18, 0, 29, 0, []), (18, 19, 18, 0, 0, []), (19, 22, 7, 141, 3, []), (22, 23, 1, 0, 3, []), (23, 24, 0, 1, 0, []), (24, 25, 4, 0, 0, []), (25, 27, 2, 0, 4, []), (27, 29, 1, 0, 4, []), (29, 30, 1, 1, 0, []), (30, 33, 16, 1, 12, []), (33, 35, 0, 29, 0, []), (35, 36, 18, 0, 0, []), (36, 39, 7, 135, 3, []), (39, 40, 1, 1, 0, []), (40, 43, 16, 12, 12, []), (43, 44, 1, 0, 3, []), (44, 45, 18, 0, 0, []), (45, 46, 1, 1, 0, []), (46, 49, 16, 12, 12, []), (49, 51, 1, 0, 4, []), (51, 52, 18, 0, 0, []), (52, 53, 4, 0, 0, []), (53, 56, 50, 141, 0, []), (56, 58, 2, 0, 5, []), (58, 59, 1, 1, 0, []), (59, 62, 16, 1, 12, []), (62, 64, 0, 19, 0, []), (64, 65, 1, 0, 3, []), (65, 66, 4, 0, 0, []), (66, 67, 18, 0, 0, []), (67, 68, 1, 1, 0, []), (68, 71, 16, 1, 12, []), (71, 73, 0, 19, 0, []), (73, 75, 1, 0, 4, []), (75, 76, 4, 0, 0, []), (76, 77, 18, 0, 0, []), (77, 78, 4, 0, 0, []), (78, 81, 6, 97, 1, []), (81, 82, 1, 0, 1, []), (82, 84, 0, (-5), 0, []), (84, 87, 7, 93, 0, []), (87, 89, 1, 0, 5, []), (89, 90, 1, 0, 2, []), (90, 93, 7, 97, 3, []), (93, 94, 0, 1, 0, []), (94, 97, 10, 98, 0, []), (97, 98, 0, 0, 0, []), (98, 100, 2, 0, 6, []), (100, 102, 1, 0, 6, []), (102, 105, 6, 115, 0, []), (105, 107, 0, 10, 0, []), (107, 108, 1, 0, 3, []), (108, 109, 4, 2, 0, []), (109, 111, 1, 0, 4, []), (111, 112, 4, 0, 0, []), (112, 115, 10, 116, 0, []), (115, 116, 1, 0, 1, []), (116, 117, 2, 0, 1, []), (117, 119, 1, 0, 6, []), (119, 122, 6, 127, 0, []), (122, 124, 1, 0, 5, []), (124, 127, 10, 128, 0, []), (127, 128, 1, 0, 2, []), (128, 129, 2, 0, 2, []), (129, 132, 3, 4, 1, []), (132, 135, 10, 27, 0, []), (135, 138, 3, 3, 1, []), (138, 141, 10, 11, 0, []), (141, 142, 1, 0, 1, []), (142, 143, 60, 0, 0, [])]
/-- 196: LaidQuarrelModel.pairsFrom(II)V -/
def t_X11_pairsFrom : List ME := [(0, 1, 1, 0, 1, []), (1, 2, 1, 1, 0, []), (2, 5, 16, 1, 12, []), (5, 7, 0, 29, 0, []), (7, 8, 18, 0, 0, []), (8, 11, 7, 51, 1, []), (11, 12, 1, 0, 2, []), (12, 13, 1, 1, 0, []), (13, 16, 16, 18, 12, []), (16, 19, 7, 50, 5, []), (19, 20, 1, 1, 0, []), (20, 21, 1, 0, 2, []), (21, 24, 17, 18, 12, []), (24, 25, 0, 0, 0, []), (25, 26, 2, 0, 3, []), (26, 27, 1, 0, 3, []), (27, 29, 0, 6, 0, []), (29, 32, 7, 50, 3, []), (32, 33, 1, 1, 0, []), (33, 36, 16, 17, 12, []), (36, 37, 1, 0, 3, []), (37, 38, 1, 1, 0, []), (38, 41, 16, 16, 12, []), (41, 42, 1, 0, 3, []), (42, 43, 18, 0, 0, []), (43, 44, 19, 0, 0, []), (44, 47, 3, 3, 1, []), (47, 50, 10, 26, 0, []), (50, 51, 63, 0, 0, []), (51, 52, 1, 1, 0, []), (52, 55, 16, 16, 12, []), (55, 56, 1, 0, 1, []), (56, 57, 18, 0, 0, []), (57, 59, 0, (-5), 0, []), (59, 62, 7, 75, 1, []), (62, 63, 1, 1, 0, []), (63, 66, 16, 1, 12, []), (66, 68, 0, 19, 0, []), (68, 69, 1, 0, 1, []), (69, 70, 4, 0, 0, []), (70, 71, 18, 0, 0, []), (71, 72, 0, 1, 0, []), (72, 75, 7, 84, 1, []), (75, 76, 1, 1, 0, []), (76, 77, 1, 0, 1, []), (77, 78, 0, 1, 0, []), (78, 79, 4, 0, 0, []), (79, 80, 1, 0, 2, []), (80, 83, 51, 140, 2, []), (83, 84, 63, 0, 0, []), (84, 85, 1, 0, 1, []), (85, 86, 0, 1, 0, []), (86, 87, 4, 0, 0, []), (87, 88, 2, 0, 3, []), (88, 89, 1, 0, 3, []), (89, 90, 1, 1, 0, []), (90, 93, 16, 1, 12, []), (93, 95, 0, 29, 0, []), (95, 96, 18, 0, 0, []), (96, 99, 7, 195, 3, []), (99, 100, 1, 1, 0, []), (100, 103, 16, 16, 12, []), (103, 104, 1, 0, 3, []), (104, 105, 18, 0, 0, []), (105, 107, 0, (-5), 0, []), (107, 110, 7, 189, 1, []), (110, 111, 1, 1, 0, []), (111, 114, 16, 1, 12, []), (114, 116, 0, 19, 0, []), (116, 117, 1, 0, 3, []), (117, 118, 4, 0, 0, []), (118, 119, 18, 0, 0, []), (119, 122, 6, 189, 1, []), (122, 123, 1, 1, 0, []), (123, 126, 16, 12, 12, []), (126, 127, 1, 0, 1, []), (127, 128, 18, 0, 0, []), (128, 129, 1, 1, 0, []), (129, 132, 16, 12, 12, []), (132, 133, 1, 0, 3, []), (133, 134, 18, 0, 0, []), (134, 135, 4, 0, 0, []), (135, 138, 50, 141, 0, []), (138, 139, 1, 1, 0, []), (139, 142, 0, 233, 0, []), (142, 143, 0, 5, 0, []), (143, 146, 51, 122, 2, []), (146, 149, 7, 189, 4, []), (149, 150, 1, 1, 0, []), (150, 153, 16, 16, 12, []), (153, 154, 1, 0, 1, []), (154, 155, 1, 0, 3, []), (155, 156, 19, 0, 0, []), (156, 157, 1, 1, 0, []), (157, 160, 16, 16, 12, []), (160, 161, 1, 0, 3, []), (161, 162, 1, 0, 1, []), (162, 163, 19, 0, 0, []), (163, 164, 1, 1, 0, []), (164, 165, 1, 0, 1, []), (165, 166, 0, 1, 0, []), (166, 167, 4, 0, 0, []), (167, 168, 1, 0, 2, []), (168, 169, 0, 1, 0, []), (169, 170, 4, 0, 0, []), (170, 173, 51, 140, 2, []), (173, 174, 1, 1, 0, []), (174, 177, 16, 16, 12, []), (177, 178, 1, 0, 1, []), (178, 180, 0, (-5), 0, []), (180, 181, 19, 0, 0, []), (181, 182, 1, 1, 0, []), (182, 185, 16, 16, 12, []), (185, 186, 1, 0, 3, []), (186, 188, 0, (-5), 0, []), (188, 189, 19, 0, 0, []), (189, 192, 3, 3, 1, []), (192, 195, 10, 88, 0, []), (195, 196, 1, 1, 0, []), (196, 197, 1, 0, 1, []), (197, 198, 0, 1, 0, []), (198, 199, 4, 0, 0, []), (199, 200, 1, 0, 2, []), (200, 203, 51, 140, 2, []), (203, 204, 63, 0, 0, [])]
/-- 197: LaidQuarrelModel.match(I)I -/
def t_X11_match : List ME := [(0, 1, 1, 0, 1, []), (1, 4, 6, 17, 0, []), (4, 5, 1, 1, 0, []), (5, 6, 1, 0, 1, []), (6, 8, 0, 10, 0, []), (8, 9, 4, 1, 0, []), (9, 12, 51, 125, 1, []), (12, 15, 6, 17, 1, []), (15, 16, 0, (-1), 0, []), (16, 17, 60, 0, 0, []), (17, 18, 1, 1, 0, []), (18, 21, 51, 137, 0, []), (21, 22, 0, 0, 0, []), (22, 23, 2, 0, 2, []), (23, 24, 1, 0, 2, []), (24, 26, 0, 6, 0, []), (26, 29, 7, 43, 3, []), (29, 30, 1, 1, 0, []), (30, 33, 16, 16, 12, []), (33, 34, 1, 0, 2, []), (34, 36, 0, (-5), 0, []), (36, 37, 19, 0, 0, []), (37, 40, 3, 2, 1, []), (40, 43, 10, 23, 0, []), (43, 44, 1, 1, 0, []), (44, 45, 0, (-1), 0, []), (45, 48, 17, 18, 12, []), (48, 49, 1, 1, 0, []), (49, 50, 0, 0, 0, []), (50, 51, 0, 0, 0, []), (51, 54, 51, 140, 2, []), (54, 55, 1, 0, 1, []), (55, 58, 6, 65, 1, []), (58, 59, 1, 1, 0, []), (59, 62, 16, 18, 12, []), (62, 65, 10, 74, 0, []), (65, 66, 1, 1, 0, []), (66, 69, 16, 17, 12, []), (69, 70, 1, 0, 1, []), (70, 72, 0, 10, 0, []), (72, 73, 4, 1, 0, []), (73, 74, 18, 0, 0, []), (74, 75, 60, 0, 0, [])]
/-- 198: LaidQuarrelModel.words(III)I -/
def t_X11_words : List ME := [(0, 1, 1, 1, 0, []), (1, 2, 1, 0, 1, []), (2, 5, 51, 125, 1, []), (5, 8, 6, 17, 0, []), (8, 9, 1, 0, 3, []), (9, 10, 0, 0, 0, []), (10, 11, 0, 1, 0, []), (11, 14, 50, 139, 0, []), (14, 17, 6, 21, 1, []), (17, 20, 0, (-10001), 0, []), (20, 21, 60, 0, 0, []), (21, 22, 1, 0, 2, []), (22, 25, 50, 146, 0, []), (25, 28, 6, 32, 1, []), (28, 31, 0, (-10002), 0, []), (31, 32, 60, 0, 0, []), (32, 33, 1, 1, 0, []), (33, 36, 16, 1, 12, []), (36, 37, 0, 1, 0, []), (37, 38, 1, 0, 1, []), (38, 39, 4, 0, 0, []), (39, 40, 18, 0, 0, []), (40, 42, 2, 0, 4, []), (42, 43, 0, 0, 0, []), (43, 45, 2, 0, 5, []), (45, 48, 0, (-10005), 0, []), (48, 50, 2, 0, 6, []), (50, 52, 0, 99, 0, []), (52, 54, 2, 0, 7, []), (54, 56, 1, 0, 7, []), (56, 58, 0, (-99), 0, []), (58, 61, 7, 122, 2, []), (61, 62, 1, 1, 0, []), (62, 65, 16, 1, 12, []), (65, 66, 0, 1, 0, []), (66, 67, 1, 0, 1, []), (67, 68, 4, 0, 0, []), (68, 70, 1, 0, 7, []), (70, 71, 19, 0, 0, []), (71, 72, 1, 1, 0, []), (72, 73, 1, 0, 1, []), (73, 76, 51, 126, 1, []), (76, 77, 1, 0, 2, []), (77, 80, 7, 84, 1, []), (80, 81, 0, 1, 0, []), (81, 84, 10, 85, 0, []), (84, 85, 0, 0, 0, []), (85, 87, 2, 0, 8, []), (87, 89, 1, 0, 5, []), (89, 91, 1, 0, 8, []), (91, 94, 6, 98, 0, []), (94, 95, 0, 1, 0, []), (95, 98, 10, 99, 0, []), (98, 99, 0, 0, 0, []), (99, 100, 4, 0, 0, []), (100, 102, 2, 0, 5, []), (102, 104, 1, 0, 8, []), (104, 107, 6, 112, 0, []), (107, 109, 1, 0, 7, []), (109, 112, 10, 114, 0, []), (112, 114, 1, 0, 6, []), (114, 116, 2, 0, 6, []), (116, 119, 3, 7, (-1), []), (119, 122, 10, 54, 0, []), (122, 123, 1, 1, 0, []), (123, 126, 16, 1, 12, []), (126, 127, 0, 1, 0, []), (127, 128, 1, 0, 1, []), (128, 129, 4, 0, 0, []), (129, 131, 1, 0, 4, []), (131, 132, 19, 0, 0, []), (132, 133, 1, 0, 3, []), (133, 136, 6, 141, 1, []), (136, 138, 1, 0, 5, []), (138, 141, 10, 143, 0, []), (141, 143, 1, 0, 6, []), (143, 144, 60, 0, 0, [])]
/-- 199: LaidQuarrelModel.see(III)I -/
def t_X11_see : List ME := [(0, 1, 1, 0, 1, []), (1, 2, 0, (-1), 0, []), (2, 5, 7, 15, 1, []), (5, 6, 1, 1, 0, []), (6, 9, 16, 1, 12, []), (9, 11, 0, 31, 0, []), (11, 12, 0, 0, 0, []), (12, 13, 19, 0, 0, []), (13, 14, 0, 0, 0, []), (14, 15, 60, 0, 0, []), (15, 16, 1, 1, 0, []), (16, 17, 1, 0, 1, []), (17, 20, 51, 125, 1, []), (20, 23, 6, 25, 1, []), (23, 24, 0, (-1), 0, []), (24, 25, 60, 0, 0, []), (25, 26, 1, 0, 2, []), (26, 29, 50, 146, 0, []), (29, 32, 6, 42, 0, []), (32, 33, 1, 0, 3, []), (33, 34, 0, 0, 0, []), (34, 36, 0, 20, 0, []), (36, 39, 50, 139, 0, []), (39, 42, 6, 45, 1, []), (42, 44, 0, (-2), 0, []), (44, 45, 60, 0, 0, []), (45, 46, 1, 1, 0, []), (46, 49, 16, 1, 12, []), (49, 51, 0, 31, 0, []), (51, 52, 18, 0, 0, []), (52, 53, 0, 5, 0, []), (53, 56, 7, 59, 1, []), (56, 58, 0, (-4), 0, []), (58, 59, 60, 0, 0, []), (59, 60, 1, 1, 0, []), (60, 63, 16, 1, 12, []), (63, 65, 0, 73, 0, []), (65, 66, 1, 1, 0, []), (66, 69, 16, 1, 12, []), (69, 71, 0, 31, 0, []), (71, 72, 18, 0, 0, []), (72, 73, 4, 0, 0, []), (73, 74, 1, 0, 1, []), (74, 75, 19, 0, 0, []), (75, 76, 1, 1, 0, []), (76, 79, 16, 1, 12, []), (79, 81, 0, 78, 0, []), (81, 82, 1, 1, 0, []), (82, 85, 16, 1, 12, []), (85, 87, 0, 31, 0, []), (87, 88, 18, 0, 0, []), (88, 89, 4, 0, 0, []), (89, 90, 1, 0, 2, []), (90, 91, 19, 0, 0, []), (91, 92, 1, 1, 0, []), (92, 95, 16, 1, 12, []), (95, 97, 0, 83, 0, []), (97, 98, 1, 1, 0, []), (98, 101, 16, 1, 12, []), (101, 103, 0, 31, 0, []), (103, 104, 18, 0, 0, []), (104, 105, 4, 0, 0, []), (105, 106, 1, 0, 3, []), (106, 107, 19, 0, 0, []), (107, 108, 1, 1, 0, []), (108, 111, 16, 1, 12, []), (111, 113, 0, 31, 0, []), (113, 114, 14, 0, 0, []), (114, 115, 18, 0, 0, []), (115, 116, 0, 1, 0, []), (116, 117, 4, 0, 0, []), (117, 118, 19, 0, 0, []), (118, 119, 1, 1, 0, []), (119, 122, 16, 1, 12, []), (122, 124, 0, 31, 0, []), (124, 125, 18, 0, 0, []), (125, 126, 60, 0, 0, [])]
/-- 200: LaidQuarrelModel.isAsSeen(I)Z -/
def t_X11_isAsSeen : List ME := [(0, 1, 0, 1, 0, []), (1, 2, 2, 0, 2, []), (2, 3, 0, 0, 0, []), (3, 4, 2, 0, 3, []), (4, 5, 1, 0, 3, []), (5, 6, 1, 1, 0, []), (6, 9, 16, 1, 12, []), (9, 11, 0, 31, 0, []), (11, 12, 18, 0, 0, []), (12, 15, 7, 69, 3, []), (15, 16, 1, 0, 2, []), (16, 19, 6, 69, 0, []), (19, 20, 1, 1, 0, []), (20, 23, 16, 1, 12, []), (23, 25, 0, 83, 0, []), (25, 26, 1, 0, 3, []), (26, 27, 4, 0, 0, []), (27, 28, 18, 0, 0, []), (28, 29, 1, 0, 1, []), (29, 32, 7, 57, 1, []), (32, 33, 1, 1, 0, []), (33, 34, 1, 1, 0, []), (34, 37, 16, 1, 12, []), (37, 39, 0, 73, 0, []), (39, 40, 1, 0, 3, []), (40, 41, 4, 0, 0, []), (41, 42, 18, 0, 0, []), (42, 45, 51, 126, 1, []), (45, 46, 1, 1, 0, []), (46, 49, 16, 1, 12, []), (49, 51, 0, 78, 0, []), (51, 52, 1, 0, 3, []), (52, 53, 4, 0, 0, []), (53, 54, 18, 0, 0, []), (54, 57, 7, 61, 1, []), (57, 58, 0, 1, 0, []), (58, 61, 10, 62, 0, []), (61, 62, 0, 0, 0, []), (62, 63, 2, 0, 2, []), (63, 66, 3, 3, 1, []), (66, 69, 10, 4, 0, []), (69, 70, 1, 0, 2, []), (70, 71, 60, 0, 0, [])]
/-- 201: LaidQuarrelModel.areAsSeen()Z -/
def t_X11_areAsSeen : List ME := [(0, 1, 0, 1, 0, []), (1, 2, 2, 0, 1, []), (2, 3, 0, 0, 0, []), (3, 4, 2, 0, 2, []), (4, 5, 1, 0, 2, []), (5, 7, 0, 20, 0, []), (7, 10, 7, 30, 4, []), (10, 11, 1, 0, 1, []), (11, 14, 6, 30, 0, []), (14, 15, 1, 1, 0, []), (15, 16, 1, 0, 2, []), (16, 19, 51, 141, 1, []), (19, 20, 2, 0, 1, []), (20, 21, 1, 1, 0, []), (21, 24, 51, 133, 0, []), (24, 27, 3, 2, 1, []), (27, 30, 10, 4, 0, []), (30, 31, 1, 1, 0, []), (31, 34, 51, 136, 0, []), (34, 35, 1, 0, 1, []), (35, 36, 60, 0, 0, [])]
/-- 202: LaidQuarrelModel.old(II)I -/
def t_X11_old : List ME := [(0, 1, 1, 1, 0, []), (1, 2, 1, 0, 1, []), (2, 5, 51, 125, 1, []), (5, 8, 6, 17, 0, []), (8, 9, 1, 0, 2, []), (9, 10, 0, 0, 0, []), (10, 11, 0, 1, 0, []), (11, 14, 50, 139, 0, []), (14, 17, 6, 19, 1, []), (17, 18, 0, (-1), 0, []), (18, 19, 60, 0, 0, []), (19, 20, 0, 0, 0, []), (20, 21, 2, 0, 3, []), (21, 23, 0, (-5), 0, []), (23, 25, 2, 0, 4, []), (25, 26, 1, 1, 0, []), (26, 29, 51, 135, 0, []), (29, 31, 0, 99, 0, []), (31, 33, 2, 0, 5, []), (33, 35, 1, 0, 5, []), (35, 38, 6, 88, 2, []), (38, 39, 1, 1, 0, []), (39, 42, 16, 1, 12, []), (42, 44, 0, 7, 0, []), (44, 45, 1, 0, 1, []), (45, 46, 4, 0, 0, []), (46, 48, 1, 0, 5, []), (48, 49, 19, 0, 0, []), (49, 50, 1, 1, 0, []), (50, 53, 51, 142, 0, []), (53, 55, 2, 0, 6, []), (55, 56, 1, 0, 3, []), (56, 58, 1, 0, 6, []), (58, 61, 6, 65, 0, []), (61, 62, 0, 1, 0, []), (62, 65, 10, 66, 0, []), (65, 66, 0, 0, 0, []), (66, 67, 4, 0, 0, []), (67, 68, 2, 0, 3, []), (68, 70, 1, 0, 6, []), (70, 73, 6, 78, 0, []), (73, 75, 1, 0, 5, []), (75, 78, 10, 80, 0, []), (78, 80, 1, 0, 4, []), (80, 82, 2, 0, 4, []), (82, 85, 3, 5, (-1), []), (85, 88, 10, 33, 0, []), (88, 89, 1, 0, 2, []), (89, 92, 6, 96, 1, []), (92, 93, 1, 0, 3, []), (93, 96, 10, 98, 0, []), (96, 98, 1, 0, 4, []), (98, 99, 60, 0, 0, [])]
/-- 203: LaidQuarrelModel.firm(II)I -/
def t_X11_firm : List ME := [(0, 1, 1, 1, 0, []), (1, 2, 1, 0, 1, []), (2, 5, 51, 125, 1, []), (5, 8, 6, 17, 0, []), (8, 9, 1, 0, 2, []), (9, 10, 0, 0, 0, []), (10, 11, 0, 1, 0, []), (11, 14, 50, 139, 0, []), (14, 17, 6, 19, 1, []), (17, 18, 0, (-1), 0, []), (18, 19, 60, 0, 0, []), (19, 20, 1, 1, 0, []), (20, 23, 16, 1, 12, []), (23, 25, 0, 43, 0, []), (25, 26, 1, 0, 1, []), (26, 27, 4, 0, 0, []), (27, 28, 18, 0, 0, []), (28, 29, 2, 0, 3, []), (29, 30, 0, 0, 0, []), (30, 32, 2, 0, 4, []), (32, 34, 0, (-5), 0, []), (34, 36, 2, 0, 5, []), (36, 37, 1, 1, 0, []), (37, 40, 51, 135, 0, []), (40, 42, 0, 9, 0, []), (42, 44, 2, 0, 6, []), (44, 46, 1, 0, 6, []), (46, 49, 6, 101, 2, []), (49, 50, 1, 1, 0, []), (50, 53, 16, 1, 12, []), (53, 55, 0, 43, 0, []), (55, 56, 1, 0, 1, []), (56, 57, 4, 0, 0, []), (57, 59, 1, 0, 6, []), (59, 60, 19, 0, 0, []), (60, 61, 1, 1, 0, []), (61, 64, 51, 142, 0, []), (64, 66, 2, 0, 7, []), (66, 68, 1, 0, 4, []), (68, 70, 1, 0, 7, []), (70, 73, 6, 77, 0, []), (73, 74, 0, 1, 0, []), (74, 77, 10, 78, 0, []), (77, 78, 0, 0, 0, []), (78, 79, 4, 0, 0, []), (79, 81, 2, 0, 4, []), (81, 83, 1, 0, 7, []), (83, 86, 6, 91, 0, []), (86, 88, 1, 0, 6, []), (88, 91, 10, 93, 0, []), (91, 93, 1, 0, 5, []), (93, 95, 2, 0, 5, []), (95, 98, 3, 6, (-1), []), (98, 101, 10, 44, 0, []), (101, 102, 1, 1, 0, []), (102, 105, 16, 1, 12, []), (105, 107, 0, 43, 0, []), (107, 108, 1, 0, 1, []), (108, 109, 4, 0, 0, []), (109, 110, 1, 0, 3, []), (110, 111, 19, 0, 0, []), (111, 112, 1, 0, 2, []), (112, 115, 6, 120, 1, []), (115, 117, 1, 0, 4, []), (117, 120, 10, 122, 0, []), (120, 122, 1, 0, 5, []), (122, 123, 60, 0, 0, [])]
/-- 204: LaidQuarrelModel.whose(II)I -/
def t_X11_whose : List ME := [(0, 1, 1, 0, 1, []), (1, 4, 50, 146, 0, []), (4, 7, 6, 17, 0, []), (7, 8, 1, 0, 2, []), (8, 9, 0, 0, 0, []), (9, 11, 0, 40, 0, []), (11, 14, 50, 139, 0, []), (14, 17, 6, 20, 1, []), (17, 19, 0, (-2), 0, []), (19, 20, 60, 0, 0, []), (20, 21, 1, 1, 0, []), (21, 24, 51, 135, 0, []), (24, 25, 1, 1, 0, []), (25, 26, 1, 0, 2, []), (26, 29, 51, 134, 1, []), (29, 30, 0, 0, 0, []), (30, 31, 2, 0, 3, []), (31, 32, 0, 0, 0, []), (32, 34, 2, 0, 4, []), (34, 36, 1, 0, 4, []), (36, 37, 1, 1, 0, []), (37, 40, 16, 1, 12, []), (40, 42, 0, 29, 0, []), (42, 43, 18, 0, 0, []), (43, 46, 7, 73, 3, []), (46, 47, 1, 0, 3, []), (47, 48, 1, 1, 0, []), (48, 50, 1, 0, 4, []), (50, 53, 51, 126, 1, []), (53, 54, 1, 0, 1, []), (54, 57, 7, 64, 1, []), (57, 58, 0, 1, 0, []), (58, 60, 1, 0, 4, []), (60, 61, 4, 8, 0, []), (61, 64, 10, 65, 0, []), (64, 65, 0, 0, 0, []), (65, 66, 4, 6, 0, []), (66, 67, 2, 0, 3, []), (67, 70, 3, 4, 1, []), (70, 73, 10, 34, 0, []), (73, 74, 1, 1, 0, []), (74, 77, 51, 136, 0, []), (77, 78, 1, 0, 3, []), (78, 79, 60, 0, 0, [])]
/-- 205: LaidQuarrelModel.lowest(JJI)J -/
def t_X11_lowest : List ME := [(0, 1, 1, 2, 0, []), (1, 2, 34, 0, 0, []), (2, 3, 33, 0, 0, []), (3, 6, 6, 11, 3, []), (6, 7, 1, 2, 0, []), (7, 8, 30, 0, 0, []), (8, 11, 10, 12, 0, []), (11, 12, 1, 2, 0, []), (12, 14, 2, 2, 5, []), (14, 15, 1, 2, 2, []), (15, 17, 2, 2, 7, []), (17, 19, 1, 2, 7, []), (19, 20, 34, 0, 0, []), (20, 21, 33, 0, 0, []), (21, 24, 6, 42, 0, []), (24, 26, 1, 2, 5, []), (26, 28, 1, 2, 7, []), (28, 29, 32, 0, 0, []), (29, 31, 2, 2, 9, []), (31, 33, 1, 2, 7, []), (33, 35, 2, 2, 5, []), (35, 37, 1, 2, 9, []), (37, 39, 2, 2, 7, []), (39, 42, 10, 17, 0, []), (42, 44, 1, 0, 4, []), (44, 47, 6, 51, 1, []), (47, 48, 1, 2, 0, []), (48, 51, 10, 52, 0, []), (51, 52, 1, 2, 2, []), (52, 54, 1, 2, 5, []), (54, 55, 31, 0, 0, []), (55, 56, 62, 0, 0, [])]
/-- 206: LaidQuarrelModel.odds(III)J -/
def t_X11_odds : List ME := [(0, 1, 1, 1, 0, []), (1, 2, 1, 0, 1, []), (2, 5, 51, 127, 1, []), (5, 8, 6, 31, 0, []), (8, 9, 1, 0, 2, []), (9, 12, 50, 145, 0, []), (12, 15, 6, 31, 0, []), (15, 16, 1, 0, 3, []), (16, 17, 0, 0, 0, []), (17, 18, 0, 1, 0, []), (18, 21, 50, 139, 0, []), (21, 24, 6, 31, 0, []), (24, 25, 1, 1, 0, []), (25, 28, 51, 128, 0, []), (28, 31, 6, 35, 1, []), (31, 34, 34, (-9223372036854775808), 0, []), (34, 35, 62, 0, 0, []), (35, 36, 34, 0, 0, []), (36, 38, 2, 2, 4, []), (38, 39, 0, 0, 0, []), (39, 41, 2, 0, 6, []), (41, 43, 1, 0, 6, []), (43, 44, 1, 1, 0, []), (44, 47, 16, 1, 12, []), (47, 49, 0, 29, 0, []), (49, 50, 18, 0, 0, []), (50, 53, 7, 109, 3, []), (53, 55, 1, 2, 4, []), (55, 56, 1, 1, 0, []), (56, 59, 16, 1, 12, []), (59, 61, 0, 19, 0, []), (61, 63, 1, 0, 6, []), (63, 64, 4, 0, 0, []), (64, 65, 18, 0, 0, []), (65, 68, 6, 99, 1, []), (68, 69, 1, 1, 0, []), (69, 72, 16, 1, 12, []), (72, 74, 0, 25, 0, []), (74, 75, 1, 0, 1, []), (75, 76, 4, 0, 0, []), (76, 77, 18, 0, 0, []), (77, 78, 1, 1, 0, []), (78, 80, 1, 0, 6, []), (80, 83, 51, 126, 1, []), (83, 84, 4, 0, 0, []), (84, 86, 0, (-99), 0, []), (86, 88, 0, 99, 0, []), (88, 91, 50, 140, 0, []), (91, 92, 1, 0, 2, []), (92, 95, 7, 99, 2, []), (95, 96, 34, 1, 0, []), (96, 99, 10, 100, 0, []), (99, 100, 34, 0, 0, []), (100, 101, 29, 0, 0, []), (101, 103, 2, 2, 4, []), (103, 106, 3, 6, 1, []), (106, 109, 10, 41, 0, []), (109, 111, 1, 2, 4, []), (111, 112, 1, 1, 0, []), (112, 115, 51, 128, 0, []), (115, 118, 50, 190, 0, []), (118, 119, 28, 0, 0, []), (119, 120, 1, 0, 3, []), (120, 123, 50, 205, 0, []), (123, 124, 62, 0, 0, [])]
/-- 207: LaidQuarrelModel.mean(II)J -/
def t_X11_mean : List ME := [(0, 1, 1, 0, 1, []), (1, 2, 0, 0, 0, []), (2, 4, 0, 60, 0, []), (4, 7, 50, 139, 0, []), (7, 10, 6, 26, 0, []), (10, 11, 1, 0, 2, []), (11, 12, 0, 0, 0, []), (12, 13, 0, 1, 0, []), (13, 16, 50, 139, 0, []), (16, 19, 6, 26, 0, []), (19, 20, 1, 1, 0, []), (20, 23, 51, 128, 0, []), (23, 26, 6, 30, 1, []), (26, 29, 34, (-9223372036854775808), 0, []), (29, 30, 62, 0, 0, []), (30, 31, 1, 1, 0, []), (31, 34, 51, 135, 0, []), (34, 35, 1, 1, 0, []), (35, 36, 1, 0, 1, []), (36, 39, 51, 134, 1, []), (39, 40, 1, 1, 0, []), (40, 43, 51, 129, 0, []), (43, 44, 2, 0, 3, []), (44, 45, 1, 1, 0, []), (45, 48, 51, 136, 0, []), (48, 49, 1, 0, 3, []), (49, 50, 28, 0, 0, []), (50, 51, 1, 1, 0, []), (51, 54, 51, 128, 0, []), (54, 57, 50, 190, 0, []), (57, 58, 28, 0, 0, []), (58, 59, 1, 0, 2, []), (59, 62, 50, 205, 0, []), (62, 63, 62, 0, 0, [])]
/-- 208: LaidQuarrelModel.evening(III)I -/
def t_X11_evening : List ME := [(0, 1, 1, 0, 1, []), (1, 2, 0, (-1), 0, []), (2, 5, 7, 15, 1, []), (5, 6, 1, 1, 0, []), (6, 9, 16, 1, 12, []), (9, 11, 0, 32, 0, []), (11, 12, 0, 0, 0, []), (12, 13, 19, 0, 0, []), (13, 14, 0, 0, 0, []), (14, 15, 60, 0, 0, []), (15, 16, 1, 0, 1, []), (16, 17, 0, 0, 0, []), (17, 18, 0, 3, 0, []), (18, 21, 50, 139, 0, []), (21, 24, 6, 49, 0, []), (24, 25, 1, 0, 1, []), (25, 28, 6, 36, 5, []), (28, 29, 1, 1, 0, []), (29, 30, 1, 0, 2, []), (30, 33, 51, 125, 1, []), (33, 36, 6, 49, 0, []), (36, 37, 1, 0, 1, []), (37, 38, 0, 1, 0, []), (38, 41, 7, 51, 1, []), (41, 42, 1, 1, 0, []), (42, 43, 1, 0, 3, []), (43, 46, 51, 127, 1, []), (46, 49, 6, 51, 1, []), (49, 50, 0, (-1), 0, []), (50, 51, 60, 0, 0, []), (51, 52, 1, 1, 0, []), (52, 55, 16, 1, 12, []), (55, 57, 0, 32, 0, []), (57, 58, 18, 0, 0, []), (58, 60, 0, 8, 0, []), (60, 63, 7, 66, 1, []), (63, 65, 0, (-4), 0, []), (65, 66, 60, 0, 0, []), (66, 67, 1, 1, 0, []), (67, 70, 16, 1, 12, []), (70, 72, 0, 88, 0, []), (72, 73, 1, 1, 0, []), (73, 76, 16, 1, 12, []), (76, 78, 0, 32, 0, []), (78, 79, 18, 0, 0, []), (79, 80, 4, 0, 0, []), (80, 81, 1, 0, 1, []), (81, 82, 19, 0, 0, []), (82, 83, 1, 1, 0, []), (83, 86, 16, 1, 12, []), (86, 88, 0, 96, 0, []), (88, 89, 1, 1, 0, []), (89, 92, 16, 1, 12, []), (92, 94, 0, 32, 0, []), (94, 95, 18, 0, 0, []), (95, 96, 4, 0, 0, []), (96, 97, 1, 0, 2, []), (97, 98, 19, 0, 0, []), (98, 99, 1, 1, 0, []), (99, 102, 16, 1, 12, []), (102, 104, 0, 104, 0, []), (104, 105, 1, 1, 0, []), (105, 108, 16, 1, 12, []), (108, 110, 0, 32, 0, []), (110, 111, 18, 0, 0, []), (111, 112, 4, 0, 0, []), (112, 113, 1, 0, 3, []), (113, 114, 19, 0, 0, []), (114, 115, 1, 1, 0, []), (115, 118, 16, 1, 12, []), (118, 120, 0, 32, 0, []), (120, 121, 14, 0, 0, []), (121, 122, 18, 0, 0, []), (122, 123, 0, 1, 0, []), (123, 124, 4, 0, 0, []), (124, 125, 19, 0, 0, []), (125, 126, 1, 1, 0, []), (126, 129, 16, 1, 12, []), (129, 131, 0, 32, 0, []), (131, 132, 18, 0, 0, []), (132, 133, 60, 0, 0, [])]
/-- 209: LaidQuarrelModel.does(III)V -/
def t_X11_does : List ME := [(0, 1, 1, 0, 1, []), (1, 28, 40, 81, 0, [(0, 28), (1, 35), (2, 56)]), (28, 29, 1, 1, 0, []), (29, 32, 51, 133, 0, []), (32, 35, 10, 90, 0, []), (35, 36, 1, 1, 0, []), (36, 39, 16, 1, 12, []), (39, 41, 0, 19, 0, []), (41, 42, 1, 0, 2, []), (42, 43, 4, 0, 0, []), (43, 44, 18, 0, 0, []), (44, 47, 6, 90, 1, []), (47, 48, 1, 1, 0, []), (48, 49, 1, 0, 2, []), (49, 50, 1, 0, 3, []), (50, 53, 51, 132, 2, []), (53, 56, 10, 90, 0, []), (56, 57, 1, 1, 0, []), (57, 60, 16, 1, 12, []), (60, 62, 0, 13, 0, []), (62, 63, 1, 0, 2, []), (63, 64, 4, 0, 0, []), (64, 65, 1, 1, 0, []), (65, 68, 16, 1, 12, []), (68, 70, 0, 13, 0, []), (70, 71, 1, 0, 2, []), (71, 72, 4, 0, 0, []), (72, 73, 18, 0, 0, []), (73, 74, 0, 1, 0, []), (74, 75, 4, 0, 0, []), (75, 76, 0, 4, 0, []), (76, 77, 4, 4, 0, []), (77, 78, 19, 0, 0, []), (78, 81, 10, 90, 0, []), (81, 82, 1, 1, 0, []), (82, 85, 16, 1, 12, []), (85, 86, 0, 1, 0, []), (86, 87, 1, 0, 2, []), (87, 88, 4, 0, 0, []), (88, 89, 0, 0, 0, []), (89, 90, 19, 0, 0, []), (90, 91, 63, 0, 0, [])]
/-- 210: LaidQuarrelModel.done(I)I -/
def t_X11_done : List ME := [(0, 1, 1, 0, 1, []), (1, 2, 0, 0, 0, []), (2, 3, 0, 1, 0, []), (3, 6, 50, 139, 0, []), (6, 9, 6, 13, 1, []), (9, 12, 0, (-10001), 0, []), (12, 13, 60, 0, 0, []), (13, 14, 1, 1, 0, []), (14, 17, 51, 135, 0, []), (17, 18, 0, 0, 0, []), (18, 19, 2, 0, 2, []), (19, 20, 1, 0, 2, []), (20, 21, 1, 1, 0, []), (21, 24, 16, 1, 12, []), (24, 26, 0, 32, 0, []), (26, 27, 18, 0, 0, []), (27, 30, 7, 67, 3, []), (30, 31, 1, 1, 0, []), (31, 32, 1, 1, 0, []), (32, 35, 16, 1, 12, []), (35, 37, 0, 88, 0, []), (37, 38, 1, 0, 2, []), (38, 39, 4, 0, 0, []), (39, 40, 18, 0, 0, []), (40, 41, 1, 1, 0, []), (41, 44, 16, 1, 12, []), (44, 46, 0, 96, 0, []), (46, 47, 1, 0, 2, []), (47, 48, 4, 0, 0, []), (48, 49, 18, 0, 0, []), (49, 50, 1, 1, 0, []), (50, 53, 16, 1, 12, []), (53, 55, 0, 104, 0, []), (55, 56, 1, 0, 2, []), (56, 57, 4, 0, 0, []), (57, 58, 18, 0, 0, []), (58, 61, 51, 143, 3, []), (61, 64, 3, 2, 1, []), (64, 67, 10, 19, 0, []), (67, 68, 1, 0, 1, []), (68, 71, 6, 78, 1, []), (71, 72, 1, 1, 0, []), (72, 75, 51, 130, 0, []), (75, 78, 10, 82, 0, []), (78, 79, 1, 1, 0, []), (79, 82, 51, 129, 0, []), (82, 83, 2, 0, 2, []), (83, 84, 1, 1, 0, []), (84, 87, 51, 136, 0, []), (87, 88, 1, 0, 2, []), (88, 89, 60, 0, 0, [])]
/-- 211: LaidQuarrelModel.book(II)I -/
def t_X11_book : List ME := [(0, 1, 1, 0, 1, []), (1, 2, 0, (-1), 0, []), (2, 5, 7, 15, 1, []), (5, 6, 1, 1, 0, []), (6, 9, 16, 1, 12, []), (9, 11, 0, 33, 0, []), (11, 12, 0, 0, 0, []), (12, 13, 19, 0, 0, []), (13, 14, 0, 0, 0, []), (14, 15, 60, 0, 0, []), (15, 16, 1, 1, 0, []), (16, 17, 1, 0, 1, []), (17, 20, 51, 125, 1, []), (20, 23, 6, 25, 1, []), (23, 24, 0, (-1), 0, []), (24, 25, 60, 0, 0, []), (25, 26, 1, 0, 2, []), (26, 29, 50, 146, 0, []), (29, 32, 6, 35, 1, []), (32, 34, 0, (-2), 0, []), (34, 35, 60, 0, 0, []), (35, 36, 1, 1, 0, []), (36, 39, 16, 1, 12, []), (39, 41, 0, 33, 0, []), (41, 42, 18, 0, 0, []), (42, 44, 0, 8, 0, []), (44, 47, 7, 50, 1, []), (47, 49, 0, (-4), 0, []), (49, 50, 60, 0, 0, []), (50, 51, 1, 1, 0, []), (51, 54, 16, 1, 12, []), (54, 56, 0, 112, 0, []), (56, 57, 1, 1, 0, []), (57, 60, 16, 1, 12, []), (60, 62, 0, 33, 0, []), (62, 63, 18, 0, 0, []), (63, 64, 4, 0, 0, []), (64, 65, 1, 0, 1, []), (65, 66, 19, 0, 0, []), (66, 67, 1, 1, 0, []), (67, 70, 16, 1, 12, []), (70, 72, 0, 120, 0, []), (72, 73, 1, 1, 0, []), (73, 76, 16, 1, 12, []), (76, 78, 0, 33, 0, []), (78, 79, 18, 0, 0, []), (79, 80, 4, 0, 0, []), (80, 81, 1, 0, 2, []), (81, 82, 19, 0, 0, []), (82, 83, 1, 1, 0, []), (83, 86, 16, 1, 12, []), (86, 88, 0, 33, 0, []), (88, 89, 14, 0, 0, []), (89, 90, 18, 0, 0, []), (90, 91, 0, 1, 0, []), (91, 92, 4, 0, 0, []), (92, 93, 19, 0, 0, []), (93, 94, 1, 1, 0, []), (94, 97, 16, 1, 12, []), (97, 99, 0, 33, 0, []), (99, 100, 18, 0, 0, []), (100, 101, 60, 0, 0, [])]
/-- 212: LaidQuarrelModel.looked()I -/
def t_X11_looked : List ME := [(0, 1, 0, 0, 0, []), (1, 2, 2, 0, 1, []), (2, 3, 1, 0, 1, []), (3, 4, 1, 1, 0, []), (4, 7, 16, 1, 12, []), (7, 9, 0, 33, 0, []), (9, 10, 18, 0, 0, []), (10, 13, 7, 46, 3, []), (13, 14, 1, 1, 0, []), (14, 15, 1, 1, 0, []), (15, 18, 16, 1, 12, []), (18, 20, 0, 112, 0, []), (20, 21, 1, 0, 1, []), (21, 22, 4, 0, 0, []), (22, 23, 18, 0, 0, []), (23, 26, 51, 126, 1, []), (26, 27, 1, 1, 0, []), (27, 30, 16, 1, 12, []), (30, 32, 0, 120, 0, []), (32, 33, 1, 0, 1, []), (33, 34, 4, 0, 0, []), (34, 35, 18, 0, 0, []), (35, 38, 7, 40, 0, []), (38, 39, 1, 0, 1, []), (39, 40, 60, 0, 0, []), (40, 43, 3, 1, 1, []), (43, 46, 10, 2, 0, []), (46, 48, 0, (-5), 0, []), (48, 49, 60, 0, 0, [])]
/-- 213: LaidQuarrelModel.ranBody(I)V -/
def t_X11_ranBody : List ME := [(0, 1, 1, 1, 0, []), (1, 4, 16, 20, 12, []), (4, 6, 0, 20, 0, []), (6, 9, 7, 19, 3, []), (9, 10, 1, 1, 0, []), (10, 13, 16, 19, 12, []), (13, 14, 1, 1, 0, []), (14, 17, 16, 20, 12, []), (17, 18, 1, 0, 1, []), (18, 19, 19, 0, 0, []), (19, 20, 1, 1, 0, []), (20, 21, 11, 0, 0, []), (21, 24, 16, 20, 12, []), (24, 25, 0, 1, 0, []), (25, 26, 4, 0, 0, []), (26, 29, 17, 20, 12, []), (29, 30, 63, 0, 0, [])]
/-- 214: LaidQuarrelModel.isUnder(II)Z -/
def t_X11_isUnder : List ME := [(0, 1, 1, 0, 1, []), (1, 4, 6, 25, 0, []), (4, 5, 1, 0, 1, []), (5, 6, 1, 0, 0, []), (6, 9, 7, 25, 0, []), (9, 10, 1, 0, 1, []), (10, 13, 6, 29, 5, []), (13, 14, 1, 0, 1, []), (14, 15, 0, 4, 0, []), (15, 18, 7, 29, 3, []), (18, 19, 1, 0, 0, []), (19, 20, 1, 0, 1, []), (20, 21, 0, 3, 0, []), (21, 22, 4, 0, 0, []), (22, 25, 7, 29, 1, []), (25, 26, 0, 1, 0, []), (26, 29, 10, 30, 0, []), (29, 30, 0, 0, 0, []), (30, 31, 60, 0, 0, [])]
/-- 215: LaidQuarrelModel.plainUtters(I)I -/
def t_X11_plainUtters : List ME := [(0, 1, 1, 1, 0, []), (1, 2, 0, 1, 0, []), (2, 5, 51, 144, 1, []), (5, 6, 1, 0, 1, []), (6, 7, 1, 1, 0, []), (7, 10, 16, 22, 12, []), (10, 11, 4, 0, 0, []), (11, 12, 60, 0, 0, [])]
/-- 216: LaidQuarrelModel.uttersActs(I)I -/
def t_X11_uttersActs : List ME := [(0, 1, 1, 1, 0, []), (1, 4, 16, 21, 12, []), (4, 5, 0, 1, 0, []), (5, 8, 50, 214, 0, []), (8, 11, 6, 25, 0, []), (11, 12, 1, 1, 0, []), (12, 14, 0, 11, 0, []), (14, 17, 51, 144, 1, []), (17, 18, 1, 1, 0, []), (18, 19, 1, 0, 1, []), (19, 20, 0, 3, 0, []), (20, 21, 4, 2, 0, []), (21, 24, 51, 145, 1, []), (24, 25, 60, 0, 0, []), (25, 26, 1, 1, 0, []), (26, 29, 16, 21, 12, []), (29, 30, 0, 5, 0, []), (30, 33, 7, 50, 1, []), (33, 34, 1, 1, 0, []), (34, 36, 0, 51, 0, []), (36, 39, 51, 144, 1, []), (39, 40, 1, 1, 0, []), (40, 41, 1, 0, 1, []), (41, 44, 51, 145, 1, []), (44, 45, 1, 1, 0, []), (45, 48, 16, 22, 12, []), (48, 49, 4, 7, 0, []), (49, 50, 60, 0, 0, []), (50, 51, 1, 1, 0, []), (51, 52, 1, 0, 1, []), (52, 55, 51, 145, 1, []), (55, 56, 60, 0, 0, [])]
/-- 217: LaidQuarrelModel.plainKeeping(I)I -/
def t_X11_plainKeeping : List ME := [(0, 1, 1, 1, 0, []), (1, 2, 0, 2, 0, []), (2, 5, 51, 144, 1, []), (5, 6, 1, 1, 0, []), (6, 7, 1, 0, 1, []), (7, 10, 51, 146, 1, []), (10, 11, 1, 1, 0, []), (11, 14, 16, 23, 12, []), (14, 15, 4, 1, 0, []), (15, 16, 60, 0, 0, [])]
/-- 218: LaidQuarrelModel.keepsActs(I)I -/
def t_X11_keepsActs : List ME := [(0, 1, 1, 1, 0, []), (1, 4, 16, 21, 12, []), (4, 5, 0, 2, 0, []), (5, 8, 50, 214, 0, []), (8, 11, 6, 24, 0, []), (11, 12, 1, 1, 0, []), (12, 14, 0, 21, 0, []), (14, 17, 51, 144, 1, []), (17, 18, 1, 1, 0, []), (18, 19, 1, 0, 1, []), (19, 22, 51, 147, 1, []), (22, 23, 5, 0, 0, []), (23, 24, 60, 0, 0, []), (24, 25, 1, 1, 0, []), (25, 28, 16, 21, 12, []), (28, 30, 0, 6, 0, []), (30, 33, 7, 50, 1, []), (33, 34, 1, 1, 0, []), (34, 36, 0, 61, 0, []), (36, 39, 51, 144, 1, []), (39, 40, 1, 1, 0, []), (40, 41, 1, 0, 1, []), (41, 44, 51, 147, 1, []), (44, 45, 1, 1, 0, []), (45, 48, 16, 23, 12, []), (48, 49, 4, 0, 0, []), (49, 50, 60, 0, 0, []), (50, 51, 1, 1, 0, []), (51, 52, 1, 0, 1, []), (52, 55, 51, 147, 1, []), (55, 56, 60, 0, 0, [])]
/-- 219: LaidQuarrelModel.plainTelling(I)I -/
def t_X11_plainTelling : List ME := [(0, 1, 1, 1, 0, []), (1, 2, 0, 3, 0, []), (2, 5, 51, 144, 1, []), (5, 6, 1, 1, 0, []), (6, 7, 1, 0, 1, []), (7, 10, 51, 148, 1, []), (10, 11, 0, 2, 0, []), (11, 12, 4, 2, 0, []), (12, 13, 60, 0, 0, [])]
/-- 220: LaidQuarrelModel.tellsActs(I)I -/
def t_X11_tellsActs : List ME := [(0, 1, 1, 1, 0, []), (1, 4, 16, 21, 12, []), (4, 5, 0, 3, 0, []), (5, 8, 50, 214, 0, []), (8, 11, 6, 26, 0, []), (11, 12, 1, 1, 0, []), (12, 14, 0, 31, 0, []), (14, 17, 51, 144, 1, []), (17, 18, 1, 1, 0, []), (18, 19, 1, 0, 1, []), (19, 22, 51, 149, 1, []), (22, 24, 0, 7, 0, []), (24, 25, 4, 7, 0, []), (25, 26, 60, 0, 0, []), (26, 27, 1, 1, 0, []), (27, 30, 16, 21, 12, []), (30, 31, 0, 4, 0, []), (31, 34, 7, 56, 1, []), (34, 35, 1, 1, 0, []), (35, 37, 0, 41, 0, []), (37, 40, 51, 144, 1, []), (40, 41, 1, 1, 0, []), (41, 42, 1, 0, 1, []), (42, 43, 0, 1, 0, []), (43, 44, 4, 1, 0, []), (44, 47, 51, 149, 1, []), (47, 48, 2, 0, 2, []), (48, 49, 1, 0, 2, []), (49, 50, 1, 1, 0, []), (50, 51, 0, 2, 0, []), (51, 54, 51, 146, 1, []), (54, 55, 4, 0, 0, []), (55, 56, 60, 0, 0, []), (56, 57, 1, 1, 0, []), (57, 58, 1, 0, 1, []), (58, 61, 51, 149, 1, []), (61, 62, 60, 0, 0, [])]
/-- 221: LaidQuarrelModel.act(III)I -/
def t_X11_act : List ME := [(0, 1, 1, 1, 0, []), (1, 2, 0, 0, 0, []), (2, 5, 17, 20, 12, []), (5, 6, 1, 1, 0, []), (6, 7, 1, 0, 1, []), (7, 10, 51, 125, 1, []), (10, 13, 6, 22, 0, []), (13, 14, 1, 0, 2, []), (14, 15, 0, 0, 0, []), (15, 16, 0, 2, 0, []), (16, 19, 50, 139, 0, []), (19, 22, 6, 24, 1, []), (22, 23, 0, 0, 0, []), (23, 24, 60, 0, 0, []), (24, 25, 1, 1, 0, []), (25, 26, 1, 1, 0, []), (26, 29, 16, 1, 12, []), (29, 31, 0, 37, 0, []), (31, 32, 1, 0, 1, []), (32, 33, 4, 0, 0, []), (33, 34, 18, 0, 0, []), (34, 37, 17, 21, 12, []), (37, 38, 1, 1, 0, []), (38, 39, 1, 0, 1, []), (39, 42, 17, 22, 12, []), (42, 43, 1, 1, 0, []), (43, 44, 1, 1, 0, []), (44, 47, 16, 1, 12, []), (47, 49, 0, 43, 0, []), (49, 50, 1, 0, 1, []), (50, 51, 4, 0, 0, []), (51, 52, 18, 0, 0, []), (52, 55, 17, 23, 12, []), (55, 56, 1, 0, 2, []), (56, 59, 6, 67, 1, []), (59, 60, 1, 1, 0, []), (60, 61, 1, 0, 3, []), (61, 64, 51, 146, 1, []), (64, 67, 10, 85, 0, []), (67, 68, 1, 0, 2, []), (68, 69, 0, 1, 0, []), (69, 72, 7, 80, 1, []), (72, 73, 1, 1, 0, []), (73, 74, 1, 0, 3, []), (74, 77, 51, 148, 1, []), (77, 80, 10, 85, 0, []), (80, 81, 1, 1, 0, []), (81, 82, 1, 0, 3, []), (82, 85, 51, 150, 1, []), (85, 86, 60, 0, 0, [])]
/-- 222: LaidQuarrelModel.trace(I)I -/
def t_X11_trace : List ME := [(0, 1, 1, 0, 1, []), (1, 2, 0, 0, 0, []), (2, 3, 1, 1, 0, []), (3, 6, 16, 20, 12, []), (6, 8, 0, 20, 0, []), (8, 11, 7, 18, 3, []), (11, 12, 1, 1, 0, []), (12, 15, 16, 20, 12, []), (15, 18, 10, 20, 0, []), (18, 20, 0, 20, 0, []), (20, 21, 0, 1, 0, []), (21, 22, 4, 1, 0, []), (22, 25, 50, 139, 0, []), (25, 28, 6, 37, 0, []), (28, 29, 1, 1, 0, []), (29, 32, 16, 19, 12, []), (32, 33, 1, 0, 1, []), (33, 34, 18, 0, 0, []), (34, 37, 10, 38, 0, []), (37, 38, 0, (-1), 0, []), (38, 39, 60, 0, 0, [])]
/-- 223: LaidQuarrelModel.as(II)I -/
def t_X11_as : List ME := [(0, 1, 1, 1, 0, []), (1, 2, 1, 0, 1, []), (2, 5, 51, 125, 1, []), (5, 8, 6, 18, 0, []), (8, 9, 1, 0, 2, []), (9, 10, 0, 0, 0, []), (10, 12, 0, 6, 0, []), (12, 15, 50, 139, 0, []), (15, 18, 6, 20, 1, []), (18, 19, 0, (-1), 0, []), (19, 20, 60, 0, 0, []), (20, 21, 1, 1, 0, []), (21, 24, 16, 1, 12, []), (24, 26, 0, 37, 0, []), (26, 27, 1, 0, 1, []), (27, 28, 4, 0, 0, []), (28, 29, 18, 0, 0, []), (29, 30, 1, 0, 2, []), (30, 33, 50, 214, 0, []), (33, 36, 6, 48, 0, []), (36, 37, 1, 1, 0, []), (37, 40, 16, 1, 12, []), (40, 42, 0, 43, 0, []), (42, 43, 1, 0, 1, []), (43, 44, 4, 0, 0, []), (44, 45, 18, 0, 0, []), (45, 48, 10, 50, 0, []), (48, 50, 0, (-6), 0, []), (50, 51, 60, 0, 0, [])]
/-- 224: LaidQuarrelModel.image()I -/
def t_X11_image : List ME := [(0, 1, 0, 0, 0, []), (1, 2, 2, 0, 1, []), (2, 3, 1, 0, 1, []), (3, 6, 0, 943, 0, []), (6, 9, 7, 27, 3, []), (9, 10, 1, 1, 0, []), (10, 13, 16, 2, 12, []), (13, 14, 1, 0, 1, []), (14, 15, 1, 1, 0, []), (15, 18, 16, 1, 12, []), (18, 19, 1, 0, 1, []), (19, 20, 18, 0, 0, []), (20, 21, 19, 0, 0, []), (21, 24, 3, 1, 1, []), (24, 27, 10, 2, 0, []), (27, 28, 1, 1, 0, []), (28, 29, 0, 1, 0, []), (29, 32, 17, 4, 12, []), (32, 33, 1, 1, 0, []), (33, 36, 16, 1, 12, []), (36, 38, 0, 29, 0, []), (38, 39, 18, 0, 0, []), (39, 40, 60, 0, 0, [])]
/-- 225: LaidQuarrelModel.undo()I -/
def t_X11_undo : List ME := [(0, 1, 1, 1, 0, []), (1, 4, 16, 4, 12, []), (4, 7, 6, 10, 1, []), (7, 9, 0, (-3), 0, []), (9, 10, 60, 0, 0, []), (10, 11, 0, 0, 0, []), (11, 12, 2, 0, 1, []), (12, 13, 1, 0, 1, []), (13, 16, 0, 943, 0, []), (16, 19, 7, 37, 3, []), (19, 20, 1, 1, 0, []), (20, 23, 16, 1, 12, []), (23, 24, 1, 0, 1, []), (24, 25, 1, 1, 0, []), (25, 28, 16, 2, 12, []), (28, 29, 1, 0, 1, []), (29, 30, 18, 0, 0, []), (30, 31, 19, 0, 0, []), (31, 34, 3, 1, 1, []), (34, 37, 10, 12, 0, []), (37, 38, 1, 1, 0, []), (38, 41, 16, 1, 12, []), (41, 43, 0, 29, 0, []), (43, 44, 18, 0, 0, []), (44, 45, 60, 0, 0, [])]
/-- 226: LaidQuarrelModel.count(I)I -/
def t_X11_count : List ME := [(0, 1, 1, 0, 1, []), (1, 3, 0, 6, 0, []), (3, 6, 7, 13, 1, []), (6, 7, 1, 1, 0, []), (7, 10, 16, 20, 12, []), (10, 13, 10, 51, 0, []), (13, 14, 1, 0, 1, []), (14, 16, 0, 7, 0, []), (16, 19, 7, 29, 1, []), (19, 20, 1, 1, 0, []), (20, 23, 16, 1, 12, []), (23, 25, 0, 36, 0, []), (25, 26, 18, 0, 0, []), (26, 29, 10, 51, 0, []), (29, 30, 1, 0, 1, []), (30, 31, 0, 0, 0, []), (31, 32, 0, 5, 0, []), (32, 35, 50, 139, 0, []), (35, 38, 6, 50, 0, []), (38, 39, 1, 1, 0, []), (39, 42, 16, 1, 12, []), (42, 44, 0, 29, 0, []), (44, 45, 1, 0, 1, []), (45, 46, 4, 0, 0, []), (46, 47, 18, 0, 0, []), (47, 50, 10, 51, 0, []), (50, 51, 0, (-1), 0, []), (51, 52, 60, 0, 0, [])]
/-- 227: java/lang/Integer.numberOfTrailingZeros(I)I -/
def t_J6_numberOfTrailingZeros_0f7a4 : List ME := [(0, 1, 1, 0, 0, []), (1, 2, 0, (-1), 0, []), (2, 3, 4, 7, 0, []), (3, 4, 1, 0, 0, []), (4, 5, 0, 1, 0, []), (5, 6, 4, 1, 0, []), (6, 7, 4, 5, 0, []), (7, 8, 2, 0, 0, []), (8, 9, 1, 0, 0, []), (9, 12, 6, 17, 4, []), (12, 13, 1, 0, 0, []), (13, 15, 0, 32, 0, []), (15, 16, 4, 5, 0, []), (16, 17, 60, 0, 0, []), (17, 18, 0, 1, 0, []), (18, 19, 2, 0, 1, []), (19, 20, 1, 0, 0, []), (20, 23, 0, 65536, 0, []), (23, 26, 7, 34, 5, []), (26, 29, 3, 1, 16, []), (29, 30, 1, 0, 0, []), (30, 32, 0, 16, 0, []), (32, 33, 4, 10, 0, []), (33, 34, 2, 0, 0, []), (34, 35, 1, 0, 0, []), (35, 38, 0, 256, 0, []), (38, 41, 7, 49, 5, []), (41, 44, 3, 1, 8, []), (44, 45, 1, 0, 0, []), (45, 47, 0, 8, 0, []), (47, 48, 4, 10, 0, []), (48, 49, 2, 0, 0, []), (49, 50, 1, 0, 0, []), (50, 52, 0, 16, 0, []), (52, 55, 7, 62, 5, []), (55, 58, 3, 1, 4, []), (58, 59, 1, 0, 0, []), (59, 60, 0, 4, 0, []), (60, 61, 4, 10, 0, []), (61, 62, 2, 0, 0, []), (62, 63, 1, 0, 0, []), (63, 64, 0, 4, 0, []), (64, 67, 7, 74, 5, []), (67, 70, 3, 1, 2, []), (70, 71, 1, 0, 0, []), (71, 72, 0, 2, 0, []), (72, 73, 4, 10, 0, []), (73, 74, 2, 0, 0, []), (74, 75, 1, 0, 1, []), (75, 76, 1, 0, 0, []), (76, 77, 0, 1, 0, []), (77, 78, 4, 10, 0, []), (78, 79, 4, 0, 0, []), (79, 80, 60, 0, 0, [])]
/-- 228: java/lang/Integer.bitCount(I)I -/
def t_J6_bitCount_0f7a4 : List ME := [(0, 1, 1, 0, 0, []), (1, 2, 1, 0, 0, []), (2, 3, 0, 1, 0, []), (3, 4, 4, 10, 0, []), (4, 7, 0, 1431655765, 0, []), (7, 8, 4, 5, 0, []), (8, 9, 4, 1, 0, []), (9, 10, 2, 0, 0, []), (10, 11, 1, 0, 0, []), (11, 14, 0, 858993459, 0, []), (14, 15, 4, 5, 0, []), (15, 16, 1, 0, 0, []), (16, 17, 0, 2, 0, []), (17, 18, 4, 10, 0, []), (18, 21, 0, 858993459, 0, []), (21, 22, 4, 5, 0, []), (22, 23, 4, 0, 0, []), (23, 24, 2, 0, 0, []), (24, 25, 1, 0, 0, []), (25, 26, 1, 0, 0, []), (26, 27, 0, 4, 0, []), (27, 28, 4, 10, 0, []), (28, 29, 4, 0, 0, []), (29, 32, 0, 252645135, 0, []), (32, 33, 4, 5, 0, []), (33, 34, 2, 0, 0, []), (34, 35, 1, 0, 0, []), (35, 36, 1, 0, 0, []), (36, 38, 0, 8, 0, []), (38, 39, 4, 10, 0, []), (39, 40, 4, 0, 0, []), (40, 41, 2, 0, 0, []), (41, 42, 1, 0, 0, []), (42, 43, 1, 0, 0, []), (43, 45, 0, 16, 0, []), (45, 46, 4, 10, 0, []), (46, 47, 4, 0, 0, []), (47, 48, 2, 0, 0, []), (48, 49, 1, 0, 0, []), (49, 51, 0, 63, 0, []), (51, 52, 4, 5, 0, []), (52, 53, 60, 0, 0, [])]
/-- 229: java/lang/Math.abs(I)I -/
def t_J9_abs_0f7a4 : List ME := [(0, 1, 1, 0, 0, []), (1, 4, 6, 9, 3, []), (4, 5, 1, 0, 0, []), (5, 6, 5, 0, 0, []), (6, 9, 10, 10, 0, []), (9, 10, 1, 0, 0, []), (10, 11, 60, 0, 0, [])]
/-- 230: java/lang/Math.max(II)I -/
def t_J9_max_7cf53 : List ME := [(0, 1, 1, 0, 0, []), (1, 2, 1, 0, 1, []), (2, 5, 7, 9, 2, []), (5, 6, 1, 0, 0, []), (6, 9, 10, 10, 0, []), (9, 10, 1, 0, 1, []), (10, 11, 60, 0, 0, [])]
/-- 231: java/lang/Math.min(II)I -/
def t_J9_min_7cf53 : List ME := [(0, 1, 1, 0, 0, []), (1, 2, 1, 0, 1, []), (2, 5, 7, 9, 4, []), (5, 6, 1, 0, 0, []), (6, 9, 10, 10, 0, []), (9, 10, 1, 0, 1, []), (10, 11, 60, 0, 0, [])]
/-- 232: java/util/Objects.checkIndex(II)I -/
def t_J15_checkIndex_7cf53 : List ME := [(0, 1, 1, 0, 0, []), (1, 2, 1, 0, 1, []), (2, 3, 15, 0, 0, []), (3, 6, 50, 233, 0, []), (6, 7, 60, 0, 0, [])]
/-- 233: jdk/internal/util/Preconditions.checkIndex(IILjava/util/function/BiFunction;)I -/
def t_J3_checkIndex_8e157 : List ME := [(0, 1, 1, 0, 0, []), (1, 4, 6, 9, 2, []), (4, 5, 1, 0, 0, []), (5, 6, 1, 0, 1, []), (6, 9, 7, 16, 2, []), (9, 10, 1, 1, 2, []), (10, 11, 1, 0, 0, []), (11, 12, 1, 0, 1, []), (12, 15, 99, 0, 0, []), (15, 16, 99, 0, 0, []), (16, 17, 1, 0, 0, []), (17, 18, 60, 0, 0, [])]
/-- 234: java/util/AbstractList.<init>()V -/
def t_Jxc12de_init_da8c8 : List ME := [(0, 1, 1, 1, 0, []), (1, 4, 51, 151, 0, []), (4, 5, 1, 1, 0, []), (5, 6, 0, 0, 0, []), (6, 9, 17, 0, 0, []), (9, 10, 63, 0, 0, [])]
/-- 235: java/util/AbstractCollection.<init>()V -/
def t_Jxa1e45_init_da8c8 : List ME := [(0, 1, 1, 1, 0, []), (1, 4, 53, 0, 0, []), (4, 5, 63, 0, 0, [])]
/-- 236: LaidQuarrelLaw.law([I)Z -/
def t_L_law : List ME := [(0, 3, 25, 11, 0, []), (3, 4, 11, 0, 0, []), (4, 7, 51, 152, 0, []), (7, 8, 2, 1, 1, []), (8, 11, 25, 12, 0, []), (11, 12, 11, 0, 0, []), (12, 15, 51, 153, 0, []), (15, 16, 2, 1, 2, []), (16, 17, 0, 0, 0, []), (17, 18, 2, 0, 3, []), (18, 19, 1, 0, 3, []), (19, 20, 1, 1, 0, []), (20, 21, 24, 0, 0, []), (21, 22, 0, 4, 0, []), (22, 23, 4, 1, 0, []), (23, 26, 7, 1305, 4, []), (26, 27, 1, 1, 0, []), (27, 28, 1, 0, 3, []), (28, 29, 18, 0, 0, []), (29, 31, 0, 63, 0, []), (31, 32, 4, 5, 0, []), (32, 196, 40, 1299, 0, [(0, 196), (1, 219), (2, 232), (3, 275), (4, 298), (5, 331), (6, 374), (7, 417), (8, 440), (9, 463), (10, 496), (11, 539), (12, 562), (13, 595), (14, 628), (15, 651), (16, 674), (17, 707), (18, 740), (19, 753), (20, 776), (21, 819), (22, 862), (23, 895), (24, 928), (25, 961), (26, 1005), (27, 1039), (28, 1082), (29, 1105), (30, 1138), (31, 1151), (32, 1194), (33, 1217), (34, 1250), (35, 1263), (36, 1276)]), (196, 197, 1, 1, 1, []), (197, 198, 1, 1, 0, []), (198, 199, 1, 0, 3, []), (199, 200, 0, 1, 0, []), (200, 201, 4, 0, 0, []), (201, 202, 18, 0, 0, []), (202, 205, 51, 154, 1, []), (205, 206, 1, 1, 2, []), (206, 207, 1, 1, 0, []), (207, 208, 1, 0, 3, []), (208, 209, 0, 1, 0, []), (209, 210, 4, 0, 0, []), (210, 211, 18, 0, 0, []), (211, 214, 51, 155, 1, []), (214, 217, 7, 1299, 0, []), (217, 218, 0, 0, 0, []), (218, 219, 60, 0, 0, []), (219, 220, 1, 1, 1, []), (220, 223, 51, 156, 0, []), (223, 224, 1, 1, 2, []), (224, 227, 51, 157, 0, []), (227, 230, 7, 1299, 0, []), (230, 231, 0, 0, 0, []), (231, 232, 60, 0, 0, []), (232, 233, 1, 1, 1, []), (233, 234, 1, 1, 0, []), (234, 235, 1, 0, 3, []), (235, 236, 0, 1, 0, []), (236, 237, 4, 0, 0, []), (237, 238, 18, 0, 0, []), (238, 239, 1, 1, 0, []), (239, 240, 1, 0, 3, []), (240, 241, 0, 2, 0, []), (241, 242, 4, 0, 0, []), (242, 243, 18, 0, 0, []), (243, 244, 1, 1, 0, []), (244, 245, 1, 0, 3, []), (245, 246, 0, 3, 0, []), (246, 247, 4, 0, 0, []), (247, 248, 18, 0, 0, []), (248, 251, 51, 158, 3, []), (251, 252, 1, 1, 2, []), (252, 253, 1, 1, 0, []), (253, 254, 1, 0, 3, []), (254, 255, 0, 1, 0, []), (255, 256, 4, 0, 0, []), (256, 257, 18, 0, 0, []), (257, 258, 1, 1, 0, []), (258, 259, 1, 0, 3, []), (259, 260, 0, 2, 0, []), (260, 261, 4, 0, 0, []), (261, 262, 18, 0, 0, []), (262, 263, 1, 1, 0, []), (263, 264, 1, 0, 3, []), (264, 265, 0, 3, 0, []), (265, 266, 4, 0, 0, []), (266, 267, 18, 0, 0, []), (267, 270, 51, 159, 3, []), (270, 273, 7, 1299, 0, []), (273, 274, 0, 0, 0, []), (274, 275, 60, 0, 0, []), (275, 276, 1, 1, 1, []), (276, 277, 1, 1, 0, []), (277, 278, 1, 0, 3, []), (278, 279, 0, 1, 0, []), (279, 280, 4, 0, 0, []), (280, 281, 18, 0, 0, []), (281, 284, 51, 160, 1, []), (284, 285, 1, 1, 2, []), (285, 286, 1, 1, 0, []), (286, 287, 1, 0, 3, []), (287, 288, 0, 1, 0, []), (288, 289, 4, 0, 0, []), (289, 290, 18, 0, 0, []), (290, 293, 51, 161, 1, []), (293, 296, 7, 1299, 0, []), (296, 297, 0, 0, 0, []), (297, 298, 60, 0, 0, []), (298, 299, 1, 1, 1, []), (299, 300, 1, 1, 0, []), (300, 301, 1, 0, 3, []), (301, 302, 0, 1, 0, []), (302, 303, 4, 0, 0, []), (303, 304, 18, 0, 0, []), (304, 305, 1, 1, 0, []), (305, 306, 1, 0, 3, []), (306, 307, 0, 2, 0, []), (307, 308, 4, 0, 0, []), (308, 309, 18, 0, 0, []), (309, 312, 51, 162, 2, []), (312, 313, 1, 1, 2, []), (313, 314, 1, 1, 0, []), (314, 315, 1, 0, 3, []), (315, 316, 0, 1, 0, []), (316, 317, 4, 0, 0, []), (317, 318, 18, 0, 0, []), (318, 319, 1, 1, 0, []), (319, 320, 1, 0, 3, []), (320, 321, 0, 2, 0, []), (321, 322, 4, 0, 0, []), (322, 323, 18, 0, 0, []), (323, 326, 51, 163, 2, []), (326, 329, 7, 1299, 0, []), (329, 330, 0, 0, 0, []), (330, 331, 60, 0, 0, []), (331, 332, 1, 1, 1, []), (332, 333, 1, 1, 0, []), (333, 334, 1, 0, 3, []), (334, 335, 0, 1, 0, []), (335, 336, 4, 0, 0, []), (336, 337, 18, 0, 0, []), (337, 338, 1, 1, 0, []), (338, 339, 1, 0, 3, []), (339, 340, 0, 2, 0, []), (340, 341, 4, 0, 0, []), (341, 342, 18, 0, 0, []), (342, 343, 1, 1, 0, []), (343, 344, 1, 0, 3, []), (344, 345, 0, 3, 0, []), (345, 346, 4, 0, 0, []), (346, 347, 18, 0, 0, []), (347, 350, 51, 164, 3, []), (350, 351, 1, 1, 2, []), (351, 352, 1, 1, 0, []), (352, 353, 1, 0, 3, []), (353, 354, 0, 1, 0, []), (354, 355, 4, 0, 0, []), (355, 356, 18, 0, 0, []), (356, 357, 1, 1, 0, []), (357, 358, 1, 0, 3, []), (358, 359, 0, 2, 0, []), (359, 360, 4, 0, 0, []), (360, 361, 18, 0, 0, []), (361, 362, 1, 1, 0, []), (362, 363, 1, 0, 3, []), (363, 364, 0, 3, 0, []), (364, 365, 4, 0, 0, []), (365, 366, 18, 0, 0, []), (366, 369, 51, 165, 3, []), (369, 372, 7, 1299, 0, []), (372, 373, 0, 0, 0, []), (373, 374, 60, 0, 0, []), (374, 375, 1, 1, 1, []), (375, 376, 1, 1, 0, []), (376, 377, 1, 0, 3, []), (377, 378, 0, 1, 0, []), (378, 379, 4, 0, 0, []), (379, 380, 18, 0, 0, []), (380, 381, 1, 1, 0, []), (381, 382, 1, 0, 3, []), (382, 383, 0, 2, 0, []), (383, 384, 4, 0, 0, []), (384, 385, 18, 0, 0, []), (385, 386, 1, 1, 0, []), (386, 387, 1, 0, 3, []), (387, 388, 0, 3, 0, []), (388, 389, 4, 0, 0, []), (389, 390, 18, 0, 0, []), (390, 393, 51, 166, 3, []), (393, 394, 1, 1, 2, []), (394, 395, 1, 1, 0, []), (395, 396, 1, 0, 3, []), (396, 397, 0, 1, 0, []), (397, 398, 4, 0, 0, []), (398, 399, 18, 0, 0, []), (399, 400, 1, 1, 0, []), (400, 401, 1, 0, 3, []), (401, 402, 0, 2, 0, []), (402, 403, 4, 0, 0, []), (403, 404, 18, 0, 0, []), (404, 405, 1, 1, 0, []), (405, 406, 1, 0, 3, []), (406, 407, 0, 3, 0, []), (407, 408, 4, 0, 0, []), (408, 409, 18, 0, 0, []), (409, 412, 51, 167, 3, []), (412, 415, 7, 1299, 0, []), (415, 416, 0, 0, 0, []), (416, 417, 60, 0, 0, []), (417, 418, 1, 1, 1, []), (418, 419, 1, 1, 0, []), (419, 420, 1, 0, 3, []), (420, 421, 0, 1, 0, []), (421, 422, 4, 0, 0, []), (422, 423, 18, 0, 0, []), (423, 426, 51, 168, 1, []), (426, 427, 1, 1, 2, []), (427, 428, 1, 1, 0, []), (428, 429, 1, 0, 3, []), (429, 430, 0, 1, 0, []), (430, 431, 4, 0, 0, []), (431, 432, 18, 0, 0, []), (432, 435, 51, 169, 1, []), (435, 438, 7, 1299, 0, []), (438, 439, 0, 0, 0, []), (439, 440, 60, 0, 0, []), (440, 441, 1, 1, 1, []), (441, 442, 1, 1, 0, []), (442, 443, 1, 0, 3, []), (443, 444, 0, 1, 0, []), (444, 445, 4, 0, 0, []), (445, 446, 18, 0, 0, []), (446, 449, 51, 170, 1, []), (449, 450, 1, 1, 2, []), (450, 451, 1, 1, 0, []), (451, 452, 1, 0, 3, []), (452, 453, 0, 1, 0, []), (453, 454, 4, 0, 0, []), (454, 455, 18, 0, 0, []), (455, 458, 51, 171, 1, []), (458, 461, 7, 1299, 0, []), (461, 462, 0, 0, 0, []), (462, 463, 60, 0, 0, []), (463, 464, 1, 1, 1, []), (464, 465, 1, 1, 0, []), (465, 466, 1, 0, 3, []), (466, 467, 0, 1, 0, []), (467, 468, 4, 0, 0, []), (468, 469, 18, 0, 0, []), (469, 470, 1, 1, 0, []), (470, 471, 1, 0, 3, []), (471, 472, 0, 2, 0, []), (472, 473, 4, 0, 0, []), (473, 474, 18, 0, 0, []), (474, 477, 51, 172, 2, []), (477, 478, 1, 1, 2, []), (478, 479, 1, 1, 0, []), (479, 480, 1, 0, 3, []), (480, 481, 0, 1, 0, []), (481, 482, 4, 0, 0, []), (482, 483, 18, 0, 0, []), (483, 484, 1, 1, 0, []), (484, 485, 1, 0, 3, []), (485, 486, 0, 2, 0, []), (486, 487, 4, 0, 0, []), (487, 488, 18, 0, 0, []), (488, 491, 51, 173, 2, []), (491, 494, 7, 1299, 0, []), (494, 495, 0, 0, 0, []), (495, 496, 60, 0, 0, []), (496, 497, 1, 1, 1, []), (497, 498, 1, 1, 0, []), (498, 499, 1, 0, 3, []), (499, 500, 0, 1, 0, []), (500, 501, 4, 0, 0, []), (501, 502, 18, 0, 0, []), (502, 503, 1, 1, 0, []), (503, 504, 1, 0, 3, []), (504, 505, 0, 2, 0, []), (505, 506, 4, 0, 0, []), (506, 507, 18, 0, 0, []), (507, 508, 1, 1, 0, []), (508, 509, 1, 0, 3, []), (509, 510, 0, 3, 0, []), (510, 511, 4, 0, 0, []), (511, 512, 18, 0, 0, []), (512, 515, 51, 174, 3, []), (515, 516, 1, 1, 2, []), (516, 517, 1, 1, 0, []), (517, 518, 1, 0, 3, []), (518, 519, 0, 1, 0, []), (519, 520, 4, 0, 0, []), (520, 521, 18, 0, 0, []), (521, 522, 1, 1, 0, []), (522, 523, 1, 0, 3, []), (523, 524, 0, 2, 0, []), (524, 525, 4, 0, 0, []), (525, 526, 18, 0, 0, []), (526, 527, 1, 1, 0, []), (527, 528, 1, 0, 3, []), (528, 529, 0, 3, 0, []), (529, 530, 4, 0, 0, []), (530, 531, 18, 0, 0, []), (531, 534, 51, 175, 3, []), (534, 537, 7, 1299, 0, []), (537, 538, 0, 0, 0, []), (538, 539, 60, 0, 0, []), (539, 540, 1, 1, 1, []), (540, 541, 1, 1, 0, []), (541, 542, 1, 0, 3, []), (542, 543, 0, 1, 0, []), (543, 544, 4, 0, 0, []), (544, 545, 18, 0, 0, []), (545, 548, 51, 176, 1, []), (548, 549, 1, 1, 2, []), (549, 550, 1, 1, 0, []), (550, 551, 1, 0, 3, []), (551, 552, 0, 1, 0, []), (552, 553, 4, 0, 0, []), (553, 554, 18, 0, 0, []), (554, 557, 51, 177, 1, []), (557, 560, 7, 1299, 0, []), (560, 561, 0, 0, 0, []), (561, 562, 60, 0, 0, []), (562, 563, 1, 1, 1, []), (563, 564, 1, 1, 0, []), (564, 565, 1, 0, 3, []), (565, 566, 0, 1, 0, []), (566, 567, 4, 0, 0, []), (567, 568, 18, 0, 0, []), (568, 569, 1, 1, 0, []), (569, 570, 1, 0, 3, []), (570, 571, 0, 2, 0, []), (571, 572, 4, 0, 0, []), (572, 573, 18, 0, 0, []), (573, 576, 51, 178, 2, []), (576, 577, 1, 1, 2, []), (577, 578, 1, 1, 0, []), (578, 579, 1, 0, 3, []), (579, 580, 0, 1, 0, []), (580, 581, 4, 0, 0, []), (581, 582, 18, 0, 0, []), (582, 583, 1, 1, 0, []), (583, 584, 1, 0, 3, []), (584, 585, 0, 2, 0, []), (585, 586, 4, 0, 0, []), (586, 587, 18, 0, 0, []), (587, 590, 51, 179, 2, []), (590, 593, 7, 1299, 0, []), (593, 594, 0, 0, 0, []), (594, 595, 60, 0, 0, []), (595, 596, 1, 1, 1, []), (596, 597, 1, 1, 0, []), (597, 598, 1, 0, 3, []), (598, 599, 0, 1, 0, []), (599, 600, 4, 0, 0, []), (600, 601, 18, 0, 0, []), (601, 602, 1, 1, 0, []), (602, 603, 1, 0, 3, []), (603, 604, 0, 2, 0, []), (604, 605, 4, 0, 0, []), (605, 606, 18, 0, 0, []), (606, 609, 51, 180, 2, []), (609, 610, 1, 1, 2, []), (610, 611, 1, 1, 0, []), (611, 612, 1, 0, 3, []), (612, 613, 0, 1, 0, []), (613, 614, 4, 0, 0, []), (614, 615, 18, 0, 0, []), (615, 616, 1, 1, 0, []), (616, 617, 1, 0, 3, []), (617, 618, 0, 2, 0, []), (618, 619, 4, 0, 0, []), (619, 620, 18, 0, 0, []), (620, 623, 51, 181, 2, []), (623, 626, 7, 1299, 0, []), (626, 627, 0, 0, 0, []), (627, 628, 60, 0, 0, []), (628, 629, 1, 1, 1, []), (629, 630, 1, 1, 0, []), (630, 631, 1, 0, 3, []), (631, 632, 0, 1, 0, []), (632, 633, 4, 0, 0, []), (633, 634, 18, 0, 0, []), (634, 637, 51, 182, 1, []), (637, 638, 1, 1, 2, []), (638, 639, 1, 1, 0, []), (639, 640, 1, 0, 3, []), (640, 641, 0, 1, 0, []), (641, 642, 4, 0, 0, []), (642, 643, 18, 0, 0, []), (643, 646, 51, 183, 1, []), (646, 649, 7, 1299, 0, []), (649, 650, 0, 0, 0, []), (650, 651, 60, 0, 0, []), (651, 652, 1, 1, 1, []), (652, 653, 1, 1, 0, []), (653, 654, 1, 0, 3, []), (654, 655, 0, 1, 0, []), (655, 656, 4, 0, 0, []), (656, 657, 18, 0, 0, []), (657, 660, 51, 184, 1, []), (660, 661, 1, 1, 2, []), (661, 662, 1, 1, 0, []), (662, 663, 1, 0, 3, []), (663, 664, 0, 1, 0, []), (664, 665, 4, 0, 0, []), (665, 666, 18, 0, 0, []), (666, 669, 51, 185, 1, []), (669, 672, 7, 1299, 0, []), (672, 673, 0, 0, 0, []), (673, 674, 60, 0, 0, []), (674, 675, 1, 1, 1, []), (675, 676, 1, 1, 0, []), (676, 677, 1, 0, 3, []), (677, 678, 0, 1, 0, []), (678, 679, 4, 0, 0, []), (679, 680, 18, 0, 0, []), (680, 681, 1, 1, 0, []), (681, 682, 1, 0, 3, []), (682, 683, 0, 2, 0, []), (683, 684, 4, 0, 0, []), (684, 685, 18, 0, 0, []), (685, 688, 51, 186, 2, []), (688, 689, 1, 1, 2, []), (689, 690, 1, 1, 0, []), (690, 691, 1, 0, 3, []), (691, 692, 0, 1, 0, []), (692, 693, 4, 0, 0, []), (693, 694, 18, 0, 0, []), (694, 695, 1, 1, 0, []), (695, 696, 1, 0, 3, []), (696, 697, 0, 2, 0, []), (697, 698, 4, 0, 0, []), (698, 699, 18, 0, 0, []), (699, 702, 51, 187, 2, []), (702, 705, 7, 1299, 0, []), (705, 706, 0, 0, 0, []), (706, 707, 60, 0, 0, []), (707, 708, 1, 1, 1, []), (708, 709, 1, 1, 0, []), (709, 710, 1, 0, 3, []), (710, 711, 0, 1, 0, []), (711, 712, 4, 0, 0, []), (712, 713, 18, 0, 0, []), (713, 714, 1, 1, 0, []), (714, 715, 1, 0, 3, []), (715, 716, 0, 2, 0, []), (716, 717, 4, 0, 0, []), (717, 718, 18, 0, 0, []), (718, 721, 51, 188, 2, []), (721, 722, 1, 1, 2, []), (722, 723, 1, 1, 0, []), (723, 724, 1, 0, 3, []), (724, 725, 0, 1, 0, []), (725, 726, 4, 0, 0, []), (726, 727, 18, 0, 0, []), (727, 728, 1, 1, 0, []), (728, 729, 1, 0, 3, []), (729, 730, 0, 2, 0, []), (730, 731, 4, 0, 0, []), (731, 732, 18, 0, 0, []), (732, 735, 51, 189, 2, []), (735, 738, 7, 1299, 0, []), (738, 739, 0, 0, 0, []), (739, 740, 60, 0, 0, []), (740, 741, 1, 1, 1, []), (741, 744, 51, 190, 0, []), (744, 745, 1, 1, 2, []), (745, 748, 51, 191, 0, []), (748, 751, 7, 1299, 0, []), (751, 752, 0, 0, 0, []), (752, 753, 60, 0, 0, []), (753, 754, 1, 1, 1, []), (754, 755, 1, 1, 0, []), (755, 756, 1, 0, 3, []), (756, 757, 0, 1, 0, []), (757, 758, 4, 0, 0, []), (758, 759, 18, 0, 0, []), (759, 762, 51, 192, 1, []), (762, 763, 1, 1, 2, []), (763, 764, 1, 1, 0, []), (764, 765, 1, 0, 3, []), (765, 766, 0, 1, 0, []), (766, 767, 4, 0, 0, []), (767, 768, 18, 0, 0, []), (768, 771, 51, 193, 1, []), (771, 774, 7, 1299, 0, []), (774, 775, 0, 0, 0, []), (775, 776, 60, 0, 0, []), (776, 777, 1, 1, 1, []), (777, 778, 1, 1, 0, []), (778, 779, 1, 0, 3, []), (779, 780, 0, 1, 0, []), (780, 781, 4, 0, 0, []), (781, 782, 18, 0, 0, []), (782, 783, 1, 1, 0, []), (783, 784, 1, 0, 3, []), (784, 785, 0, 2, 0, []), (785, 786, 4, 0, 0, []), (786, 787, 18, 0, 0, []), (787, 788, 1, 1, 0, []), (788, 789, 1, 0, 3, []), (789, 790, 0, 3, 0, []), (790, 791, 4, 0, 0, []), (791, 792, 18, 0, 0, []), (792, 795, 51, 194, 3, []), (795, 796, 1, 1, 2, []), (796, 797, 1, 1, 0, []), (797, 798, 1, 0, 3, []), (798, 799, 0, 1, 0, []), (799, 800, 4, 0, 0, []), (800, 801, 18, 0, 0, []), (801, 802, 1, 1, 0, []), (802, 803, 1, 0, 3, []), (803, 804, 0, 2, 0, []), (804, 805, 4, 0, 0, []), (805, 806, 18, 0, 0, []), (806, 807, 1, 1, 0, []), (807, 808, 1, 0, 3, []), (808, 809, 0, 3, 0, []), (809, 810, 4, 0, 0, []), (810, 811, 18, 0, 0, []), (811, 814, 51, 195, 3, []), (814, 817, 7, 1299, 0, []), (817, 818, 0, 0, 0, []), (818, 819, 60, 0, 0, []), (819, 820, 1, 1, 1, []), (820, 821, 1, 1, 0, []), (821, 822, 1, 0, 3, []), (822, 823, 0, 1, 0, []), (823, 824, 4, 0, 0, []), (824, 825, 18, 0, 0, []), (825, 826, 1, 1, 0, []), (826, 827, 1, 0, 3, []), (827, 828, 0, 2, 0, []), (828, 829, 4, 0, 0, []), (829, 830, 18, 0, 0, []), (830, 831, 1, 1, 0, []), (831, 832, 1, 0, 3, []), (832, 833, 0, 3, 0, []), (833, 834, 4, 0, 0, []), (834, 835, 18, 0, 0, []), (835, 838, 51, 196, 3, []), (838, 839, 1, 1, 2, []), (839, 840, 1, 1, 0, []), (840, 841, 1, 0, 3, []), (841, 842, 0, 1, 0, []), (842, 843, 4, 0, 0, []), (843, 844, 18, 0, 0, []), (844, 845, 1, 1, 0, []), (845, 846, 1, 0, 3, []), (846, 847, 0, 2, 0, []), (847, 848, 4, 0, 0, []), (848, 849, 18, 0, 0, []), (849, 850, 1, 1, 0, []), (850, 851, 1, 0, 3, []), (851, 852, 0, 3, 0, []), (852, 853, 4, 0, 0, []), (853, 854, 18, 0, 0, []), (854, 857, 51, 197, 3, []), (857, 860, 7, 1299, 0, []), (860, 861, 0, 0, 0, []), (861, 862, 60, 0, 0, []), (862, 863, 1, 1, 1, []), (863, 864, 1, 1, 0, []), (864, 865, 1, 0, 3, []), (865, 866, 0, 1, 0, []), (866, 867, 4, 0, 0, []), (867, 868, 18, 0, 0, []), (868, 869, 1, 1, 0, []), (869, 870, 1, 0, 3, []), (870, 871, 0, 2, 0, []), (871, 872, 4, 0, 0, []), (872, 873, 18, 0, 0, []), (873, 876, 51, 198, 2, []), (876, 877, 1, 1, 2, []), (877, 878, 1, 1, 0, []), (878, 879, 1, 0, 3, []), (879, 880, 0, 1, 0, []), (880, 881, 4, 0, 0, []), (881, 882, 18, 0, 0, []), (882, 883, 1, 1, 0, []), (883, 884, 1, 0, 3, []), (884, 885, 0, 2, 0, []), (885, 886, 4, 0, 0, []), (886, 887, 18, 0, 0, []), (887, 890, 51, 199, 2, []), (890, 893, 7, 1299, 0, []), (893, 894, 0, 0, 0, []), (894, 895, 60, 0, 0, []), (895, 896, 1, 1, 1, []), (896, 897, 1, 1, 0, []), (897, 898, 1, 0, 3, []), (898, 899, 0, 1, 0, []), (899, 900, 4, 0, 0, []), (900, 901, 18, 0, 0, []), (901, 902, 1, 1, 0, []), (902, 903, 1, 0, 3, []), (903, 904, 0, 2, 0, []), (904, 905, 4, 0, 0, []), (905, 906, 18, 0, 0, []), (906, 909, 51, 200, 2, []), (909, 910, 1, 1, 2, []), (910, 911, 1, 1, 0, []), (911, 912, 1, 0, 3, []), (912, 913, 0, 1, 0, []), (913, 914, 4, 0, 0, []), (914, 915, 18, 0, 0, []), (915, 916, 1, 1, 0, []), (916, 917, 1, 0, 3, []), (917, 918, 0, 2, 0, []), (918, 919, 4, 0, 0, []), (919, 920, 18, 0, 0, []), (920, 923, 51, 201, 2, []), (923, 926, 7, 1299, 0, []), (926, 927, 0, 0, 0, []), (927, 928, 60, 0, 0, []), (928, 929, 1, 1, 1, []), (929, 930, 1, 1, 0, []), (930, 931, 1, 0, 3, []), (931, 932, 0, 1, 0, []), (932, 933, 4, 0, 0, []), (933, 934, 18, 0, 0, []), (934, 935, 1, 1, 0, []), (935, 936, 1, 0, 3, []), (936, 937, 0, 2, 0, []), (937, 938, 4, 0, 0, []), (938, 939, 18, 0, 0, []), (939, 942, 51, 202, 2, []), (942, 943, 1, 1, 2, []), (943, 944, 1, 1, 0, []), (944, 945, 1, 0, 3, []), (945, 946, 0, 1, 0, []), (946, 947, 4, 0, 0, []), (947, 948, 18, 0, 0, []), (948, 949, 1, 1, 0, []), (949, 950, 1, 0, 3, []), (950, 951, 0, 2, 0, []), (951, 952, 4, 0, 0, []), (952, 953, 18, 0, 0, []), (953, 956, 51, 203, 2, []), (956, 959, 7, 1299, 0, []), (959, 960, 0, 0, 0, []), (960, 961, 60, 0, 0, []), (961, 962, 1, 1, 1, []), (962, 963, 1, 1, 0, []), (963, 964, 1, 0, 3, []), (964, 965, 0, 1, 0, []), (965, 966, 4, 0, 0, []), (966, 967, 18, 0, 0, []), (967, 968, 1, 1, 0, []), (968, 969, 1, 0, 3, []), (969, 970, 0, 2, 0, []), (970, 971, 4, 0, 0, []), (971, 972, 18, 0, 0, []), (972, 973, 1, 1, 0, []), (973, 974, 1, 0, 3, []), (974, 975, 0, 3, 0, []), (975, 976, 4, 0, 0, []), (976, 977, 18, 0, 0, []), (977, 980, 51, 204, 3, []), (980, 981, 1, 1, 2, []), (981, 982, 1, 1, 0, []), (982, 983, 1, 0, 3, []), (983, 984, 0, 1, 0, []), (984, 985, 4, 0, 0, []), (985, 986, 18, 0, 0, []), (986, 987, 1, 1, 0, []), (987, 988, 1, 0, 3, []), (988, 989, 0, 2, 0, []), (989, 990, 4, 0, 0, []), (990, 991, 18, 0, 0, []), (991, 992, 1, 1, 0, []), (992, 993, 1, 0, 3, []), (993, 994, 0, 3, 0, []), (994, 995, 4, 0, 0, []), (995, 996, 18, 0, 0, []), (996, 999, 51, 205, 3, []), (999, 1000, 33, 0, 0, []), (1000, 1003, 6, 1299, 0, []), (1003, 1004, 0, 0, 0, []), (1004, 1005, 60, 0, 0, []), (1005, 1006, 1, 1, 1, []), (1006, 1007, 1, 1, 0, []), (1007, 1008, 1, 0, 3, []), (1008, 1009, 0, 1, 0, []), (1009, 1010, 4, 0, 0, []), (1010, 1011, 18, 0, 0, []), (1011, 1012, 1, 1, 0, []), (1012, 1013, 1, 0, 3, []), (1013, 1014, 0, 2, 0, []), (1014, 1015, 4, 0, 0, []), (1015, 1016, 18, 0, 0, []), (1016, 1019, 51, 206, 2, []), (1019, 1020, 1, 1, 2, []), (1020, 1021, 1, 1, 0, []), (1021, 1022, 1, 0, 3, []), (1022, 1023, 0, 1, 0, []), (1023, 1024, 4, 0, 0, []), (1024, 1025, 18, 0, 0, []), (1025, 1026, 1, 1, 0, []), (1026, 1027, 1, 0, 3, []), (1027, 1028, 0, 2, 0, []), (1028, 1029, 4, 0, 0, []), (1029, 1030, 18, 0, 0, []), (1030, 1033, 51, 207, 2, []), (1033, 1034, 33, 0, 0, []), (1034, 1037, 6, 1299, 0, []), (1037, 1038, 0, 0, 0, []), (1038, 1039, 60, 0, 0, []), (1039, 1040, 1, 1, 1, []), (1040, 1041, 1, 1, 0, []), (1041, 1042, 1, 0, 3, []), (1042, 1043, 0, 1, 0, []), (1043, 1044, 4, 0, 0, []), (1044, 1045, 18, 0, 0, []), (1045, 1046, 1, 1, 0, []), (1046, 1047, 1, 0, 3, []), (1047, 1048, 0, 2, 0, []), (1048, 1049, 4, 0, 0, []), (1049, 1050, 18, 0, 0, []), (1050, 1051, 1, 1, 0, []), (1051, 1052, 1, 0, 3, []), (1052, 1053, 0, 3, 0, []), (1053, 1054, 4, 0, 0, []), (1054, 1055, 18, 0, 0, []), (1055, 1058, 51, 208, 3, []), (1058, 1059, 1, 1, 2, []), (1059, 1060, 1, 1, 0, []), (1060, 1061, 1, 0, 3, []), (1061, 1062, 0, 1, 0, []), (1062, 1063, 4, 0, 0, []), (1063, 1064, 18, 0, 0, []), (1064, 1065, 1, 1, 0, []), (1065, 1066, 1, 0, 3, []), (1066, 1067, 0, 2, 0, []), (1067, 1068, 4, 0, 0, []), (1068, 1069, 18, 0, 0, []), (1069, 1070, 1, 1, 0, []), (1070, 1071, 1, 0, 3, []), (1071, 1072, 0, 3, 0, []), (1072, 1073, 4, 0, 0, []), (1073, 1074, 18, 0, 0, []), (1074, 1077, 51, 209, 3, []), (1077, 1080, 7, 1299, 0, []), (1080, 1081, 0, 0, 0, []), (1081, 1082, 60, 0, 0, []), (1082, 1083, 1, 1, 1, []), (1083, 1084, 1, 1, 0, []), (1084, 1085, 1, 0, 3, []), (1085, 1086, 0, 1, 0, []), (1086, 1087, 4, 0, 0, []), (1087, 1088, 18, 0, 0, []), (1088, 1091, 51, 210, 1, []), (1091, 1092, 1, 1, 2, []), (1092, 1093, 1, 1, 0, []), (1093, 1094, 1, 0, 3, []), (1094, 1095, 0, 1, 0, []), (1095, 1096, 4, 0, 0, []), (1096, 1097, 18, 0, 0, []), (1097, 1100, 51, 211, 1, []), (1100, 1103, 7, 1299, 0, []), (1103, 1104, 0, 0, 0, []), (1104, 1105, 60, 0, 0, []), (1105, 1106, 1, 1, 1, []), (1106, 1107, 1, 1, 0, []), (1107, 1108, 1, 0, 3, []), (1108, 1109, 0, 1, 0, []), (1109, 1110, 4, 0, 0, []), (1110, 1111, 18, 0, 0, []), (1111, 1112, 1, 1, 0, []), (1112, 1113, 1, 0, 3, []), (1113, 1114, 0, 2, 0, []), (1114, 1115, 4, 0, 0, []), (1115, 1116, 18, 0, 0, []), (1116, 1119, 51, 212, 2, []), (1119, 1120, 1, 1, 2, []), (1120, 1121, 1, 1, 0, []), (1121, 1122, 1, 0, 3, []), (1122, 1123, 0, 1, 0, []), (1123, 1124, 4, 0, 0, []), (1124, 1125, 18, 0, 0, []), (1125, 1126, 1, 1, 0, []), (1126, 1127, 1, 0, 3, []), (1127, 1128, 0, 2, 0, []), (1128, 1129, 4, 0, 0, []), (1129, 1130, 18, 0, 0, []), (1130, 1133, 51, 213, 2, []), (1133, 1136, 7, 1299, 0, []), (1136, 1137, 0, 0, 0, []), (1137, 1138, 60, 0, 0, []), (1138, 1139, 1, 1, 1, []), (1139, 1142, 51, 214, 0, []), (1142, 1143, 1, 1, 2, []), (1143, 1146, 51, 215, 0, []), (1146, 1149, 7, 1299, 0, []), (1149, 1150, 0, 0, 0, []), (1150, 1151, 60, 0, 0, []), (1151, 1152, 1, 1, 1, []), (1152, 1153, 1, 1, 0, []), (1153, 1154, 1, 0, 3, []), (1154, 1155, 0, 1, 0, []), (1155, 1156, 4, 0, 0, []), (1156, 1157, 18, 0, 0, []), (1157, 1158, 1, 1, 0, []), (1158, 1159, 1, 0, 3, []), (1159, 1160, 0, 2, 0, []), (1160, 1161, 4, 0, 0, []), (1161, 1162, 18, 0, 0, []), (1162, 1163, 1, 1, 0, []), (1163, 1164, 1, 0, 3, []), (1164, 1165, 0, 3, 0, []), (1165, 1166, 4, 0, 0, []), (1166, 1167, 18, 0, 0, []), (1167, 1170, 51, 216, 3, []), (1170, 1171, 1, 1, 2, []), (1171, 1172, 1, 1, 0, []), (1172, 1173, 1, 0, 3, []), (1173, 1174, 0, 1, 0, []), (1174, 1175, 4, 0, 0, []), (1175, 1176, 18, 0, 0, []), (1176, 1177, 1, 1, 0, []), (1177, 1178, 1, 0, 3, []), (1178, 1179, 0, 2, 0, []), (1179, 1180, 4, 0, 0, []), (1180, 1181, 18, 0, 0, []), (1181, 1182, 1, 1, 0, []), (1182, 1183, 1, 0, 3, []), (1183, 1184, 0, 3, 0, []), (1184, 1185, 4, 0, 0, []), (1185, 1186, 18, 0, 0, []), (1186, 1189, 51, 217, 3, []), (1189, 1192, 7, 1299, 0, []), (1192, 1193, 0, 0, 0, []), (1193, 1194, 60, 0, 0, []), (1194, 1195, 1, 1, 1, []), (1195, 1196, 1, 1, 0, []), (1196, 1197, 1, 0, 3, []), (1197, 1198, 0, 1, 0, []), (1198, 1199, 4, 0, 0, []), (1199, 1200, 18, 0, 0, []), (1200, 1203, 51, 218, 1, []), (1203, 1204, 1, 1, 2, []), (1204, 1205, 1, 1, 0, []), (1205, 1206, 1, 0, 3, []), (1206, 1207, 0, 1, 0, []), (1207, 1208, 4, 0, 0, []), (1208, 1209, 18, 0, 0, []), (1209, 1212, 51, 219, 1, []), (1212, 1215, 7, 1299, 0, []), (1215, 1216, 0, 0, 0, []), (1216, 1217, 60, 0, 0, []), (1217, 1218, 1, 1, 1, []), (1218, 1219, 1, 1, 0, []), (1219, 1220, 1, 0, 3, []), (1220, 1221, 0, 1, 0, []), (1221, 1222, 4, 0, 0, []), (1222, 1223, 18, 0, 0, []), (1223, 1224, 1, 1, 0, []), (1224, 1225, 1, 0, 3, []), (1225, 1226, 0, 2, 0, []), (1226, 1227, 4, 0, 0, []), (1227, 1228, 18, 0, 0, []), (1228, 1231, 51, 220, 2, []), (1231, 1232, 1, 1, 2, []), (1232, 1233, 1, 1, 0, []), (1233, 1234, 1, 0, 3, []), (1234, 1235, 0, 1, 0, []), (1235, 1236, 4, 0, 0, []), (1236, 1237, 18, 0, 0, []), (1237, 1238, 1, 1, 0, []), (1238, 1239, 1, 0, 3, []), (1239, 1240, 0, 2, 0, []), (1240, 1241, 4, 0, 0, []), (1241, 1242, 18, 0, 0, []), (1242, 1245, 51, 221, 2, []), (1245, 1248, 7, 1299, 0, []), (1248, 1249, 0, 0, 0, []), (1249, 1250, 60, 0, 0, []), (1250, 1251, 1, 1, 1, []), (1251, 1254, 51, 222, 0, []), (1254, 1255, 1, 1, 2, []), (1255, 1258, 51, 223, 0, []), (1258, 1261, 7, 1299, 0, []), (1261, 1262, 0, 0, 0, []), (1262, 1263, 60, 0, 0, []), (1263, 1264, 1, 1, 1, []), (1264, 1267, 51, 224, 0, []), (1267, 1268, 1, 1, 2, []), (1268, 1271, 51, 225, 0, []), (1271, 1274, 7, 1299, 0, []), (1274, 1275, 0, 0, 0, []), (1275, 1276, 60, 0, 0, []), (1276, 1277, 1, 1, 1, []), (1277, 1278, 1, 1, 0, []), (1278, 1279, 1, 0, 3, []), (1279, 1280, 0, 1, 0, []), (1280, 1281, 4, 0, 0, []), (1281, 1282, 18, 0, 0, []), (1282, 1285, 51, 226, 1, []), (1285, 1286, 1, 1, 2, []), (1286, 1287, 1, 1, 0, []), (1287, 1288, 1, 0, 3, []), (1288, 1289, 0, 1, 0, []), (1289, 1290, 4, 0, 0, []), (1290, 1291, 18, 0, 0, []), (1291, 1294, 51, 227, 1, []), (1294, 1297, 7, 1299, 0, []), (1297, 1298, 0, 0, 0, []), (1298, 1299, 60, 0, 0, []), (1299, 1302, 3, 3, 4, []), (1302, 1305, 10, 18, 0, []), (1305, 1306, 0, 1, 0, []), (1306, 1307, 60, 0, 0, [])]
def xMt : List (List ME × Nat × Nat × Nat) := [(t_Jx4a65c_init_da8c8, 1, 1, 0), (t_Jx4a65c_grow_92f84, 4, 2, 0), (t_Jx4a65c_grow_d5877, 1, 1, 0), (t_Jx4a65c_size_8abf5, 1, 1, 0), (t_Jx4a65c_elementData_915e3, 2, 2, 0), (t_Jx4a65c_get_915e3, 2, 2, 0), (t_Jx4a65c_add_72be8, 4, 4, 0), (t_Jx4a65c_add_9ea2d, 2, 2, 3), (t_Jx4a65c_remove_915e3, 4, 2, 0), (t_Jx4a65c_fastRemove_b59b0, 4, 3, 0), (t_X0_init, 4, 4, 0), (t_X0_keep, 1, 1, 0), (t_X0_restore, 1, 1, 0), (t_X0_tryNow, 1, 1, 0), (t_X0_tryBehind, 2, 2, 0), (t_X0_spoken, 3, 3, 0), (t_X0_utters, 2, 2, 0), (t_X0_keeps, 2, 2, 0), (t_X0_tells, 2, 2, 0), (t_X1_init, 2, 2, 0), (t_X1_copyFrom, 2, 2, 0), (t_X1_keep, 1, 1, 0), (t_X1_restore, 1, 1, 0), (t_X1_calm, 1, 1, 0), (t_X1_peace, 1, 1, 0), (t_X1_lastOf, 5, 3, 0), (t_X1_softOf, 8, 3, 0), (t_X1_holds, 7, 5, 3), (t_X1_testHolds, 6, 4, 3), (t_X1_factOf, 3, 3, 0), (t_X1_readText, 2, 1, 0), (t_X1_readClause, 3, 1, 3), (t_X1_addClause, 3, 3, 3), (t_X1_readEither, 4, 2, 3), (t_X1_readFactor, 4, 2, 3), (t_X1_readBracket, 2, 2, 3), (t_X1_readTest, 3, 1, 3), (t_X1_isLetter, 1, 1, 3), (t_X1_readNumber, 3, 1, 3), (t_X1_takes, 2, 2, 3), (t_X1_takesAll, 3, 2, 3), (t_X2_init, 4, 4, 0), (t_X2_spoken, 4, 3, 0), (t_X2_tells, 2, 2, 0), (t_X3_init, 4, 4, 0), (t_X3_spoken, 4, 3, 0), (t_X3_tells, 2, 2, 0), (t_X4_init, 4, 4, 0), (t_X4_spoken, 3, 3, 0), (t_X4_utters, 2, 2, 0), (t_X5_init, 1, 1, 0), (t_X5_copyFrom, 2, 2, 0), (t_X5_age, 2, 2, 0), (t_X5_tell, 4, 3, 0), (t_X5_telling, 1, 1, 0), (t_X6_init, 4, 4, 0), (t_X6_spoken, 4, 3, 0), (t_X6_utters, 2, 2, 0), (t_X7_init, 3, 3, 0), (t_X7_add, 6, 4, 3), (t_X7_at, 4, 3, 0), (t_X7_put, 4, 3, 0), (t_X7_clear, 1, 1, 0), (t_X7_copyFrom, 2, 2, 0), (t_X7_keep, 1, 1, 0), (t_X7_restore, 1, 1, 0), (t_X7_copy, 3, 2, 0), (t_X8_init, 4, 4, 0), (t_X8_spoken, 3, 3, 0), (t_X8_keeps, 2, 2, 0), (t_X9_init, 4, 4, 0), (t_X9_spoken, 3, 3, 0), (t_X9_keeps, 2, 2, 0), (t_X10_init, 1, 1, 0), (t_X10_feed, 2, 2, 0), (t_X10_cellar, 2, 1, 0), (t_X10_bottle, 5, 4, 0), (t_X10_guest, 2, 2, 0), (t_X10_of, 4, 3, 0), (t_X10_row, 5, 4, 0), (t_X10_set, 6, 4, 0), (t_X10_mood, 2, 2, 0), (t_X10_told, 2, 2, 0), (t_X10_pour, 4, 3, 0), (t_X10_both, 6, 4, 0), (t_X10_pass, 3, 2, 0), (t_X10_on, 6, 3, 0), (t_X10_when, 8, 3, 0), (t_X10_ripe, 4, 2, 0), (t_X10_lies, 8, 2, 0), (t_X10_choose, 8, 3, 0), (t_X10_line, 6, 3, 0), (t_X10_pair, 7, 1, 0), (t_X10_match, 4, 2, 0), (t_X10_words, 9, 4, 0), (t_X10_see, 4, 4, 0), (t_X10_old, 7, 3, 0), (t_X10_firm, 7, 3, 0), (t_X10_whose, 6, 3, 0), (t_X10_odds, 7, 4, 0), (t_X10_mean, 3, 3, 0), (t_X10_evening, 4, 4, 0), (t_X10_done, 3, 2, 0), (t_X10_book, 3, 3, 0), (t_X10_looked, 3, 1, 0), (t_X10_act, 5, 4, 0), (t_X10_trace, 2, 2, 0), (t_X10_as, 5, 3, 0), (t_X10_image, 2, 1, 0), (t_X10_undo, 2, 1, 0), (t_X10_count, 2, 2, 0), (t_X10_within, 3, 3, 3), (t_X10_isIn, 2, 2, 3), (t_X10_nearer, 2, 2, 0), (t_X10_heldMood, 1, 1, 0), (t_X10_kindAbove, 1, 1, 0), (t_X10_added, 4, 4, 0), (t_X10_sum, 3, 1, 0), (t_X10_fraction, 5, 3, 0), (t_X10_isGuest, 2, 2, 3), (t_X10_bottleAt, 2, 2, 0), (t_X10_madeOf, 3, 2, 0), (t_X10_says, 3, 3, 0), (t_X10_allSay, 5, 2, 0), (t_X10_fullOnes, 3, 1, 0), (t_X10_hearAll, 3, 1, 0), (t_X10_saidBy, 4, 2, 0), (t_X10_lift, 4, 3, 0), (t_X10_calmDown, 5, 3, 0), (t_X10_bestLine, 7, 4, 0), (t_X10_moodOf, 1, 1, 0), (t_X10_countPairs, 7, 2, 0), (t_X10_makesPeace, 3, 3, 3), (t_X10_partnerOf, 6, 3, 0), (t_X10_leastPartner, 5, 3, 0), (t_X10_allSeenIsSo, 8, 4, 3), (t_X10_tryRow, 5, 4, 0), (t_X10_allSayAsTried, 4, 1, 0), (t_X11_init, 1, 1, 0), (t_X11_in, 3, 3, 3), (t_X11_within, 3, 3, 0), (t_X11_size, 1, 1, 0), (t_X11_nearer, 2, 2, 0), (t_X11_isBottle, 2, 2, 3), (t_X11_isGuest, 2, 2, 3), (t_X11_isMood, 1, 1, 3), (t_X11_isSaying, 1, 1, 3), (t_X11_keeps, 2, 1, 0), (t_X11_goesBack, 2, 1, 0), (t_X11_feed, 2, 2, 0), (t_X11_here, 1, 1, 0), (t_X11_must, 2, 2, 0), (t_X11_spells, 3, 2, 0), (t_X11_figures, 3, 1, 0), (t_X11_among, 3, 2, 0), (t_X11_emits, 2, 2, 0), (t_X11_factor, 5, 1, 0), (t_X11_every, 1, 1, 0), (t_X11_some, 1, 1, 0), (t_X11_much, 4, 3, 0), (t_X11_tellsHere, 4, 3, 0), (t_X11_wordOfS, 1, 1, 0), (t_X11_clauseHere, 1, 1, 0), (t_X11_cellar, 2, 1, 0), (t_X11_tellsOf, 3, 3, 0), (t_X11_looks, 11, 2, 0), (t_X11_softOf, 3, 2, 0), (t_X11_saysOf, 6, 2, 0), (t_X11_bottle, 6, 4, 0), (t_X11_guest, 2, 2, 0), (t_X11_of, 3, 3, 0), (t_X11_row, 5, 4, 0), (t_X11_set, 6, 4, 0), (t_X11_mood, 2, 2, 0), (t_X11_fullOnes, 3, 1, 0), (t_X11_allSay, 3, 1, 0), (t_X11_allMoods, 3, 1, 0), (t_X11_told, 2, 2, 0), (t_X11_brings, 3, 3, 0), (t_X11_pours, 3, 3, 0), (t_X11_pour, 3, 3, 0), (t_X11_both, 4, 4, 0), (t_X11_goes, 2, 1, 0), (t_X11_goesOn, 3, 2, 0), (t_X11_pass, 2, 2, 0), (t_X11_on, 4, 3, 0), (t_X11_when, 7, 3, 0), (t_X11_ripe, 4, 2, 0), (t_X11_lies, 7, 2, 0), (t_X11_looksForSayings, 2, 1, 0), (t_X11_countOf, 3, 1, 0), (t_X11_sumOf, 4, 2, 0), (t_X11_choose, 7, 3, 0), (t_X11_ordersFrom, 5, 4, 0), (t_X11_line, 3, 3, 0), (t_X11_pair, 7, 1, 0), (t_X11_pairsFrom, 4, 3, 0), (t_X11_match, 3, 2, 0), (t_X11_words, 9, 4, 0), (t_X11_see, 4, 4, 0), (t_X11_isAsSeen, 4, 2, 3), (t_X11_areAsSeen, 3, 1, 3), (t_X11_old, 7, 3, 0), (t_X11_firm, 8, 3, 0), (t_X11_whose, 5, 3, 0), (t_X11_lowest, 11, 3, 0), (t_X11_odds, 7, 4, 0), (t_X11_mean, 4, 3, 0), (t_X11_evening, 4, 4, 0), (t_X11_does, 4, 4, 0), (t_X11_done, 3, 2, 0), (t_X11_book, 3, 3, 0), (t_X11_looked, 2, 1, 0), (t_X11_ranBody, 2, 2, 0), (t_X11_isUnder, 2, 2, 3), (t_X11_plainUtters, 2, 2, 0), (t_X11_uttersActs, 2, 2, 0), (t_X11_plainKeeping, 2, 2, 0), (t_X11_keepsActs, 2, 2, 0), (t_X11_plainTelling, 2, 2, 0), (t_X11_tellsActs, 3, 2, 0), (t_X11_act, 4, 4, 0), (t_X11_trace, 2, 2, 0), (t_X11_as, 3, 3, 0), (t_X11_image, 2, 1, 0), (t_X11_undo, 2, 1, 0), (t_X11_count, 2, 2, 0), (t_J6_numberOfTrailingZeros_0f7a4, 2, 1, 0), (t_J6_bitCount_0f7a4, 1, 1, 0), (t_J9_abs_0f7a4, 1, 1, 0), (t_J9_max_7cf53, 2, 2, 0), (t_J9_min_7cf53, 2, 2, 0), (t_J15_checkIndex_7cf53, 2, 2, 0), (t_J3_checkIndex_8e157, 3, 3, 0), (t_Jxc12de_init_da8c8, 1, 1, 0), (t_Jxa1e45_init_da8c8, 1, 1, 0), (t_L_law, 4, 1, 3)]
def mt : MT := fun k => xMt.getD k ([], 0, 0, 0)
theorem mt_Jx4a65c_init_da8c8 : mt 0 = (t_Jx4a65c_init_da8c8, 1, 1, 0) := rfl
theorem mt_Jx4a65c_grow_92f84 : mt 1 = (t_Jx4a65c_grow_92f84, 4, 2, 0) := rfl
theorem mt_Jx4a65c_grow_d5877 : mt 2 = (t_Jx4a65c_grow_d5877, 1, 1, 0) := rfl
theorem mt_Jx4a65c_size_8abf5 : mt 3 = (t_Jx4a65c_size_8abf5, 1, 1, 0) := rfl
theorem mt_Jx4a65c_elementData_915e3 : mt 4 = (t_Jx4a65c_elementData_915e3, 2, 2, 0) := rfl
theorem mt_Jx4a65c_get_915e3 : mt 5 = (t_Jx4a65c_get_915e3, 2, 2, 0) := rfl
theorem mt_Jx4a65c_add_72be8 : mt 6 = (t_Jx4a65c_add_72be8, 4, 4, 0) := rfl
theorem mt_Jx4a65c_add_9ea2d : mt 7 = (t_Jx4a65c_add_9ea2d, 2, 2, 3) := rfl
theorem mt_Jx4a65c_remove_915e3 : mt 8 = (t_Jx4a65c_remove_915e3, 4, 2, 0) := rfl
theorem mt_Jx4a65c_fastRemove_b59b0 : mt 9 = (t_Jx4a65c_fastRemove_b59b0, 4, 3, 0) := rfl
theorem mt_X0_init : mt 10 = (t_X0_init, 4, 4, 0) := rfl
theorem mt_X0_keep : mt 11 = (t_X0_keep, 1, 1, 0) := rfl
theorem mt_X0_restore : mt 12 = (t_X0_restore, 1, 1, 0) := rfl
theorem mt_X0_tryNow : mt 13 = (t_X0_tryNow, 1, 1, 0) := rfl
theorem mt_X0_tryBehind : mt 14 = (t_X0_tryBehind, 2, 2, 0) := rfl
theorem mt_X0_spoken : mt 15 = (t_X0_spoken, 3, 3, 0) := rfl
theorem mt_X0_utters : mt 16 = (t_X0_utters, 2, 2, 0) := rfl
theorem mt_X0_keeps : mt 17 = (t_X0_keeps, 2, 2, 0) := rfl
theorem mt_X0_tells : mt 18 = (t_X0_tells, 2, 2, 0) := rfl
theorem mt_X1_init : mt 19 = (t_X1_init, 2, 2, 0) := rfl
theorem mt_X1_copyFrom : mt 20 = (t_X1_copyFrom, 2, 2, 0) := rfl
theorem mt_X1_keep : mt 21 = (t_X1_keep, 1, 1, 0) := rfl
theorem mt_X1_restore : mt 22 = (t_X1_restore, 1, 1, 0) := rfl
theorem mt_X1_calm : mt 23 = (t_X1_calm, 1, 1, 0) := rfl
theorem mt_X1_peace : mt 24 = (t_X1_peace, 1, 1, 0) := rfl
theorem mt_X1_lastOf : mt 25 = (t_X1_lastOf, 5, 3, 0) := rfl
theorem mt_X1_softOf : mt 26 = (t_X1_softOf, 8, 3, 0) := rfl
theorem mt_X1_holds : mt 27 = (t_X1_holds, 7, 5, 3) := rfl
theorem mt_X1_testHolds : mt 28 = (t_X1_testHolds, 6, 4, 3) := rfl
theorem mt_X1_factOf : mt 29 = (t_X1_factOf, 3, 3, 0) := rfl
theorem mt_X1_readText : mt 30 = (t_X1_readText, 2, 1, 0) := rfl
theorem mt_X1_readClause : mt 31 = (t_X1_readClause, 3, 1, 3) := rfl
theorem mt_X1_addClause : mt 32 = (t_X1_addClause, 3, 3, 3) := rfl
theorem mt_X1_readEither : mt 33 = (t_X1_readEither, 4, 2, 3) := rfl
theorem mt_X1_readFactor : mt 34 = (t_X1_readFactor, 4, 2, 3) := rfl
theorem mt_X1_readBracket : mt 35 = (t_X1_readBracket, 2, 2, 3) := rfl
theorem mt_X1_readTest : mt 36 = (t_X1_readTest, 3, 1, 3) := rfl
theorem mt_X1_isLetter : mt 37 = (t_X1_isLetter, 1, 1, 3) := rfl
theorem mt_X1_readNumber : mt 38 = (t_X1_readNumber, 3, 1, 3) := rfl
theorem mt_X1_takes : mt 39 = (t_X1_takes, 2, 2, 3) := rfl
theorem mt_X1_takesAll : mt 40 = (t_X1_takesAll, 3, 2, 3) := rfl
theorem mt_X2_init : mt 41 = (t_X2_init, 4, 4, 0) := rfl
theorem mt_X2_spoken : mt 42 = (t_X2_spoken, 4, 3, 0) := rfl
theorem mt_X2_tells : mt 43 = (t_X2_tells, 2, 2, 0) := rfl
theorem mt_X3_init : mt 44 = (t_X3_init, 4, 4, 0) := rfl
theorem mt_X3_spoken : mt 45 = (t_X3_spoken, 4, 3, 0) := rfl
theorem mt_X3_tells : mt 46 = (t_X3_tells, 2, 2, 0) := rfl
theorem mt_X4_init : mt 47 = (t_X4_init, 4, 4, 0) := rfl
theorem mt_X4_spoken : mt 48 = (t_X4_spoken, 3, 3, 0) := rfl
theorem mt_X4_utters : mt 49 = (t_X4_utters, 2, 2, 0) := rfl
theorem mt_X5_init : mt 50 = (t_X5_init, 1, 1, 0) := rfl
theorem mt_X5_copyFrom : mt 51 = (t_X5_copyFrom, 2, 2, 0) := rfl
theorem mt_X5_age : mt 52 = (t_X5_age, 2, 2, 0) := rfl
theorem mt_X5_tell : mt 53 = (t_X5_tell, 4, 3, 0) := rfl
theorem mt_X5_telling : mt 54 = (t_X5_telling, 1, 1, 0) := rfl
theorem mt_X6_init : mt 55 = (t_X6_init, 4, 4, 0) := rfl
theorem mt_X6_spoken : mt 56 = (t_X6_spoken, 4, 3, 0) := rfl
theorem mt_X6_utters : mt 57 = (t_X6_utters, 2, 2, 0) := rfl
theorem mt_X7_init : mt 58 = (t_X7_init, 3, 3, 0) := rfl
theorem mt_X7_add : mt 59 = (t_X7_add, 6, 4, 3) := rfl
theorem mt_X7_at : mt 60 = (t_X7_at, 4, 3, 0) := rfl
theorem mt_X7_put : mt 61 = (t_X7_put, 4, 3, 0) := rfl
theorem mt_X7_clear : mt 62 = (t_X7_clear, 1, 1, 0) := rfl
theorem mt_X7_copyFrom : mt 63 = (t_X7_copyFrom, 2, 2, 0) := rfl
theorem mt_X7_keep : mt 64 = (t_X7_keep, 1, 1, 0) := rfl
theorem mt_X7_restore : mt 65 = (t_X7_restore, 1, 1, 0) := rfl
theorem mt_X7_copy : mt 66 = (t_X7_copy, 3, 2, 0) := rfl
theorem mt_X8_init : mt 67 = (t_X8_init, 4, 4, 0) := rfl
theorem mt_X8_spoken : mt 68 = (t_X8_spoken, 3, 3, 0) := rfl
theorem mt_X8_keeps : mt 69 = (t_X8_keeps, 2, 2, 0) := rfl
theorem mt_X9_init : mt 70 = (t_X9_init, 4, 4, 0) := rfl
theorem mt_X9_spoken : mt 71 = (t_X9_spoken, 3, 3, 0) := rfl
theorem mt_X9_keeps : mt 72 = (t_X9_keeps, 2, 2, 0) := rfl
theorem mt_X10_init : mt 73 = (t_X10_init, 1, 1, 0) := rfl
theorem mt_X10_feed : mt 74 = (t_X10_feed, 2, 2, 0) := rfl
theorem mt_X10_cellar : mt 75 = (t_X10_cellar, 2, 1, 0) := rfl
theorem mt_X10_bottle : mt 76 = (t_X10_bottle, 5, 4, 0) := rfl
theorem mt_X10_guest : mt 77 = (t_X10_guest, 2, 2, 0) := rfl
theorem mt_X10_of : mt 78 = (t_X10_of, 4, 3, 0) := rfl
theorem mt_X10_row : mt 79 = (t_X10_row, 5, 4, 0) := rfl
theorem mt_X10_set : mt 80 = (t_X10_set, 6, 4, 0) := rfl
theorem mt_X10_mood : mt 81 = (t_X10_mood, 2, 2, 0) := rfl
theorem mt_X10_told : mt 82 = (t_X10_told, 2, 2, 0) := rfl
theorem mt_X10_pour : mt 83 = (t_X10_pour, 4, 3, 0) := rfl
theorem mt_X10_both : mt 84 = (t_X10_both, 6, 4, 0) := rfl
theorem mt_X10_pass : mt 85 = (t_X10_pass, 3, 2, 0) := rfl
theorem mt_X10_on : mt 86 = (t_X10_on, 6, 3, 0) := rfl
theorem mt_X10_when : mt 87 = (t_X10_when, 8, 3, 0) := rfl
theorem mt_X10_ripe : mt 88 = (t_X10_ripe, 4, 2, 0) := rfl
theorem mt_X10_lies : mt 89 = (t_X10_lies, 8, 2, 0) := rfl
theorem mt_X10_choose : mt 90 = (t_X10_choose, 8, 3, 0) := rfl
theorem mt_X10_line : mt 91 = (t_X10_line, 6, 3, 0) := rfl
theorem mt_X10_pair : mt 92 = (t_X10_pair, 7, 1, 0) := rfl
theorem mt_X10_match : mt 93 = (t_X10_match, 4, 2, 0) := rfl
theorem mt_X10_words : mt 94 = (t_X10_words, 9, 4, 0) := rfl
theorem mt_X10_see : mt 95 = (t_X10_see, 4, 4, 0) := rfl
theorem mt_X10_old : mt 96 = (t_X10_old, 7, 3, 0) := rfl
theorem mt_X10_firm : mt 97 = (t_X10_firm, 7, 3, 0) := rfl
theorem mt_X10_whose : mt 98 = (t_X10_whose, 6, 3, 0) := rfl
theorem mt_X10_odds : mt 99 = (t_X10_odds, 7, 4, 0) := rfl
theorem mt_X10_mean : mt 100 = (t_X10_mean, 3, 3, 0) := rfl
theorem mt_X10_evening : mt 101 = (t_X10_evening, 4, 4, 0) := rfl
theorem mt_X10_done : mt 102 = (t_X10_done, 3, 2, 0) := rfl
theorem mt_X10_book : mt 103 = (t_X10_book, 3, 3, 0) := rfl
theorem mt_X10_looked : mt 104 = (t_X10_looked, 3, 1, 0) := rfl
theorem mt_X10_act : mt 105 = (t_X10_act, 5, 4, 0) := rfl
theorem mt_X10_trace : mt 106 = (t_X10_trace, 2, 2, 0) := rfl
theorem mt_X10_as : mt 107 = (t_X10_as, 5, 3, 0) := rfl
theorem mt_X10_image : mt 108 = (t_X10_image, 2, 1, 0) := rfl
theorem mt_X10_undo : mt 109 = (t_X10_undo, 2, 1, 0) := rfl
theorem mt_X10_count : mt 110 = (t_X10_count, 2, 2, 0) := rfl
theorem mt_X10_within : mt 111 = (t_X10_within, 3, 3, 3) := rfl
theorem mt_X10_isIn : mt 112 = (t_X10_isIn, 2, 2, 3) := rfl
theorem mt_X10_nearer : mt 113 = (t_X10_nearer, 2, 2, 0) := rfl
theorem mt_X10_heldMood : mt 114 = (t_X10_heldMood, 1, 1, 0) := rfl
theorem mt_X10_kindAbove : mt 115 = (t_X10_kindAbove, 1, 1, 0) := rfl
theorem mt_X10_added : mt 116 = (t_X10_added, 4, 4, 0) := rfl
theorem mt_X10_sum : mt 117 = (t_X10_sum, 3, 1, 0) := rfl
theorem mt_X10_fraction : mt 118 = (t_X10_fraction, 5, 3, 0) := rfl
theorem mt_X10_isGuest : mt 119 = (t_X10_isGuest, 2, 2, 3) := rfl
theorem mt_X10_bottleAt : mt 120 = (t_X10_bottleAt, 2, 2, 0) := rfl
theorem mt_X10_madeOf : mt 121 = (t_X10_madeOf, 3, 2, 0) := rfl
theorem mt_X10_says : mt 122 = (t_X10_says, 3, 3, 0) := rfl
theorem mt_X10_allSay : mt 123 = (t_X10_allSay, 5, 2, 0) := rfl
theorem mt_X10_fullOnes : mt 124 = (t_X10_fullOnes, 3, 1, 0) := rfl
theorem mt_X10_hearAll : mt 125 = (t_X10_hearAll, 3, 1, 0) := rfl
theorem mt_X10_saidBy : mt 126 = (t_X10_saidBy, 4, 2, 0) := rfl
theorem mt_X10_lift : mt 127 = (t_X10_lift, 4, 3, 0) := rfl
theorem mt_X10_calmDown : mt 128 = (t_X10_calmDown, 5, 3, 0) := rfl
theorem mt_X10_bestLine : mt 129 = (t_X10_bestLine, 7, 4, 0) := rfl
theorem mt_X10_moodOf : mt 130 = (t_X10_moodOf, 1, 1, 0) := rfl
theorem mt_X10_countPairs : mt 131 = (t_X10_countPairs, 7, 2, 0) := rfl
theorem mt_X10_makesPeace : mt 132 = (t_X10_makesPeace, 3, 3, 3) := rfl
theorem mt_X10_partnerOf : mt 133 = (t_X10_partnerOf, 6, 3, 0) := rfl
theorem mt_X10_leastPartner : mt 134 = (t_X10_leastPartner, 5, 3, 0) := rfl
theorem mt_X10_allSeenIsSo : mt 135 = (t_X10_allSeenIsSo, 8, 4, 3) := rfl
theorem mt_X10_tryRow : mt 136 = (t_X10_tryRow, 5, 4, 0) := rfl
theorem mt_X10_allSayAsTried : mt 137 = (t_X10_allSayAsTried, 4, 1, 0) := rfl
theorem mt_X11_init : mt 138 = (t_X11_init, 1, 1, 0) := rfl
theorem mt_X11_in : mt 139 = (t_X11_in, 3, 3, 3) := rfl
theorem mt_X11_within : mt 140 = (t_X11_within, 3, 3, 0) := rfl
theorem mt_X11_size : mt 141 = (t_X11_size, 1, 1, 0) := rfl
theorem mt_X11_nearer : mt 142 = (t_X11_nearer, 2, 2, 0) := rfl
theorem mt_X11_isBottle : mt 143 = (t_X11_isBottle, 2, 2, 3) := rfl
theorem mt_X11_isGuest : mt 144 = (t_X11_isGuest, 2, 2, 3) := rfl
theorem mt_X11_isMood : mt 145 = (t_X11_isMood, 1, 1, 3) := rfl
theorem mt_X11_isSaying : mt 146 = (t_X11_isSaying, 1, 1, 3) := rfl
theorem mt_X11_keeps : mt 147 = (t_X11_keeps, 2, 1, 0) := rfl
theorem mt_X11_goesBack : mt 148 = (t_X11_goesBack, 2, 1, 0) := rfl
theorem mt_X11_feed : mt 149 = (t_X11_feed, 2, 2, 0) := rfl
theorem mt_X11_here : mt 150 = (t_X11_here, 1, 1, 0) := rfl
theorem mt_X11_must : mt 151 = (t_X11_must, 2, 2, 0) := rfl
theorem mt_X11_spells : mt 152 = (t_X11_spells, 3, 2, 0) := rfl
theorem mt_X11_figures : mt 153 = (t_X11_figures, 3, 1, 0) := rfl
theorem mt_X11_among : mt 154 = (t_X11_among, 3, 2, 0) := rfl
theorem mt_X11_emits : mt 155 = (t_X11_emits, 2, 2, 0) := rfl
theorem mt_X11_factor : mt 156 = (t_X11_factor, 5, 1, 0) := rfl
theorem mt_X11_every : mt 157 = (t_X11_every, 1, 1, 0) := rfl
theorem mt_X11_some : mt 158 = (t_X11_some, 1, 1, 0) := rfl
theorem mt_X11_much : mt 159 = (t_X11_much, 4, 3, 0) := rfl
theorem mt_X11_tellsHere : mt 160 = (t_X11_tellsHere, 4, 3, 0) := rfl
theorem mt_X11_wordOfS : mt 161 = (t_X11_wordOfS, 1, 1, 0) := rfl
theorem mt_X11_clauseHere : mt 162 = (t_X11_clauseHere, 1, 1, 0) := rfl
theorem mt_X11_cellar : mt 163 = (t_X11_cellar, 2, 1, 0) := rfl
theorem mt_X11_tellsOf : mt 164 = (t_X11_tellsOf, 3, 3, 0) := rfl
theorem mt_X11_looks : mt 165 = (t_X11_looks, 11, 2, 0) := rfl
theorem mt_X11_softOf : mt 166 = (t_X11_softOf, 3, 2, 0) := rfl
theorem mt_X11_saysOf : mt 167 = (t_X11_saysOf, 6, 2, 0) := rfl
theorem mt_X11_bottle : mt 168 = (t_X11_bottle, 6, 4, 0) := rfl
theorem mt_X11_guest : mt 169 = (t_X11_guest, 2, 2, 0) := rfl
theorem mt_X11_of : mt 170 = (t_X11_of, 3, 3, 0) := rfl
theorem mt_X11_row : mt 171 = (t_X11_row, 5, 4, 0) := rfl
theorem mt_X11_set : mt 172 = (t_X11_set, 6, 4, 0) := rfl
theorem mt_X11_mood : mt 173 = (t_X11_mood, 2, 2, 0) := rfl
theorem mt_X11_fullOnes : mt 174 = (t_X11_fullOnes, 3, 1, 0) := rfl
theorem mt_X11_allSay : mt 175 = (t_X11_allSay, 3, 1, 0) := rfl
theorem mt_X11_allMoods : mt 176 = (t_X11_allMoods, 3, 1, 0) := rfl
theorem mt_X11_told : mt 177 = (t_X11_told, 2, 2, 0) := rfl
theorem mt_X11_brings : mt 178 = (t_X11_brings, 3, 3, 0) := rfl
theorem mt_X11_pours : mt 179 = (t_X11_pours, 3, 3, 0) := rfl
theorem mt_X11_pour : mt 180 = (t_X11_pour, 3, 3, 0) := rfl
theorem mt_X11_both : mt 181 = (t_X11_both, 4, 4, 0) := rfl
theorem mt_X11_goes : mt 182 = (t_X11_goes, 2, 1, 0) := rfl
theorem mt_X11_goesOn : mt 183 = (t_X11_goesOn, 3, 2, 0) := rfl
theorem mt_X11_pass : mt 184 = (t_X11_pass, 2, 2, 0) := rfl
theorem mt_X11_on : mt 185 = (t_X11_on, 4, 3, 0) := rfl
theorem mt_X11_when : mt 186 = (t_X11_when, 7, 3, 0) := rfl
theorem mt_X11_ripe : mt 187 = (t_X11_ripe, 4, 2, 0) := rfl
theorem mt_X11_lies : mt 188 = (t_X11_lies, 7, 2, 0) := rfl
theorem mt_X11_looksForSayings : mt 189 = (t_X11_looksForSayings, 2, 1, 0) := rfl
theorem mt_X11_countOf : mt 190 = (t_X11_countOf, 3, 1, 0) := rfl
theorem mt_X11_sumOf : mt 191 = (t_X11_sumOf, 4, 2, 0) := rfl
theorem mt_X11_choose : mt 192 = (t_X11_choose, 7, 3, 0) := rfl
theorem mt_X11_ordersFrom : mt 193 = (t_X11_ordersFrom, 5, 4, 0) := rfl
theorem mt_X11_line : mt 194 = (t_X11_line, 3, 3, 0) := rfl
theorem mt_X11_pair : mt 195 = (t_X11_pair, 7, 1, 0) := rfl
theorem mt_X11_pairsFrom : mt 196 = (t_X11_pairsFrom, 4, 3, 0) := rfl
theorem mt_X11_match : mt 197 = (t_X11_match, 3, 2, 0) := rfl
theorem mt_X11_words : mt 198 = (t_X11_words, 9, 4, 0) := rfl
theorem mt_X11_see : mt 199 = (t_X11_see, 4, 4, 0) := rfl
theorem mt_X11_isAsSeen : mt 200 = (t_X11_isAsSeen, 4, 2, 3) := rfl
theorem mt_X11_areAsSeen : mt 201 = (t_X11_areAsSeen, 3, 1, 3) := rfl
theorem mt_X11_old : mt 202 = (t_X11_old, 7, 3, 0) := rfl
theorem mt_X11_firm : mt 203 = (t_X11_firm, 8, 3, 0) := rfl
theorem mt_X11_whose : mt 204 = (t_X11_whose, 5, 3, 0) := rfl
theorem mt_X11_lowest : mt 205 = (t_X11_lowest, 11, 3, 0) := rfl
theorem mt_X11_odds : mt 206 = (t_X11_odds, 7, 4, 0) := rfl
theorem mt_X11_mean : mt 207 = (t_X11_mean, 4, 3, 0) := rfl
theorem mt_X11_evening : mt 208 = (t_X11_evening, 4, 4, 0) := rfl
theorem mt_X11_does : mt 209 = (t_X11_does, 4, 4, 0) := rfl
theorem mt_X11_done : mt 210 = (t_X11_done, 3, 2, 0) := rfl
theorem mt_X11_book : mt 211 = (t_X11_book, 3, 3, 0) := rfl
theorem mt_X11_looked : mt 212 = (t_X11_looked, 2, 1, 0) := rfl
theorem mt_X11_ranBody : mt 213 = (t_X11_ranBody, 2, 2, 0) := rfl
theorem mt_X11_isUnder : mt 214 = (t_X11_isUnder, 2, 2, 3) := rfl
theorem mt_X11_plainUtters : mt 215 = (t_X11_plainUtters, 2, 2, 0) := rfl
theorem mt_X11_uttersActs : mt 216 = (t_X11_uttersActs, 2, 2, 0) := rfl
theorem mt_X11_plainKeeping : mt 217 = (t_X11_plainKeeping, 2, 2, 0) := rfl
theorem mt_X11_keepsActs : mt 218 = (t_X11_keepsActs, 2, 2, 0) := rfl
theorem mt_X11_plainTelling : mt 219 = (t_X11_plainTelling, 2, 2, 0) := rfl
theorem mt_X11_tellsActs : mt 220 = (t_X11_tellsActs, 3, 2, 0) := rfl
theorem mt_X11_act : mt 221 = (t_X11_act, 4, 4, 0) := rfl
theorem mt_X11_trace : mt 222 = (t_X11_trace, 2, 2, 0) := rfl
theorem mt_X11_as : mt 223 = (t_X11_as, 3, 3, 0) := rfl
theorem mt_X11_image : mt 224 = (t_X11_image, 2, 1, 0) := rfl
theorem mt_X11_undo : mt 225 = (t_X11_undo, 2, 1, 0) := rfl
theorem mt_X11_count : mt 226 = (t_X11_count, 2, 2, 0) := rfl
theorem mt_J6_numberOfTrailingZeros_0f7a4 : mt 227 = (t_J6_numberOfTrailingZeros_0f7a4, 2, 1, 0) := rfl
theorem mt_J6_bitCount_0f7a4 : mt 228 = (t_J6_bitCount_0f7a4, 1, 1, 0) := rfl
theorem mt_J9_abs_0f7a4 : mt 229 = (t_J9_abs_0f7a4, 1, 1, 0) := rfl
theorem mt_J9_max_7cf53 : mt 230 = (t_J9_max_7cf53, 2, 2, 0) := rfl
theorem mt_J9_min_7cf53 : mt 231 = (t_J9_min_7cf53, 2, 2, 0) := rfl
theorem mt_J15_checkIndex_7cf53 : mt 232 = (t_J15_checkIndex_7cf53, 2, 2, 0) := rfl
theorem mt_J3_checkIndex_8e157 : mt 233 = (t_J3_checkIndex_8e157, 3, 3, 0) := rfl
theorem mt_Jxc12de_init_da8c8 : mt 234 = (t_Jxc12de_init_da8c8, 1, 1, 0) := rfl
theorem mt_Jxa1e45_init_da8c8 : mt 235 = (t_Jxa1e45_init_da8c8, 1, 1, 0) := rfl
theorem mt_L_law : mt 236 = (t_L_law, 4, 1, 3) := rfl
def xVt : List (List (Nat × Nat)) := [[(0, 234)], [(0, 1)], [(0, 4)], [(0, 2)], [(0, 6)], [(0, 9)], [(6, 50)], [(6, 51)], [(6, 52)], [(8, 59)], [(1, 16), (3, 16), (4, 49), (5, 49), (7, 57), (9, 16), (10, 16)], [(1, 17), (3, 17), (4, 17), (5, 17), (7, 69), (9, 69), (10, 72)], [(8, 58)], [(8, 63)], [(8, 64)], [(8, 65)], [(2, 25)], [(8, 60)], [(2, 27)], [(2, 28)], [(8, 62)], [(2, 31)], [(2, 39)], [(2, 40)], [(2, 38)], [(2, 32)], [(2, 33)], [(8, 59)], [(2, 34)], [(2, 35)], [(2, 36)], [(1, 10), (3, 10), (4, 10), (5, 10), (7, 10), (9, 10), (10, 10)], [(3, 15), (10, 15)], [(8, 59)], [(3, 18), (10, 18)], [(5, 47), (4, 47)], [(4, 48)], [(8, 59)], [(4, 18)], [(4, 49)], [(1, 10), (3, 10), (4, 10), (5, 10), (7, 10), (9, 10), (10, 10)], [(8, 59)], [(5, 16), (4, 16)], [(9, 67), (7, 67)], [(7, 68)], [(8, 59)], [(7, 16)], [(1, 10), (3, 10), (4, 10), (5, 10), (7, 10), (9, 10), (10, 10)], [(8, 59)], [(9, 17), (7, 17)], [(3, 41), (10, 41)], [(10, 42)], [(6, 54)], [(8, 59)], [(10, 17)], [(8, 58)], [(2, 19)], [(0, 0)], [(2, 30)], [(8, 62)], [(2, 20)], [(0, 3)], [(11, 121)], [(0, 7)], [(8, 59)], [(11, 120)], [(2, 26)], [(11, 122)], [(6, 53)], [(11, 119)], [(8, 60)], [(2, 23)], [(2, 24)], [(11, 124)], [(11, 123)], [(0, 5)], [(6, 52)], [(11, 128)], [(1, 14), (3, 14), (4, 14), (5, 14), (7, 14), (9, 14), (10, 14)], [(8, 63)], [(1, 13), (3, 13), (4, 13), (5, 13), (7, 13), (9, 13), (10, 13)], [(11, 125)], [(11, 126)], [(11, 131)], [(11, 133)], [(11, 135)], [(11, 136)], [(11, 137)], [(1, 16), (3, 16), (4, 49), (5, 49), (7, 57), (9, 16), (10, 16)], [(1, 17), (3, 17), (4, 17), (5, 17), (7, 69), (9, 69), (10, 72)], [(1, 18), (3, 43), (4, 46), (5, 18), (7, 18), (9, 18), (10, 43)], [(8, 64)], [(2, 21)], [(1, 11), (3, 11), (4, 11), (5, 11), (7, 11), (9, 11), (10, 11)], [(8, 65)], [(2, 22)], [(0, 8)], [(1, 12), (3, 12), (4, 12), (5, 12), (7, 12), (9, 12), (10, 12)], [(5, 47), (4, 47)], [(9, 67), (7, 67)], [(3, 41), (10, 41)], [(4, 44)], [(7, 55)], [(10, 70)], [(1, 10), (3, 10), (4, 10), (5, 10), (7, 10), (9, 10), (10, 10)], [(1, 15), (3, 42), (4, 45), (5, 48), (7, 56), (9, 68), (10, 71)], [(8, 61)], [(11, 132)], [(11, 134)], [(12, 150)], [(12, 151)], [(12, 156)], [(12, 155)], [(12, 158)], [(12, 154)], [(12, 153)], [(12, 157)], [(12, 152)], [(12, 159)], [(12, 160)], [(12, 161)], [(12, 162)], [(12, 164)], [(12, 165)], [(12, 166)], [(12, 143)], [(12, 167)], [(12, 144)], [(12, 174)], [(12, 175)], [(12, 176)], [(12, 178)], [(12, 179)], [(12, 182)], [(12, 183)], [(12, 147)], [(12, 148)], [(12, 189)], [(12, 191)], [(12, 193)], [(12, 196)], [(12, 200)], [(12, 201)], [(12, 209)], [(12, 213)], [(12, 215)], [(12, 216)], [(12, 217)], [(12, 218)], [(12, 219)], [(12, 220)], [(0, 235)], [(11, 73)], [(12, 138)], [(11, 74)], [(12, 149)], [(11, 75)], [(12, 163)], [(11, 76)], [(12, 168)], [(11, 77)], [(12, 169)], [(11, 78)], [(12, 170)], [(11, 79)], [(12, 171)], [(11, 80)], [(12, 172)], [(11, 81)], [(12, 173)], [(11, 82)], [(12, 177)], [(11, 83)], [(12, 180)], [(11, 84)], [(12, 181)], [(11, 85)], [(12, 184)], [(11, 86)], [(12, 185)], [(11, 87)], [(12, 186)], [(11, 88)], [(12, 187)], [(11, 89)], [(12, 188)], [(11, 90)], [(12, 192)], [(11, 91)], [(12, 194)], [(11, 92)], [(12, 195)], [(11, 93)], [(12, 197)], [(11, 94)], [(12, 198)], [(11, 95)], [(12, 199)], [(11, 96)], [(12, 202)], [(11, 97)], [(12, 203)], [(11, 98)], [(12, 204)], [(11, 99)], [(12, 206)], [(11, 100)], [(12, 207)], [(11, 101)], [(12, 208)], [(11, 102)], [(12, 210)], [(11, 103)], [(12, 211)], [(11, 104)], [(12, 212)], [(11, 105)], [(12, 221)], [(11, 106)], [(12, 222)], [(11, 107)], [(12, 223)], [(11, 108)], [(12, 224)], [(11, 109)], [(12, 225)], [(11, 110)], [(12, 226)]]
def vt (k : Nat) : List (Nat × Nat) := xVt.getD k []
/-- the claim's texts -/
def xTx : List (List Nat) := [[97, 108, 109, 32], [101, 97, 99, 101, 32], [111, 102, 116, 101, 110, 32], [104, 97, 114, 112, 101, 110, 32], [99, 97, 108, 109, 32], [112, 101, 97, 99, 101, 32], [111, 102, 116, 101, 110, 32], [98, 107, 118, 121, 113, 119], [60, 61, 62], [104, 97, 114, 112, 101, 110, 32]]
def txt (k : Nat) : List Nat := xTx.getD k []
end
section
/-! LINKS: printed by wip/whole/gen/gen_links.py -/
theorem xIn_0 : ∀ w ∈ u_ws RJx4a65c TJx4a65c 3, w ∈ BW := by
  intro w hw
  obtain ⟨k, hk, rfl⟩ := List.mem_map.mp hw
  have hk := List.mem_range.mp hk
  match k, hk with
  | 0, _ => exact (bw w_0_109 rfl)
  | 1, _ => exact (bw w_0_105 rfl)
  | 2, _ => exact (bw w_0_107 rfl)
  | k + 3, h => exact absurd h (by omega)
theorem xIn_1 : ∀ w ∈ u_ws RX0 TX0 6, w ∈ BW := by
  intro w hw
  obtain ⟨k, hk, rfl⟩ := List.mem_map.mp hw
  have hk := List.mem_range.mp hk
  match k, hk with
  | 0, _ => exact (bw w_2_1 rfl)
  | 1, _ => exact (bw w_2_2 rfl)
  | 2, _ => exact (bw w_2_3 rfl)
  | 3, _ => exact (bw w_2_4 rfl)
  | 4, _ => exact (bw w_2_5 rfl)
  | 5, _ => exact (bw w_2_6 rfl)
  | k + 6, h => exact absurd h (by omega)
theorem xIn_2 : ∀ w ∈ u_ws RX1 TX1 5, w ∈ BW := by
  intro w hw
  obtain ⟨k, hk, rfl⟩ := List.mem_map.mp hw
  have hk := List.mem_range.mp hk
  match k, hk with
  | 0, _ => exact (bw w_0_75 rfl)
  | 1, _ => exact (bw w_0_77 rfl)
  | 2, _ => exact (bw w_0_79 rfl)
  | 3, _ => exact (bw w_0_81 rfl)
  | 4, _ => exact (bw w_0_83 rfl)
  | k + 5, h => exact absurd h (by omega)
theorem xIn_3 : ∀ w ∈ u_ws RX2 TX2 6, w ∈ BW := by
  intro w hw
  obtain ⟨k, hk, rfl⟩ := List.mem_map.mp hw
  have hk := List.mem_range.mp hk
  match k, hk with
  | 0, _ => exact (bw w_1_192 rfl)
  | 1, _ => exact (bw w_1_193 rfl)
  | 2, _ => exact (bw w_1_194 rfl)
  | 3, _ => exact (bw w_1_195 rfl)
  | 4, _ => exact (bw w_1_196 rfl)
  | 5, _ => exact (bw w_1_197 rfl)
  | k + 6, h => exact absurd h (by omega)
theorem xIn_4 : ∀ w ∈ u_ws RX3 TX3 6, w ∈ BW := by
  intro w hw
  obtain ⟨k, hk, rfl⟩ := List.mem_map.mp hw
  have hk := List.mem_range.mp hk
  match k, hk with
  | 0, _ => exact (bw w_1_205 rfl)
  | 1, _ => exact (bw w_1_206 rfl)
  | 2, _ => exact (bw w_1_207 rfl)
  | 3, _ => exact (bw w_1_208 rfl)
  | 4, _ => exact (bw w_1_209 rfl)
  | 5, _ => exact (bw w_1_210 rfl)
  | k + 6, h => exact absurd h (by omega)
theorem xIn_5 : ∀ w ∈ u_ws RX4 TX4 6, w ∈ BW := by
  intro w hw
  obtain ⟨k, hk, rfl⟩ := List.mem_map.mp hw
  have hk := List.mem_range.mp hk
  match k, hk with
  | 0, _ => exact (bw w_1_160 rfl)
  | 1, _ => exact (bw w_1_162 rfl)
  | 2, _ => exact (bw w_1_164 rfl)
  | 3, _ => exact (bw w_1_166 rfl)
  | 4, _ => exact (bw w_1_168 rfl)
  | 5, _ => exact (bw w_1_170 rfl)
  | k + 6, h => exact absurd h (by omega)
theorem xIn_6 : ∀ w ∈ u_ws RX5 TX5 6, w ∈ BW := by
  intro w hw
  obtain ⟨k, hk, rfl⟩ := List.mem_map.mp hw
  have hk := List.mem_range.mp hk
  match k, hk with
  | 0, _ => exact (bw w_1_119 rfl)
  | 1, _ => exact (bw w_1_121 rfl)
  | 2, _ => exact (bw w_1_123 rfl)
  | 3, _ => exact (bw w_1_125 rfl)
  | 4, _ => exact (bw w_1_127 rfl)
  | 5, _ => exact (bw w_1_129 rfl)
  | k + 6, h => exact absurd h (by omega)
theorem xIn_7 : ∀ w ∈ u_ws RX6 TX6 6, w ∈ BW := by
  intro w hw
  obtain ⟨k, hk, rfl⟩ := List.mem_map.mp hw
  have hk := List.mem_range.mp hk
  match k, hk with
  | 0, _ => exact (bw w_1_218 rfl)
  | 1, _ => exact (bw w_1_219 rfl)
  | 2, _ => exact (bw w_1_220 rfl)
  | 3, _ => exact (bw w_1_221 rfl)
  | 4, _ => exact (bw w_1_222 rfl)
  | 5, _ => exact (bw w_1_223 rfl)
  | k + 6, h => exact absurd h (by omega)
theorem xIn_8 : ∀ w ∈ u_ws RX7 TX7 5, w ∈ BW := by
  intro w hw
  obtain ⟨k, hk, rfl⟩ := List.mem_map.mp hw
  have hk := List.mem_range.mp hk
  match k, hk with
  | 0, _ => exact (bw w_0_50 rfl)
  | 1, _ => exact (bw w_0_52 rfl)
  | 2, _ => exact (bw w_0_54 rfl)
  | 3, _ => exact (bw w_0_56 rfl)
  | 4, _ => exact (bw w_0_58 rfl)
  | k + 5, h => exact absurd h (by omega)
theorem xIn_9 : ∀ w ∈ u_ws RX8 TX8 6, w ∈ BW := by
  intro w hw
  obtain ⟨k, hk, rfl⟩ := List.mem_map.mp hw
  have hk := List.mem_range.mp hk
  match k, hk with
  | 0, _ => exact (bw w_1_179 rfl)
  | 1, _ => exact (bw w_1_180 rfl)
  | 2, _ => exact (bw w_1_181 rfl)
  | 3, _ => exact (bw w_1_182 rfl)
  | 4, _ => exact (bw w_1_183 rfl)
  | 5, _ => exact (bw w_1_184 rfl)
  | k + 6, h => exact absurd h (by omega)
theorem xIn_10 : ∀ w ∈ u_ws RX9 TX9 6, w ∈ BW := by
  intro w hw
  obtain ⟨k, hk, rfl⟩ := List.mem_map.mp hw
  have hk := List.mem_range.mp hk
  match k, hk with
  | 0, _ => exact (bw w_1_231 rfl)
  | 1, _ => exact (bw w_1_232 rfl)
  | 2, _ => exact (bw w_1_233 rfl)
  | 3, _ => exact (bw w_1_234 rfl)
  | 4, _ => exact (bw w_1_235 rfl)
  | 5, _ => exact (bw w_1_236 rfl)
  | k + 6, h => exact absurd h (by omega)
theorem xIn_11 : ∀ w ∈ u_ws RX10 TX10 17, w ∈ BW := by
  intro w hw
  obtain ⟨k, hk, rfl⟩ := List.mem_map.mp hw
  have hk := List.mem_range.mp hk
  match k, hk with
  | 0, _ => exact (bw w_0_129 rfl)
  | 1, _ => exact (bw w_0_131 rfl)
  | 2, _ => exact (bw w_0_133 rfl)
  | 3, _ => exact (bw w_0_135 rfl)
  | 4, _ => exact (bw w_0_137 rfl)
  | 5, _ => exact (bw w_0_139 rfl)
  | 6, _ => exact (bw w_0_141 rfl)
  | 7, _ => exact (bw w_0_143 rfl)
  | 8, _ => exact (bw w_0_145 rfl)
  | 9, _ => exact (bw w_0_147 rfl)
  | 10, _ => exact (bw w_0_149 rfl)
  | 11, _ => exact (bw w_0_151 rfl)
  | 12, _ => exact (bw w_0_153 rfl)
  | 13, _ => exact (bw w_0_155 rfl)
  | 14, _ => exact (bw w_0_157 rfl)
  | 15, _ => exact (bw w_0_159 rfl)
  | 16, _ => exact (bw w_0_161 rfl)
  | k + 17, h => exact absurd h (by omega)
theorem xIn_12 : ∀ w ∈ u_ws RX11 TX11 24, w ∈ BW := by
  intro w hw
  obtain ⟨k, hk, rfl⟩ := List.mem_map.mp hw
  have hk := List.mem_range.mp hk
  match k, hk with
  | 0, _ => exact (bw w_4_106 rfl)
  | 1, _ => exact (bw w_4_108 rfl)
  | 2, _ => exact (bw w_4_110 rfl)
  | 3, _ => exact (bw w_4_112 rfl)
  | 4, _ => exact (bw w_4_114 rfl)
  | 5, _ => exact (bw w_4_116 rfl)
  | 6, _ => exact (bw w_4_118 rfl)
  | 7, _ => exact (bw w_4_120 rfl)
  | 8, _ => exact (bw w_4_122 rfl)
  | 9, _ => exact (bw w_4_124 rfl)
  | 10, _ => exact (bw w_4_126 rfl)
  | 11, _ => exact (bw w_4_128 rfl)
  | 12, _ => exact (bw w_4_130 rfl)
  | 13, _ => exact (bw w_4_132 rfl)
  | 14, _ => exact (bw w_4_134 rfl)
  | 15, _ => exact (bw w_4_136 rfl)
  | 16, _ => exact (bw w_4_138 rfl)
  | 17, _ => exact (bw w_4_140 rfl)
  | 18, _ => exact (bw w_4_142 rfl)
  | 19, _ => exact (bw w_4_144 rfl)
  | 20, _ => exact (bw w_4_146 rfl)
  | 21, _ => exact (bw w_4_148 rfl)
  | 22, _ => exact (bw w_4_150 rfl)
  | 23, _ => exact (bw w_4_152 rfl)
  | k + 24, h => exact absurd h (by omega)
/-- a field's kind, and its type -/
def xTyOk (t : Nat) (ty : FieldType) : Prop := (t = 0 ∧ ty = .int) ∨ (t = 1 ∧ ((∃ n, ty = .object n) ∨ ∃ e, ty = .array e)) ∨ (t = 3 ∧ ty = .boolean)
/-- what is known of class ci -/
def xClOk (ci : Nat) (C : String) (T : u_T) (N : Nat) (ty : Nat → FieldType) : Prop := vwCl[ci]? = some (C, T, N) ∧ N = (mFt ci).length ∧ (∀ w ∈ u_ws C T N, w ∈ BW) ∧ (∀ k, k < N → parseFieldDescriptor (T k).2.2.1 = some (ty k)) ∧ (∀ a, a < N → ∀ b, b < N → a ≠ b → (T a).2.1 ≠ (T b).2.1) ∧ ∀ k, k < N → xTyOk ((mFt ci).getD k 0) (ty k)
theorem xCl_0 : xClOk 0 RJx4a65c TJx4a65c 3 tyJx4a65c := ⟨rfl, rfl, xIn_0, tyJx4a65c_ok, nmJx4a65c, fun k hk => match k, hk with
  | 0, _ => Or.inl ⟨rfl, rfl⟩
  | 1, _ => Or.inr (Or.inl ⟨rfl, Or.inr ⟨_, rfl⟩⟩)
  | 2, _ => Or.inl ⟨rfl, rfl⟩
  | k + 3, h => absurd h (by omega)⟩
theorem xCl_1 : xClOk 1 RX0 TX0 6 tyX0 := ⟨rfl, rfl, xIn_1, tyX0_ok, nmX0, fun k hk => match k, hk with
  | 0, _ => Or.inl ⟨rfl, rfl⟩
  | 1, _ => Or.inl ⟨rfl, rfl⟩
  | 2, _ => Or.inr (Or.inl ⟨rfl, Or.inl ⟨_, rfl⟩⟩)
  | 3, _ => Or.inr (Or.inl ⟨rfl, Or.inl ⟨_, rfl⟩⟩)
  | 4, _ => Or.inr (Or.inl ⟨rfl, Or.inl ⟨_, rfl⟩⟩)
  | 5, _ => Or.inr (Or.inl ⟨rfl, Or.inl ⟨_, rfl⟩⟩)
  | k + 6, h => absurd h (by omega)⟩
theorem xCl_2 : xClOk 2 RX1 TX1 5 tyX1 := ⟨rfl, rfl, xIn_2, tyX1_ok, nmX1, fun k hk => match k, hk with
  | 0, _ => Or.inr (Or.inl ⟨rfl, Or.inl ⟨_, rfl⟩⟩)
  | 1, _ => Or.inr (Or.inl ⟨rfl, Or.inl ⟨_, rfl⟩⟩)
  | 2, _ => Or.inr (Or.inl ⟨rfl, Or.inl ⟨_, rfl⟩⟩)
  | 3, _ => Or.inl ⟨rfl, rfl⟩
  | 4, _ => Or.inl ⟨rfl, rfl⟩
  | k + 5, h => absurd h (by omega)⟩
theorem xCl_3 : xClOk 3 RX2 TX2 6 tyX2 := ⟨rfl, rfl, xIn_3, tyX2_ok, nmX2, fun k hk => match k, hk with
  | 0, _ => Or.inl ⟨rfl, rfl⟩
  | 1, _ => Or.inl ⟨rfl, rfl⟩
  | 2, _ => Or.inr (Or.inl ⟨rfl, Or.inl ⟨_, rfl⟩⟩)
  | 3, _ => Or.inr (Or.inl ⟨rfl, Or.inl ⟨_, rfl⟩⟩)
  | 4, _ => Or.inr (Or.inl ⟨rfl, Or.inl ⟨_, rfl⟩⟩)
  | 5, _ => Or.inr (Or.inl ⟨rfl, Or.inl ⟨_, rfl⟩⟩)
  | k + 6, h => absurd h (by omega)⟩
theorem xCl_4 : xClOk 4 RX3 TX3 6 tyX3 := ⟨rfl, rfl, xIn_4, tyX3_ok, nmX3, fun k hk => match k, hk with
  | 0, _ => Or.inl ⟨rfl, rfl⟩
  | 1, _ => Or.inl ⟨rfl, rfl⟩
  | 2, _ => Or.inr (Or.inl ⟨rfl, Or.inl ⟨_, rfl⟩⟩)
  | 3, _ => Or.inr (Or.inl ⟨rfl, Or.inl ⟨_, rfl⟩⟩)
  | 4, _ => Or.inr (Or.inl ⟨rfl, Or.inl ⟨_, rfl⟩⟩)
  | 5, _ => Or.inr (Or.inl ⟨rfl, Or.inl ⟨_, rfl⟩⟩)
  | k + 6, h => absurd h (by omega)⟩
theorem xCl_5 : xClOk 5 RX4 TX4 6 tyX4 := ⟨rfl, rfl, xIn_5, tyX4_ok, nmX4, fun k hk => match k, hk with
  | 0, _ => Or.inl ⟨rfl, rfl⟩
  | 1, _ => Or.inl ⟨rfl, rfl⟩
  | 2, _ => Or.inr (Or.inl ⟨rfl, Or.inl ⟨_, rfl⟩⟩)
  | 3, _ => Or.inr (Or.inl ⟨rfl, Or.inl ⟨_, rfl⟩⟩)
  | 4, _ => Or.inr (Or.inl ⟨rfl, Or.inl ⟨_, rfl⟩⟩)
  | 5, _ => Or.inr (Or.inl ⟨rfl, Or.inl ⟨_, rfl⟩⟩)
  | k + 6, h => absurd h (by omega)⟩
theorem xCl_6 : xClOk 6 RX5 TX5 6 tyX5 := ⟨rfl, rfl, xIn_6, tyX5_ok, nmX5, fun k hk => match k, hk with
  | 0, _ => Or.inr (Or.inl ⟨rfl, Or.inr ⟨_, rfl⟩⟩)
  | 1, _ => Or.inl ⟨rfl, rfl⟩
  | 2, _ => Or.inl ⟨rfl, rfl⟩
  | 3, _ => Or.inl ⟨rfl, rfl⟩
  | 4, _ => Or.inl ⟨rfl, rfl⟩
  | 5, _ => Or.inr (Or.inr ⟨rfl, rfl⟩)
  | k + 6, h => absurd h (by omega)⟩
theorem xCl_7 : xClOk 7 RX6 TX6 6 tyX6 := ⟨rfl, rfl, xIn_7, tyX6_ok, nmX6, fun k hk => match k, hk with
  | 0, _ => Or.inl ⟨rfl, rfl⟩
  | 1, _ => Or.inl ⟨rfl, rfl⟩
  | 2, _ => Or.inr (Or.inl ⟨rfl, Or.inl ⟨_, rfl⟩⟩)
  | 3, _ => Or.inr (Or.inl ⟨rfl, Or.inl ⟨_, rfl⟩⟩)
  | 4, _ => Or.inr (Or.inl ⟨rfl, Or.inl ⟨_, rfl⟩⟩)
  | 5, _ => Or.inr (Or.inl ⟨rfl, Or.inl ⟨_, rfl⟩⟩)
  | k + 6, h => absurd h (by omega)⟩
theorem xCl_8 : xClOk 8 RX7 TX7 5 tyX7 := ⟨rfl, rfl, xIn_8, tyX7_ok, nmX7, fun k hk => match k, hk with
  | 0, _ => Or.inl ⟨rfl, rfl⟩
  | 1, _ => Or.inr (Or.inl ⟨rfl, Or.inr ⟨_, rfl⟩⟩)
  | 2, _ => Or.inr (Or.inl ⟨rfl, Or.inr ⟨_, rfl⟩⟩)
  | 3, _ => Or.inl ⟨rfl, rfl⟩
  | 4, _ => Or.inl ⟨rfl, rfl⟩
  | k + 5, h => absurd h (by omega)⟩
theorem xCl_9 : xClOk 9 RX8 TX8 6 tyX8 := ⟨rfl, rfl, xIn_9, tyX8_ok, nmX8, fun k hk => match k, hk with
  | 0, _ => Or.inl ⟨rfl, rfl⟩
  | 1, _ => Or.inl ⟨rfl, rfl⟩
  | 2, _ => Or.inr (Or.inl ⟨rfl, Or.inl ⟨_, rfl⟩⟩)
  | 3, _ => Or.inr (Or.inl ⟨rfl, Or.inl ⟨_, rfl⟩⟩)
  | 4, _ => Or.inr (Or.inl ⟨rfl, Or.inl ⟨_, rfl⟩⟩)
  | 5, _ => Or.inr (Or.inl ⟨rfl, Or.inl ⟨_, rfl⟩⟩)
  | k + 6, h => absurd h (by omega)⟩
theorem xCl_10 : xClOk 10 RX9 TX9 6 tyX9 := ⟨rfl, rfl, xIn_10, tyX9_ok, nmX9, fun k hk => match k, hk with
  | 0, _ => Or.inl ⟨rfl, rfl⟩
  | 1, _ => Or.inl ⟨rfl, rfl⟩
  | 2, _ => Or.inr (Or.inl ⟨rfl, Or.inl ⟨_, rfl⟩⟩)
  | 3, _ => Or.inr (Or.inl ⟨rfl, Or.inl ⟨_, rfl⟩⟩)
  | 4, _ => Or.inr (Or.inl ⟨rfl, Or.inl ⟨_, rfl⟩⟩)
  | 5, _ => Or.inr (Or.inl ⟨rfl, Or.inl ⟨_, rfl⟩⟩)
  | k + 6, h => absurd h (by omega)⟩
theorem xCl_11 : xClOk 11 RX10 TX10 17 tyX10 := ⟨rfl, rfl, xIn_11, tyX10_ok, nmX10, fun k hk => match k, hk with
  | 0, _ => Or.inr (Or.inl ⟨rfl, Or.inl ⟨_, rfl⟩⟩)
  | 1, _ => Or.inr (Or.inl ⟨rfl, Or.inl ⟨_, rfl⟩⟩)
  | 2, _ => Or.inr (Or.inl ⟨rfl, Or.inl ⟨_, rfl⟩⟩)
  | 3, _ => Or.inr (Or.inl ⟨rfl, Or.inl ⟨_, rfl⟩⟩)
  | 4, _ => Or.inr (Or.inl ⟨rfl, Or.inl ⟨_, rfl⟩⟩)
  | 5, _ => Or.inr (Or.inl ⟨rfl, Or.inl ⟨_, rfl⟩⟩)
  | 6, _ => Or.inr (Or.inl ⟨rfl, Or.inl ⟨_, rfl⟩⟩)
  | 7, _ => Or.inr (Or.inl ⟨rfl, Or.inl ⟨_, rfl⟩⟩)
  | 8, _ => Or.inr (Or.inl ⟨rfl, Or.inl ⟨_, rfl⟩⟩)
  | 9, _ => Or.inr (Or.inl ⟨rfl, Or.inl ⟨_, rfl⟩⟩)
  | 10, _ => Or.inr (Or.inl ⟨rfl, Or.inl ⟨_, rfl⟩⟩)
  | 11, _ => Or.inr (Or.inl ⟨rfl, Or.inl ⟨_, rfl⟩⟩)
  | 12, _ => Or.inl ⟨rfl, rfl⟩
  | 13, _ => Or.inl ⟨rfl, rfl⟩
  | 14, _ => Or.inl ⟨rfl, rfl⟩
  | 15, _ => Or.inl ⟨rfl, rfl⟩
  | 16, _ => Or.inl ⟨rfl, rfl⟩
  | k + 17, h => absurd h (by omega)⟩
theorem xCl_12 : xClOk 12 RX11 TX11 24 tyX11 := ⟨rfl, rfl, xIn_12, tyX11_ok, nmX11, fun k hk => match k, hk with
  | 0, _ => Or.inl ⟨rfl, rfl⟩
  | 1, _ => Or.inr (Or.inl ⟨rfl, Or.inr ⟨_, rfl⟩⟩)
  | 2, _ => Or.inr (Or.inl ⟨rfl, Or.inr ⟨_, rfl⟩⟩)
  | 3, _ => Or.inr (Or.inl ⟨rfl, Or.inr ⟨_, rfl⟩⟩)
  | 4, _ => Or.inr (Or.inr ⟨rfl, rfl⟩)
  | 5, _ => Or.inl ⟨rfl, rfl⟩
  | 6, _ => Or.inl ⟨rfl, rfl⟩
  | 7, _ => Or.inl ⟨rfl, rfl⟩
  | 8, _ => Or.inr (Or.inr ⟨rfl, rfl⟩)
  | 9, _ => Or.inl ⟨rfl, rfl⟩
  | 10, _ => Or.inr (Or.inl ⟨rfl, Or.inr ⟨_, rfl⟩⟩)
  | 11, _ => Or.inr (Or.inl ⟨rfl, Or.inr ⟨_, rfl⟩⟩)
  | 12, _ => Or.inr (Or.inl ⟨rfl, Or.inr ⟨_, rfl⟩⟩)
  | 13, _ => Or.inr (Or.inl ⟨rfl, Or.inr ⟨_, rfl⟩⟩)
  | 14, _ => Or.inr (Or.inl ⟨rfl, Or.inr ⟨_, rfl⟩⟩)
  | 15, _ => Or.inl ⟨rfl, rfl⟩
  | 16, _ => Or.inr (Or.inl ⟨rfl, Or.inr ⟨_, rfl⟩⟩)
  | 17, _ => Or.inr (Or.inl ⟨rfl, Or.inr ⟨_, rfl⟩⟩)
  | 18, _ => Or.inl ⟨rfl, rfl⟩
  | 19, _ => Or.inr (Or.inl ⟨rfl, Or.inr ⟨_, rfl⟩⟩)
  | 20, _ => Or.inl ⟨rfl, rfl⟩
  | 21, _ => Or.inl ⟨rfl, rfl⟩
  | 22, _ => Or.inl ⟨rfl, rfl⟩
  | 23, _ => Or.inl ⟨rfl, rfl⟩
  | k + 24, h => absurd h (by omega)⟩
theorem xCls (ci : Nat) (h : ci < 13) : ∃ C T N ty, xClOk ci C T N ty := by
  match ci, h with
  | 0, _ => exact ⟨_, _, _, _, xCl_0⟩
  | 1, _ => exact ⟨_, _, _, _, xCl_1⟩
  | 2, _ => exact ⟨_, _, _, _, xCl_2⟩
  | 3, _ => exact ⟨_, _, _, _, xCl_3⟩
  | 4, _ => exact ⟨_, _, _, _, xCl_4⟩
  | 5, _ => exact ⟨_, _, _, _, xCl_5⟩
  | 6, _ => exact ⟨_, _, _, _, xCl_6⟩
  | 7, _ => exact ⟨_, _, _, _, xCl_7⟩
  | 8, _ => exact ⟨_, _, _, _, xCl_8⟩
  | 9, _ => exact ⟨_, _, _, _, xCl_9⟩
  | 10, _ => exact ⟨_, _, _, _, xCl_10⟩
  | 11, _ => exact ⟨_, _, _, _, xCl_11⟩
  | 12, _ => exact ⟨_, _, _, _, xCl_12⟩
  | k + 13, h => exact absurd h (by omega)
theorem xSub_1 {c : Nat} (h : mIsa c 1 = true) : c = 1 ∨ c = 3 ∨ c = 4 ∨ c = 5 ∨ c = 7 ∨ c = 9 ∨ c = 10 := by simp [mIsa] at h; omega
theorem xSub_3 {c : Nat} (h : mIsa c 3 = true) : c = 3 ∨ c = 10 := by simp [mIsa] at h; omega
theorem xSub_5 {c : Nat} (h : mIsa c 5 = true) : c = 5 ∨ c = 4 := by simp [mIsa] at h; omega
theorem xSub_9 {c : Nat} (h : mIsa c 9 = true) : c = 9 ∨ c = 7 := by simp [mIsa] at h; omega
theorem xSub_o {c b : Nat} (h : mIsa c b = true) (h1 : b ≠ 1) (h3 : b ≠ 3) (h5 : b ≠ 5) (h9 : b ≠ 9) : c = b := by simp [mIsa, h1, h3, h5, h9] at h; exact h
/-- field (own, idx) is place k of class b and of those under it -/
def FlOk (own idx k b : Nat) : Prop := ∀ ci, mIsa ci b = true → ∃ C T N, vwCl[ci]? = some (C, T, N) ∧ k < N ∧ ∃ ref, Cond.fieldLink (xCn own) idx ref (T k).2.1 (T k).2.2.1 ∈ BW ∧ ((T k).1 = ref ∨ Cond.sameField ref (T k).1 (T k).2.1 (T k).2.2.1 ∈ BW)
def FpOk (own idx k b : Nat) (ini : Bool) : Prop := ∀ ci, mIsa ci b = true → ∃ C T N, vwCl[ci]? = some (C, T, N) ∧ k < N ∧ ((T k).2.2.2 = false ∨ (ini = true ∧ (T k).2.2.2 = true ∧ (T k).1 = xCn own))
theorem fl_0_9 : FlOk 0 9 1 0 := fun ci h => by
  obtain rfl := xSub_o h (by decide) (by decide) (by decide) (by decide)
  exact ⟨_, _, _, rfl, by decide, "java/util/ArrayList", (bw w_0_100 rfl), Or.inl rfl⟩
theorem fl_0_48 : FlOk 0 48 2 0 := fun ci h => by
  obtain rfl := xSub_o h (by decide) (by decide) (by decide) (by decide)
  exact ⟨_, _, _, rfl, by decide, "java/util/ArrayList", (bw w_0_101 rfl), Or.inl rfl⟩
theorem fl_0_63 : FlOk 0 63 0 0 := fun ci h => by
  obtain rfl := xSub_o h (by decide) (by decide) (by decide) (by decide)
  exact ⟨_, _, _, rfl, by decide, "java/util/ArrayList", (bw w_0_103 rfl), Or.inr (bw w_0_104 rfl)⟩
theorem fl_1_10 : FlOk 1 10 3 1 := fun ci h => by
  rcases xSub_1 h with rfl | rfl | rfl | rfl | rfl | rfl | rfl
  · exact ⟨_, _, _, rfl, by decide, "LaidQuarrel$Bottle", (bw w_1_153 rfl), Or.inl rfl⟩
  · exact ⟨_, _, _, rfl, by decide, "LaidQuarrel$Bottle", (bw w_1_153 rfl), Or.inl rfl⟩
  · exact ⟨_, _, _, rfl, by decide, "LaidQuarrel$Bottle", (bw w_1_153 rfl), Or.inl rfl⟩
  · exact ⟨_, _, _, rfl, by decide, "LaidQuarrel$Bottle", (bw w_1_153 rfl), Or.inl rfl⟩
  · exact ⟨_, _, _, rfl, by decide, "LaidQuarrel$Bottle", (bw w_1_153 rfl), Or.inl rfl⟩
  · exact ⟨_, _, _, rfl, by decide, "LaidQuarrel$Bottle", (bw w_1_153 rfl), Or.inl rfl⟩
  · exact ⟨_, _, _, rfl, by decide, "LaidQuarrel$Bottle", (bw w_1_153 rfl), Or.inl rfl⟩
theorem fl_1_16 : FlOk 1 16 4 1 := fun ci h => by
  rcases xSub_1 h with rfl | rfl | rfl | rfl | rfl | rfl | rfl
  · exact ⟨_, _, _, rfl, by decide, "LaidQuarrel$Bottle", (bw w_1_157 rfl), Or.inl rfl⟩
  · exact ⟨_, _, _, rfl, by decide, "LaidQuarrel$Bottle", (bw w_1_157 rfl), Or.inl rfl⟩
  · exact ⟨_, _, _, rfl, by decide, "LaidQuarrel$Bottle", (bw w_1_157 rfl), Or.inl rfl⟩
  · exact ⟨_, _, _, rfl, by decide, "LaidQuarrel$Bottle", (bw w_1_157 rfl), Or.inl rfl⟩
  · exact ⟨_, _, _, rfl, by decide, "LaidQuarrel$Bottle", (bw w_1_157 rfl), Or.inl rfl⟩
  · exact ⟨_, _, _, rfl, by decide, "LaidQuarrel$Bottle", (bw w_1_157 rfl), Or.inl rfl⟩
  · exact ⟨_, _, _, rfl, by decide, "LaidQuarrel$Bottle", (bw w_1_157 rfl), Or.inl rfl⟩
theorem fl_1_19 : FlOk 1 19 5 1 := fun ci h => by
  rcases xSub_1 h with rfl | rfl | rfl | rfl | rfl | rfl | rfl
  · exact ⟨_, _, _, rfl, by decide, "LaidQuarrel$Bottle", (bw w_1_158 rfl), Or.inl rfl⟩
  · exact ⟨_, _, _, rfl, by decide, "LaidQuarrel$Bottle", (bw w_1_158 rfl), Or.inl rfl⟩
  · exact ⟨_, _, _, rfl, by decide, "LaidQuarrel$Bottle", (bw w_1_158 rfl), Or.inl rfl⟩
  · exact ⟨_, _, _, rfl, by decide, "LaidQuarrel$Bottle", (bw w_1_158 rfl), Or.inl rfl⟩
  · exact ⟨_, _, _, rfl, by decide, "LaidQuarrel$Bottle", (bw w_1_158 rfl), Or.inl rfl⟩
  · exact ⟨_, _, _, rfl, by decide, "LaidQuarrel$Bottle", (bw w_1_158 rfl), Or.inl rfl⟩
  · exact ⟨_, _, _, rfl, by decide, "LaidQuarrel$Bottle", (bw w_1_158 rfl), Or.inl rfl⟩
theorem fl_1_22 : FlOk 1 22 0 1 := fun ci h => by
  rcases xSub_1 h with rfl | rfl | rfl | rfl | rfl | rfl | rfl
  · exact ⟨_, _, _, rfl, by decide, "LaidQuarrel$Bottle", (bw w_1_132 rfl), Or.inl rfl⟩
  · exact ⟨_, _, _, rfl, by decide, "LaidQuarrel$Bottle", (bw w_1_132 rfl), Or.inl rfl⟩
  · exact ⟨_, _, _, rfl, by decide, "LaidQuarrel$Bottle", (bw w_1_132 rfl), Or.inl rfl⟩
  · exact ⟨_, _, _, rfl, by decide, "LaidQuarrel$Bottle", (bw w_1_132 rfl), Or.inl rfl⟩
  · exact ⟨_, _, _, rfl, by decide, "LaidQuarrel$Bottle", (bw w_1_132 rfl), Or.inl rfl⟩
  · exact ⟨_, _, _, rfl, by decide, "LaidQuarrel$Bottle", (bw w_1_132 rfl), Or.inl rfl⟩
  · exact ⟨_, _, _, rfl, by decide, "LaidQuarrel$Bottle", (bw w_1_132 rfl), Or.inl rfl⟩
theorem fl_1_26 : FlOk 1 26 1 1 := fun ci h => by
  rcases xSub_1 h with rfl | rfl | rfl | rfl | rfl | rfl | rfl
  · exact ⟨_, _, _, rfl, by decide, "LaidQuarrel$Bottle", (bw w_1_135 rfl), Or.inl rfl⟩
  · exact ⟨_, _, _, rfl, by decide, "LaidQuarrel$Bottle", (bw w_1_135 rfl), Or.inl rfl⟩
  · exact ⟨_, _, _, rfl, by decide, "LaidQuarrel$Bottle", (bw w_1_135 rfl), Or.inl rfl⟩
  · exact ⟨_, _, _, rfl, by decide, "LaidQuarrel$Bottle", (bw w_1_135 rfl), Or.inl rfl⟩
  · exact ⟨_, _, _, rfl, by decide, "LaidQuarrel$Bottle", (bw w_1_135 rfl), Or.inl rfl⟩
  · exact ⟨_, _, _, rfl, by decide, "LaidQuarrel$Bottle", (bw w_1_135 rfl), Or.inl rfl⟩
  · exact ⟨_, _, _, rfl, by decide, "LaidQuarrel$Bottle", (bw w_1_135 rfl), Or.inl rfl⟩
theorem fl_1_29 : FlOk 1 29 2 1 := fun ci h => by
  rcases xSub_1 h with rfl | rfl | rfl | rfl | rfl | rfl | rfl
  · exact ⟨_, _, _, rfl, by decide, "LaidQuarrel$Bottle", (bw w_1_140 rfl), Or.inl rfl⟩
  · exact ⟨_, _, _, rfl, by decide, "LaidQuarrel$Bottle", (bw w_1_140 rfl), Or.inl rfl⟩
  · exact ⟨_, _, _, rfl, by decide, "LaidQuarrel$Bottle", (bw w_1_140 rfl), Or.inl rfl⟩
  · exact ⟨_, _, _, rfl, by decide, "LaidQuarrel$Bottle", (bw w_1_140 rfl), Or.inl rfl⟩
  · exact ⟨_, _, _, rfl, by decide, "LaidQuarrel$Bottle", (bw w_1_140 rfl), Or.inl rfl⟩
  · exact ⟨_, _, _, rfl, by decide, "LaidQuarrel$Bottle", (bw w_1_140 rfl), Or.inl rfl⟩
  · exact ⟨_, _, _, rfl, by decide, "LaidQuarrel$Bottle", (bw w_1_140 rfl), Or.inl rfl⟩
theorem fl_1_41 : FlOk 1 41 2 6 := fun ci h => by
  obtain rfl := xSub_o h (by decide) (by decide) (by decide) (by decide)
  exact ⟨_, _, _, rfl, by decide, "LaidQuarrel$Laid", (bw w_1_106 rfl), Or.inl rfl⟩
theorem fl_1_60 : FlOk 1 60 1 6 := fun ci h => by
  obtain rfl := xSub_o h (by decide) (by decide) (by decide) (by decide)
  exact ⟨_, _, _, rfl, by decide, "LaidQuarrel$Laid", (bw w_1_99 rfl), Or.inl rfl⟩
theorem fl_2_14 : FlOk 2 14 1 2 := fun ci h => by
  obtain rfl := xSub_o h (by decide) (by decide) (by decide) (by decide)
  exact ⟨_, _, _, rfl, by decide, "LaidQuarrel$Cellar", (bw w_0_71 rfl), Or.inl rfl⟩
theorem fl_2_20 : FlOk 2 20 2 2 := fun ci h => by
  obtain rfl := xSub_o h (by decide) (by decide) (by decide) (by decide)
  exact ⟨_, _, _, rfl, by decide, "LaidQuarrel$Cellar", (bw w_0_72 rfl), Or.inl rfl⟩
theorem fl_2_23 : FlOk 2 23 0 2 := fun ci h => by
  obtain rfl := xSub_o h (by decide) (by decide) (by decide) (by decide)
  exact ⟨_, _, _, rfl, by decide, "LaidQuarrel$Cellar", (bw w_0_70 rfl), Or.inl rfl⟩
theorem fl_2_40 : FlOk 2 40 3 8 := fun ci h => by
  obtain rfl := xSub_o h (by decide) (by decide) (by decide) (by decide)
  exact ⟨_, _, _, rfl, by decide, "LaidQuarrel$Shelf", (bw w_0_48 rfl), Or.inl rfl⟩
theorem fl_2_51 : FlOk 2 51 3 6 := fun ci h => by
  obtain rfl := xSub_o h (by decide) (by decide) (by decide) (by decide)
  exact ⟨_, _, _, rfl, by decide, "LaidQuarrel$Laid", (bw w_1_112 rfl), Or.inl rfl⟩
theorem fl_2_69 : FlOk 2 69 1 1 := fun ci h => by
  rcases xSub_1 h with rfl | rfl | rfl | rfl | rfl | rfl | rfl
  · exact ⟨_, _, _, rfl, by decide, "LaidQuarrel$Bottle", (bw w_1_139 rfl), Or.inl rfl⟩
  · exact ⟨_, _, _, rfl, by decide, "LaidQuarrel$Bottle", (bw w_1_139 rfl), Or.inl rfl⟩
  · exact ⟨_, _, _, rfl, by decide, "LaidQuarrel$Bottle", (bw w_1_139 rfl), Or.inl rfl⟩
  · exact ⟨_, _, _, rfl, by decide, "LaidQuarrel$Bottle", (bw w_1_139 rfl), Or.inl rfl⟩
  · exact ⟨_, _, _, rfl, by decide, "LaidQuarrel$Bottle", (bw w_1_139 rfl), Or.inl rfl⟩
  · exact ⟨_, _, _, rfl, by decide, "LaidQuarrel$Bottle", (bw w_1_139 rfl), Or.inl rfl⟩
  · exact ⟨_, _, _, rfl, by decide, "LaidQuarrel$Bottle", (bw w_1_139 rfl), Or.inl rfl⟩
theorem fl_2_74 : FlOk 2 74 0 1 := fun ci h => by
  rcases xSub_1 h with rfl | rfl | rfl | rfl | rfl | rfl | rfl
  · exact ⟨_, _, _, rfl, by decide, "LaidQuarrel$Bottle", (bw w_1_134 rfl), Or.inl rfl⟩
  · exact ⟨_, _, _, rfl, by decide, "LaidQuarrel$Bottle", (bw w_1_134 rfl), Or.inl rfl⟩
  · exact ⟨_, _, _, rfl, by decide, "LaidQuarrel$Bottle", (bw w_1_134 rfl), Or.inl rfl⟩
  · exact ⟨_, _, _, rfl, by decide, "LaidQuarrel$Bottle", (bw w_1_134 rfl), Or.inl rfl⟩
  · exact ⟨_, _, _, rfl, by decide, "LaidQuarrel$Bottle", (bw w_1_134 rfl), Or.inl rfl⟩
  · exact ⟨_, _, _, rfl, by decide, "LaidQuarrel$Bottle", (bw w_1_134 rfl), Or.inl rfl⟩
  · exact ⟨_, _, _, rfl, by decide, "LaidQuarrel$Bottle", (bw w_1_134 rfl), Or.inl rfl⟩
theorem fl_2_77 : FlOk 2 77 1 6 := fun ci h => by
  obtain rfl := xSub_o h (by decide) (by decide) (by decide) (by decide)
  exact ⟨_, _, _, rfl, by decide, "LaidQuarrel$Laid", (bw w_1_100 rfl), Or.inl rfl⟩
theorem fl_2_80 : FlOk 2 80 4 6 := fun ci h => by
  obtain rfl := xSub_o h (by decide) (by decide) (by decide) (by decide)
  exact ⟨_, _, _, rfl, by decide, "LaidQuarrel$Laid", (bw w_1_116 rfl), Or.inl rfl⟩
theorem fl_2_83 : FlOk 2 83 2 6 := fun ci h => by
  obtain rfl := xSub_o h (by decide) (by decide) (by decide) (by decide)
  exact ⟨_, _, _, rfl, by decide, "LaidQuarrel$Laid", (bw w_1_107 rfl), Or.inl rfl⟩
theorem fl_2_93 : FlOk 2 93 3 2 := fun ci h => by
  obtain rfl := xSub_o h (by decide) (by decide) (by decide) (by decide)
  exact ⟨_, _, _, rfl, by decide, "LaidQuarrel$Cellar", (bw w_0_73 rfl), Or.inl rfl⟩
theorem fl_2_113 : FlOk 2 113 4 2 := fun ci h => by
  obtain rfl := xSub_o h (by decide) (by decide) (by decide) (by decide)
  exact ⟨_, _, _, rfl, by decide, "LaidQuarrel$Cellar", (bw w_0_74 rfl), Or.inl rfl⟩
theorem fl_3_11 : FlOk 3 11 4 6 := fun ci h => by
  obtain rfl := xSub_o h (by decide) (by decide) (by decide) (by decide)
  exact ⟨_, _, _, rfl, by decide, "LaidQuarrel$Laid", (bw w_1_113 rfl), Or.inl rfl⟩
theorem fl_3_17 : FlOk 3 17 2 3 := fun ci h => by
  rcases xSub_3 h with rfl | rfl
  · exact ⟨_, _, _, rfl, by decide, "LaidQuarrel$Corked", (bw w_1_149 rfl), Or.inr (bw w_1_150 rfl)⟩
  · exact ⟨_, _, _, rfl, by decide, "LaidQuarrel$Corked", (bw w_1_149 rfl), Or.inr (bw w_1_150 rfl)⟩
theorem fl_4_11 : FlOk 4 11 3 6 := fun ci h => by
  obtain rfl := xSub_o h (by decide) (by decide) (by decide) (by decide)
  exact ⟨_, _, _, rfl, by decide, "LaidQuarrel$Laid", (bw w_1_108 rfl), Or.inl rfl⟩
theorem fl_4_17 : FlOk 4 17 1 6 := fun ci h => by
  obtain rfl := xSub_o h (by decide) (by decide) (by decide) (by decide)
  exact ⟨_, _, _, rfl, by decide, "LaidQuarrel$Laid", (bw w_1_95 rfl), Or.inl rfl⟩
theorem fl_4_20 : FlOk 4 20 2 4 := fun ci h => by
  obtain rfl := xSub_o h (by decide) (by decide) (by decide) (by decide)
  exact ⟨_, _, _, rfl, by decide, "LaidQuarrel$Feud", (bw w_1_151 rfl), Or.inr (bw w_1_152 rfl)⟩
theorem fl_5_7 : FlOk 5 7 2 6 := fun ci h => by
  obtain rfl := xSub_o h (by decide) (by decide) (by decide) (by decide)
  exact ⟨_, _, _, rfl, by decide, "LaidQuarrel$Laid", (bw w_1_101 rfl), Or.inl rfl⟩
theorem fl_5_19 : FlOk 5 19 2 5 := fun ci h => by
  rcases xSub_5 h with rfl | rfl
  · exact ⟨_, _, _, rfl, by decide, "LaidQuarrel$Hard", (bw w_1_141 rfl), Or.inr (bw w_1_142 rfl)⟩
  · exact ⟨_, _, _, rfl, by decide, "LaidQuarrel$Hard", (bw w_1_141 rfl), Or.inr (bw w_1_142 rfl)⟩
theorem fl_6_9 : FlOk 6 9 0 6 := fun ci h => by
  obtain rfl := xSub_o h (by decide) (by decide) (by decide) (by decide)
  exact ⟨_, _, _, rfl, by decide, "LaidQuarrel$Laid", (bw w_1_93 rfl), Or.inl rfl⟩
theorem fl_6_15 : FlOk 6 15 1 6 := fun ci h => by
  obtain rfl := xSub_o h (by decide) (by decide) (by decide) (by decide)
  exact ⟨_, _, _, rfl, by decide, "LaidQuarrel$Laid", (bw w_1_94 rfl), Or.inl rfl⟩
theorem fl_6_19 : FlOk 6 19 2 6 := fun ci h => by
  obtain rfl := xSub_o h (by decide) (by decide) (by decide) (by decide)
  exact ⟨_, _, _, rfl, by decide, "LaidQuarrel$Laid", (bw w_1_104 rfl), Or.inl rfl⟩
theorem fl_6_22 : FlOk 6 22 3 6 := fun ci h => by
  obtain rfl := xSub_o h (by decide) (by decide) (by decide) (by decide)
  exact ⟨_, _, _, rfl, by decide, "LaidQuarrel$Laid", (bw w_1_110 rfl), Or.inl rfl⟩
theorem fl_6_25 : FlOk 6 25 4 6 := fun ci h => by
  obtain rfl := xSub_o h (by decide) (by decide) (by decide) (by decide)
  exact ⟨_, _, _, rfl, by decide, "LaidQuarrel$Laid", (bw w_1_114 rfl), Or.inl rfl⟩
theorem fl_6_28 : FlOk 6 28 5 6 := fun ci h => by
  obtain rfl := xSub_o h (by decide) (by decide) (by decide) (by decide)
  exact ⟨_, _, _, rfl, by decide, "LaidQuarrel$Laid", (bw w_1_117 rfl), Or.inl rfl⟩
theorem fl_7_11 : FlOk 7 11 2 6 := fun ci h => by
  obtain rfl := xSub_o h (by decide) (by decide) (by decide) (by decide)
  exact ⟨_, _, _, rfl, by decide, "LaidQuarrel$Laid", (bw w_1_103 rfl), Or.inl rfl⟩
theorem fl_7_17 : FlOk 7 17 3 6 := fun ci h => by
  obtain rfl := xSub_o h (by decide) (by decide) (by decide) (by decide)
  exact ⟨_, _, _, rfl, by decide, "LaidQuarrel$Laid", (bw w_1_109 rfl), Or.inl rfl⟩
theorem fl_7_20 : FlOk 7 20 1 6 := fun ci h => by
  obtain rfl := xSub_o h (by decide) (by decide) (by decide) (by decide)
  exact ⟨_, _, _, rfl, by decide, "LaidQuarrel$Laid", (bw w_1_96 rfl), Or.inl rfl⟩
theorem fl_7_23 : FlOk 7 23 2 7 := fun ci h => by
  obtain rfl := xSub_o h (by decide) (by decide) (by decide) (by decide)
  exact ⟨_, _, _, rfl, by decide, "LaidQuarrel$Love", (bw w_1_143 rfl), Or.inr (bw w_1_144 rfl)⟩
theorem fl_7_39 : FlOk 7 39 1 7 := fun ci h => by
  obtain rfl := xSub_o h (by decide) (by decide) (by decide) (by decide)
  exact ⟨_, _, _, rfl, by decide, "LaidQuarrel$Love", (bw w_1_136 rfl), Or.inr (bw w_1_137 rfl)⟩
theorem fl_8_7 : FlOk 8 7 0 8 := fun ci h => by
  obtain rfl := xSub_o h (by decide) (by decide) (by decide) (by decide)
  exact ⟨_, _, _, rfl, by decide, "LaidQuarrel$Shelf", (bw w_0_43 rfl), Or.inl rfl⟩
theorem fl_8_19 : FlOk 8 19 1 8 := fun ci h => by
  obtain rfl := xSub_o h (by decide) (by decide) (by decide) (by decide)
  exact ⟨_, _, _, rfl, by decide, "LaidQuarrel$Shelf", (bw w_0_44 rfl), Or.inl rfl⟩
theorem fl_8_23 : FlOk 8 23 2 8 := fun ci h => by
  obtain rfl := xSub_o h (by decide) (by decide) (by decide) (by decide)
  exact ⟨_, _, _, rfl, by decide, "LaidQuarrel$Shelf", (bw w_0_45 rfl), Or.inl rfl⟩
theorem fl_8_26 : FlOk 8 26 3 8 := fun ci h => by
  obtain rfl := xSub_o h (by decide) (by decide) (by decide) (by decide)
  exact ⟨_, _, _, rfl, by decide, "LaidQuarrel$Shelf", (bw w_0_46 rfl), Or.inl rfl⟩
theorem fl_8_33 : FlOk 8 33 4 8 := fun ci h => by
  obtain rfl := xSub_o h (by decide) (by decide) (by decide) (by decide)
  exact ⟨_, _, _, rfl, by decide, "LaidQuarrel$Shelf", (bw w_0_49 rfl), Or.inl rfl⟩
theorem fl_9_7 : FlOk 9 7 2 6 := fun ci h => by
  obtain rfl := xSub_o h (by decide) (by decide) (by decide) (by decide)
  exact ⟨_, _, _, rfl, by decide, "LaidQuarrel$Laid", (bw w_1_102 rfl), Or.inl rfl⟩
theorem fl_9_19 : FlOk 9 19 2 9 := fun ci h => by
  rcases xSub_9 h with rfl | rfl
  · exact ⟨_, _, _, rfl, by decide, "LaidQuarrel$Sweet", (bw w_1_145 rfl), Or.inr (bw w_1_146 rfl)⟩
  · exact ⟨_, _, _, rfl, by decide, "LaidQuarrel$Sweet", (bw w_1_145 rfl), Or.inr (bw w_1_146 rfl)⟩
theorem fl_10_17 : FlOk 10 17 2 10 := fun ci h => by
  obtain rfl := xSub_o h (by decide) (by decide) (by decide) (by decide)
  exact ⟨_, _, _, rfl, by decide, "LaidQuarrel$Told", (bw w_1_147 rfl), Or.inr (bw w_1_148 rfl)⟩
theorem fl_10_33 : FlOk 10 33 3 10 := fun ci h => by
  obtain rfl := xSub_o h (by decide) (by decide) (by decide) (by decide)
  exact ⟨_, _, _, rfl, by decide, "LaidQuarrel$Told", (bw w_1_154 rfl), Or.inr (bw w_1_155 rfl)⟩
theorem fl_10_37 : FlOk 10 37 1 6 := fun ci h => by
  obtain rfl := xSub_o h (by decide) (by decide) (by decide) (by decide)
  exact ⟨_, _, _, rfl, by decide, "LaidQuarrel$Laid", (bw w_1_97 rfl), Or.inl rfl⟩
theorem fl_11_16 : FlOk 11 16 0 11 := fun ci h => by
  obtain rfl := xSub_o h (by decide) (by decide) (by decide) (by decide)
  exact ⟨_, _, _, rfl, by decide, "LaidQuarrel", (bw w_0_112 rfl), Or.inl rfl⟩
theorem fl_11_20 : FlOk 11 20 1 11 := fun ci h => by
  obtain rfl := xSub_o h (by decide) (by decide) (by decide) (by decide)
  exact ⟨_, _, _, rfl, by decide, "LaidQuarrel", (bw w_0_113 rfl), Or.inl rfl⟩
theorem fl_11_23 : FlOk 11 23 2 11 := fun ci h => by
  obtain rfl := xSub_o h (by decide) (by decide) (by decide) (by decide)
  exact ⟨_, _, _, rfl, by decide, "LaidQuarrel", (bw w_0_114 rfl), Or.inl rfl⟩
theorem fl_11_26 : FlOk 11 26 3 11 := fun ci h => by
  obtain rfl := xSub_o h (by decide) (by decide) (by decide) (by decide)
  exact ⟨_, _, _, rfl, by decide, "LaidQuarrel", (bw w_0_115 rfl), Or.inl rfl⟩
theorem fl_11_29 : FlOk 11 29 4 11 := fun ci h => by
  obtain rfl := xSub_o h (by decide) (by decide) (by decide) (by decide)
  exact ⟨_, _, _, rfl, by decide, "LaidQuarrel", (bw w_0_116 rfl), Or.inl rfl⟩
theorem fl_11_32 : FlOk 11 32 5 11 := fun ci h => by
  obtain rfl := xSub_o h (by decide) (by decide) (by decide) (by decide)
  exact ⟨_, _, _, rfl, by decide, "LaidQuarrel", (bw w_0_117 rfl), Or.inl rfl⟩
theorem fl_11_35 : FlOk 11 35 6 11 := fun ci h => by
  obtain rfl := xSub_o h (by decide) (by decide) (by decide) (by decide)
  exact ⟨_, _, _, rfl, by decide, "LaidQuarrel", (bw w_0_118 rfl), Or.inl rfl⟩
theorem fl_11_38 : FlOk 11 38 7 11 := fun ci h => by
  obtain rfl := xSub_o h (by decide) (by decide) (by decide) (by decide)
  exact ⟨_, _, _, rfl, by decide, "LaidQuarrel", (bw w_0_119 rfl), Or.inl rfl⟩
theorem fl_11_41 : FlOk 11 41 8 11 := fun ci h => by
  obtain rfl := xSub_o h (by decide) (by decide) (by decide) (by decide)
  exact ⟨_, _, _, rfl, by decide, "LaidQuarrel", (bw w_0_120 rfl), Or.inl rfl⟩
theorem fl_11_49 : FlOk 11 49 9 11 := fun ci h => by
  obtain rfl := xSub_o h (by decide) (by decide) (by decide) (by decide)
  exact ⟨_, _, _, rfl, by decide, "LaidQuarrel", (bw w_0_121 rfl), Or.inl rfl⟩
theorem fl_11_53 : FlOk 11 53 10 11 := fun ci h => by
  obtain rfl := xSub_o h (by decide) (by decide) (by decide) (by decide)
  exact ⟨_, _, _, rfl, by decide, "LaidQuarrel", (bw w_0_122 rfl), Or.inl rfl⟩
theorem fl_11_59 : FlOk 11 59 11 11 := fun ci h => by
  obtain rfl := xSub_o h (by decide) (by decide) (by decide) (by decide)
  exact ⟨_, _, _, rfl, by decide, "LaidQuarrel", (bw w_0_123 rfl), Or.inl rfl⟩
theorem fl_11_63 : FlOk 11 63 14 11 := fun ci h => by
  obtain rfl := xSub_o h (by decide) (by decide) (by decide) (by decide)
  exact ⟨_, _, _, rfl, by decide, "LaidQuarrel", (bw w_0_126 rfl), Or.inl rfl⟩
theorem fl_11_75 : FlOk 11 75 12 11 := fun ci h => by
  obtain rfl := xSub_o h (by decide) (by decide) (by decide) (by decide)
  exact ⟨_, _, _, rfl, by decide, "LaidQuarrel", (bw w_0_124 rfl), Or.inl rfl⟩
theorem fl_11_98 : FlOk 11 98 3 1 := fun ci h => by
  rcases xSub_1 h with rfl | rfl | rfl | rfl | rfl | rfl | rfl
  · exact ⟨_, _, _, rfl, by decide, "LaidQuarrel$Bottle", (bw w_1_156 rfl), Or.inl rfl⟩
  · exact ⟨_, _, _, rfl, by decide, "LaidQuarrel$Bottle", (bw w_1_156 rfl), Or.inl rfl⟩
  · exact ⟨_, _, _, rfl, by decide, "LaidQuarrel$Bottle", (bw w_1_156 rfl), Or.inl rfl⟩
  · exact ⟨_, _, _, rfl, by decide, "LaidQuarrel$Bottle", (bw w_1_156 rfl), Or.inl rfl⟩
  · exact ⟨_, _, _, rfl, by decide, "LaidQuarrel$Bottle", (bw w_1_156 rfl), Or.inl rfl⟩
  · exact ⟨_, _, _, rfl, by decide, "LaidQuarrel$Bottle", (bw w_1_156 rfl), Or.inl rfl⟩
  · exact ⟨_, _, _, rfl, by decide, "LaidQuarrel$Bottle", (bw w_1_156 rfl), Or.inl rfl⟩
theorem fl_11_104 : FlOk 11 104 1 6 := fun ci h => by
  obtain rfl := xSub_o h (by decide) (by decide) (by decide) (by decide)
  exact ⟨_, _, _, rfl, by decide, "LaidQuarrel$Laid", (bw w_1_98 rfl), Or.inl rfl⟩
theorem fl_11_109 : FlOk 11 109 2 6 := fun ci h => by
  obtain rfl := xSub_o h (by decide) (by decide) (by decide) (by decide)
  exact ⟨_, _, _, rfl, by decide, "LaidQuarrel$Laid", (bw w_1_105 rfl), Or.inl rfl⟩
theorem fl_11_116 : FlOk 11 116 1 1 := fun ci h => by
  rcases xSub_1 h with rfl | rfl | rfl | rfl | rfl | rfl | rfl
  · exact ⟨_, _, _, rfl, by decide, "LaidQuarrel$Bottle", (bw w_1_138 rfl), Or.inl rfl⟩
  · exact ⟨_, _, _, rfl, by decide, "LaidQuarrel$Bottle", (bw w_1_138 rfl), Or.inl rfl⟩
  · exact ⟨_, _, _, rfl, by decide, "LaidQuarrel$Bottle", (bw w_1_138 rfl), Or.inl rfl⟩
  · exact ⟨_, _, _, rfl, by decide, "LaidQuarrel$Bottle", (bw w_1_138 rfl), Or.inl rfl⟩
  · exact ⟨_, _, _, rfl, by decide, "LaidQuarrel$Bottle", (bw w_1_138 rfl), Or.inl rfl⟩
  · exact ⟨_, _, _, rfl, by decide, "LaidQuarrel$Bottle", (bw w_1_138 rfl), Or.inl rfl⟩
  · exact ⟨_, _, _, rfl, by decide, "LaidQuarrel$Bottle", (bw w_1_138 rfl), Or.inl rfl⟩
theorem fl_11_121 : FlOk 11 121 3 8 := fun ci h => by
  obtain rfl := xSub_o h (by decide) (by decide) (by decide) (by decide)
  exact ⟨_, _, _, rfl, by decide, "LaidQuarrel$Shelf", (bw w_0_47 rfl), Or.inl rfl⟩
theorem fl_11_127 : FlOk 11 127 0 1 := fun ci h => by
  rcases xSub_1 h with rfl | rfl | rfl | rfl | rfl | rfl | rfl
  · exact ⟨_, _, _, rfl, by decide, "LaidQuarrel$Bottle", (bw w_1_133 rfl), Or.inl rfl⟩
  · exact ⟨_, _, _, rfl, by decide, "LaidQuarrel$Bottle", (bw w_1_133 rfl), Or.inl rfl⟩
  · exact ⟨_, _, _, rfl, by decide, "LaidQuarrel$Bottle", (bw w_1_133 rfl), Or.inl rfl⟩
  · exact ⟨_, _, _, rfl, by decide, "LaidQuarrel$Bottle", (bw w_1_133 rfl), Or.inl rfl⟩
  · exact ⟨_, _, _, rfl, by decide, "LaidQuarrel$Bottle", (bw w_1_133 rfl), Or.inl rfl⟩
  · exact ⟨_, _, _, rfl, by decide, "LaidQuarrel$Bottle", (bw w_1_133 rfl), Or.inl rfl⟩
  · exact ⟨_, _, _, rfl, by decide, "LaidQuarrel$Bottle", (bw w_1_133 rfl), Or.inl rfl⟩
theorem fl_11_130 : FlOk 11 130 3 6 := fun ci h => by
  obtain rfl := xSub_o h (by decide) (by decide) (by decide) (by decide)
  exact ⟨_, _, _, rfl, by decide, "LaidQuarrel$Laid", (bw w_1_111 rfl), Or.inl rfl⟩
theorem fl_11_133 : FlOk 11 133 4 6 := fun ci h => by
  obtain rfl := xSub_o h (by decide) (by decide) (by decide) (by decide)
  exact ⟨_, _, _, rfl, by decide, "LaidQuarrel$Laid", (bw w_1_115 rfl), Or.inl rfl⟩
theorem fl_11_136 : FlOk 11 136 5 6 := fun ci h => by
  obtain rfl := xSub_o h (by decide) (by decide) (by decide) (by decide)
  exact ⟨_, _, _, rfl, by decide, "LaidQuarrel$Laid", (bw w_1_118 rfl), Or.inl rfl⟩
theorem fl_11_158 : FlOk 11 158 13 11 := fun ci h => by
  obtain rfl := xSub_o h (by decide) (by decide) (by decide) (by decide)
  exact ⟨_, _, _, rfl, by decide, "LaidQuarrel", (bw w_0_125 rfl), Or.inl rfl⟩
theorem fl_11_272 : FlOk 11 272 15 11 := fun ci h => by
  obtain rfl := xSub_o h (by decide) (by decide) (by decide) (by decide)
  exact ⟨_, _, _, rfl, by decide, "LaidQuarrel", (bw w_0_127 rfl), Or.inl rfl⟩
theorem fl_11_275 : FlOk 11 275 16 11 := fun ci h => by
  obtain rfl := xSub_o h (by decide) (by decide) (by decide) (by decide)
  exact ⟨_, _, _, rfl, by decide, "LaidQuarrel", (bw w_0_128 rfl), Or.inl rfl⟩
theorem fl_11_332 : FlOk 11 332 5 1 := fun ci h => by
  rcases xSub_1 h with rfl | rfl | rfl | rfl | rfl | rfl | rfl
  · exact ⟨_, _, _, rfl, by decide, "LaidQuarrel$Bottle", (bw w_1_159 rfl), Or.inl rfl⟩
  · exact ⟨_, _, _, rfl, by decide, "LaidQuarrel$Bottle", (bw w_1_159 rfl), Or.inl rfl⟩
  · exact ⟨_, _, _, rfl, by decide, "LaidQuarrel$Bottle", (bw w_1_159 rfl), Or.inl rfl⟩
  · exact ⟨_, _, _, rfl, by decide, "LaidQuarrel$Bottle", (bw w_1_159 rfl), Or.inl rfl⟩
  · exact ⟨_, _, _, rfl, by decide, "LaidQuarrel$Bottle", (bw w_1_159 rfl), Or.inl rfl⟩
  · exact ⟨_, _, _, rfl, by decide, "LaidQuarrel$Bottle", (bw w_1_159 rfl), Or.inl rfl⟩
  · exact ⟨_, _, _, rfl, by decide, "LaidQuarrel$Bottle", (bw w_1_159 rfl), Or.inl rfl⟩
theorem fl_12_9 : FlOk 12 9 1 12 := fun ci h => by
  obtain rfl := xSub_o h (by decide) (by decide) (by decide) (by decide)
  exact ⟨_, _, _, rfl, by decide, "LaidQuarrelModel", (bw w_4_83 rfl), Or.inl rfl⟩
theorem fl_12_15 : FlOk 12 15 2 12 := fun ci h => by
  obtain rfl := xSub_o h (by decide) (by decide) (by decide) (by decide)
  exact ⟨_, _, _, rfl, by decide, "LaidQuarrelModel", (bw w_4_84 rfl), Or.inl rfl⟩
theorem fl_12_18 : FlOk 12 18 3 12 := fun ci h => by
  obtain rfl := xSub_o h (by decide) (by decide) (by decide) (by decide)
  exact ⟨_, _, _, rfl, by decide, "LaidQuarrelModel", (bw w_4_85 rfl), Or.inl rfl⟩
theorem fl_12_21 : FlOk 12 21 10 12 := fun ci h => by
  obtain rfl := xSub_o h (by decide) (by decide) (by decide) (by decide)
  exact ⟨_, _, _, rfl, by decide, "LaidQuarrelModel", (bw w_4_92 rfl), Or.inl rfl⟩
theorem fl_12_24 : FlOk 12 24 11 12 := fun ci h => by
  obtain rfl := xSub_o h (by decide) (by decide) (by decide) (by decide)
  exact ⟨_, _, _, rfl, by decide, "LaidQuarrelModel", (bw w_4_93 rfl), Or.inl rfl⟩
theorem fl_12_28 : FlOk 12 28 12 12 := fun ci h => by
  obtain rfl := xSub_o h (by decide) (by decide) (by decide) (by decide)
  exact ⟨_, _, _, rfl, by decide, "LaidQuarrelModel", (bw w_4_94 rfl), Or.inl rfl⟩
theorem fl_12_31 : FlOk 12 31 13 12 := fun ci h => by
  obtain rfl := xSub_o h (by decide) (by decide) (by decide) (by decide)
  exact ⟨_, _, _, rfl, by decide, "LaidQuarrelModel", (bw w_4_95 rfl), Or.inl rfl⟩
theorem fl_12_34 : FlOk 12 34 14 12 := fun ci h => by
  obtain rfl := xSub_o h (by decide) (by decide) (by decide) (by decide)
  exact ⟨_, _, _, rfl, by decide, "LaidQuarrelModel", (bw w_4_96 rfl), Or.inl rfl⟩
theorem fl_12_37 : FlOk 12 37 16 12 := fun ci h => by
  obtain rfl := xSub_o h (by decide) (by decide) (by decide) (by decide)
  exact ⟨_, _, _, rfl, by decide, "LaidQuarrelModel", (bw w_4_98 rfl), Or.inl rfl⟩
theorem fl_12_40 : FlOk 12 40 17 12 := fun ci h => by
  obtain rfl := xSub_o h (by decide) (by decide) (by decide) (by decide)
  exact ⟨_, _, _, rfl, by decide, "LaidQuarrelModel", (bw w_4_99 rfl), Or.inl rfl⟩
theorem fl_12_43 : FlOk 12 43 19 12 := fun ci h => by
  obtain rfl := xSub_o h (by decide) (by decide) (by decide) (by decide)
  exact ⟨_, _, _, rfl, by decide, "LaidQuarrelModel", (bw w_4_101 rfl), Or.inl rfl⟩
theorem fl_12_58 : FlOk 12 58 6 12 := fun ci h => by
  obtain rfl := xSub_o h (by decide) (by decide) (by decide) (by decide)
  exact ⟨_, _, _, rfl, by decide, "LaidQuarrelModel", (bw w_4_88 rfl), Or.inl rfl⟩
theorem fl_12_61 : FlOk 12 61 7 12 := fun ci h => by
  obtain rfl := xSub_o h (by decide) (by decide) (by decide) (by decide)
  exact ⟨_, _, _, rfl, by decide, "LaidQuarrelModel", (bw w_4_89 rfl), Or.inl rfl⟩
theorem fl_12_64 : FlOk 12 64 8 12 := fun ci h => by
  obtain rfl := xSub_o h (by decide) (by decide) (by decide) (by decide)
  exact ⟨_, _, _, rfl, by decide, "LaidQuarrelModel", (bw w_4_90 rfl), Or.inl rfl⟩
theorem fl_12_85 : FlOk 12 85 5 12 := fun ci h => by
  obtain rfl := xSub_o h (by decide) (by decide) (by decide) (by decide)
  exact ⟨_, _, _, rfl, by decide, "LaidQuarrelModel", (bw w_4_87 rfl), Or.inl rfl⟩
theorem fl_12_88 : FlOk 12 88 9 12 := fun ci h => by
  obtain rfl := xSub_o h (by decide) (by decide) (by decide) (by decide)
  exact ⟨_, _, _, rfl, by decide, "LaidQuarrelModel", (bw w_4_91 rfl), Or.inl rfl⟩
theorem fl_12_207 : FlOk 12 207 15 12 := fun ci h => by
  obtain rfl := xSub_o h (by decide) (by decide) (by decide) (by decide)
  exact ⟨_, _, _, rfl, by decide, "LaidQuarrelModel", (bw w_4_97 rfl), Or.inl rfl⟩
theorem fl_12_214 : FlOk 12 214 18 12 := fun ci h => by
  obtain rfl := xSub_o h (by decide) (by decide) (by decide) (by decide)
  exact ⟨_, _, _, rfl, by decide, "LaidQuarrelModel", (bw w_4_100 rfl), Or.inl rfl⟩
theorem fl_12_239 : FlOk 12 239 20 12 := fun ci h => by
  obtain rfl := xSub_o h (by decide) (by decide) (by decide) (by decide)
  exact ⟨_, _, _, rfl, by decide, "LaidQuarrelModel", (bw w_4_102 rfl), Or.inl rfl⟩
theorem fl_12_245 : FlOk 12 245 22 12 := fun ci h => by
  obtain rfl := xSub_o h (by decide) (by decide) (by decide) (by decide)
  exact ⟨_, _, _, rfl, by decide, "LaidQuarrelModel", (bw w_4_104 rfl), Or.inl rfl⟩
theorem fl_12_248 : FlOk 12 248 21 12 := fun ci h => by
  obtain rfl := xSub_o h (by decide) (by decide) (by decide) (by decide)
  exact ⟨_, _, _, rfl, by decide, "LaidQuarrelModel", (bw w_4_103 rfl), Or.inl rfl⟩
theorem fl_12_261 : FlOk 12 261 23 12 := fun ci h => by
  obtain rfl := xSub_o h (by decide) (by decide) (by decide) (by decide)
  exact ⟨_, _, _, rfl, by decide, "LaidQuarrelModel", (bw w_4_105 rfl), Or.inl rfl⟩
theorem fl_12_276 : FlOk 12 276 4 12 := fun ci h => by
  obtain rfl := xSub_o h (by decide) (by decide) (by decide) (by decide)
  exact ⟨_, _, _, rfl, by decide, "LaidQuarrelModel", (bw w_4_86 rfl), Or.inl rfl⟩
theorem fl_17_7 : FlOk 17 7 0 0 := fun ci h => by
  obtain rfl := xSub_o h (by decide) (by decide) (by decide) (by decide)
  exact ⟨_, _, _, rfl, by decide, "java/util/AbstractList", (bw w_0_102 rfl), Or.inl rfl⟩
theorem fp0_0_9 : FpOk 0 9 1 0 false := fun ci h => by
  obtain rfl := xSub_o h (by decide) (by decide) (by decide) (by decide)
  exact ⟨_, _, _, rfl, by decide, Or.inl rfl⟩
theorem fp0_0_48 : FpOk 0 48 2 0 false := fun ci h => by
  obtain rfl := xSub_o h (by decide) (by decide) (by decide) (by decide)
  exact ⟨_, _, _, rfl, by decide, Or.inl rfl⟩
theorem fp0_0_63 : FpOk 0 63 0 0 false := fun ci h => by
  obtain rfl := xSub_o h (by decide) (by decide) (by decide) (by decide)
  exact ⟨_, _, _, rfl, by decide, Or.inl rfl⟩
theorem fp0_2_93 : FpOk 2 93 3 2 false := fun ci h => by
  obtain rfl := xSub_o h (by decide) (by decide) (by decide) (by decide)
  exact ⟨_, _, _, rfl, by decide, Or.inl rfl⟩
theorem fp0_2_113 : FpOk 2 113 4 2 false := fun ci h => by
  obtain rfl := xSub_o h (by decide) (by decide) (by decide) (by decide)
  exact ⟨_, _, _, rfl, by decide, Or.inl rfl⟩
theorem fp0_6_15 : FpOk 6 15 1 6 false := fun ci h => by
  obtain rfl := xSub_o h (by decide) (by decide) (by decide) (by decide)
  exact ⟨_, _, _, rfl, by decide, Or.inl rfl⟩
theorem fp0_6_19 : FpOk 6 19 2 6 false := fun ci h => by
  obtain rfl := xSub_o h (by decide) (by decide) (by decide) (by decide)
  exact ⟨_, _, _, rfl, by decide, Or.inl rfl⟩
theorem fp0_6_22 : FpOk 6 22 3 6 false := fun ci h => by
  obtain rfl := xSub_o h (by decide) (by decide) (by decide) (by decide)
  exact ⟨_, _, _, rfl, by decide, Or.inl rfl⟩
theorem fp0_6_25 : FpOk 6 25 4 6 false := fun ci h => by
  obtain rfl := xSub_o h (by decide) (by decide) (by decide) (by decide)
  exact ⟨_, _, _, rfl, by decide, Or.inl rfl⟩
theorem fp0_6_28 : FpOk 6 28 5 6 false := fun ci h => by
  obtain rfl := xSub_o h (by decide) (by decide) (by decide) (by decide)
  exact ⟨_, _, _, rfl, by decide, Or.inl rfl⟩
theorem fp0_8_26 : FpOk 8 26 3 8 false := fun ci h => by
  obtain rfl := xSub_o h (by decide) (by decide) (by decide) (by decide)
  exact ⟨_, _, _, rfl, by decide, Or.inl rfl⟩
theorem fp0_8_33 : FpOk 8 33 4 8 false := fun ci h => by
  obtain rfl := xSub_o h (by decide) (by decide) (by decide) (by decide)
  exact ⟨_, _, _, rfl, by decide, Or.inl rfl⟩
theorem fp0_11_63 : FpOk 11 63 14 11 false := fun ci h => by
  obtain rfl := xSub_o h (by decide) (by decide) (by decide) (by decide)
  exact ⟨_, _, _, rfl, by decide, Or.inl rfl⟩
theorem fp0_11_75 : FpOk 11 75 12 11 false := fun ci h => by
  obtain rfl := xSub_o h (by decide) (by decide) (by decide) (by decide)
  exact ⟨_, _, _, rfl, by decide, Or.inl rfl⟩
theorem fp0_11_104 : FpOk 11 104 1 6 false := fun ci h => by
  obtain rfl := xSub_o h (by decide) (by decide) (by decide) (by decide)
  exact ⟨_, _, _, rfl, by decide, Or.inl rfl⟩
theorem fp0_11_109 : FpOk 11 109 2 6 false := fun ci h => by
  obtain rfl := xSub_o h (by decide) (by decide) (by decide) (by decide)
  exact ⟨_, _, _, rfl, by decide, Or.inl rfl⟩
theorem fp0_11_130 : FpOk 11 130 3 6 false := fun ci h => by
  obtain rfl := xSub_o h (by decide) (by decide) (by decide) (by decide)
  exact ⟨_, _, _, rfl, by decide, Or.inl rfl⟩
theorem fp0_11_133 : FpOk 11 133 4 6 false := fun ci h => by
  obtain rfl := xSub_o h (by decide) (by decide) (by decide) (by decide)
  exact ⟨_, _, _, rfl, by decide, Or.inl rfl⟩
theorem fp0_11_136 : FpOk 11 136 5 6 false := fun ci h => by
  obtain rfl := xSub_o h (by decide) (by decide) (by decide) (by decide)
  exact ⟨_, _, _, rfl, by decide, Or.inl rfl⟩
theorem fp0_11_158 : FpOk 11 158 13 11 false := fun ci h => by
  obtain rfl := xSub_o h (by decide) (by decide) (by decide) (by decide)
  exact ⟨_, _, _, rfl, by decide, Or.inl rfl⟩
theorem fp0_11_272 : FpOk 11 272 15 11 false := fun ci h => by
  obtain rfl := xSub_o h (by decide) (by decide) (by decide) (by decide)
  exact ⟨_, _, _, rfl, by decide, Or.inl rfl⟩
theorem fp0_11_275 : FpOk 11 275 16 11 false := fun ci h => by
  obtain rfl := xSub_o h (by decide) (by decide) (by decide) (by decide)
  exact ⟨_, _, _, rfl, by decide, Or.inl rfl⟩
theorem fp0_12_58 : FpOk 12 58 6 12 false := fun ci h => by
  obtain rfl := xSub_o h (by decide) (by decide) (by decide) (by decide)
  exact ⟨_, _, _, rfl, by decide, Or.inl rfl⟩
theorem fp0_12_61 : FpOk 12 61 7 12 false := fun ci h => by
  obtain rfl := xSub_o h (by decide) (by decide) (by decide) (by decide)
  exact ⟨_, _, _, rfl, by decide, Or.inl rfl⟩
theorem fp0_12_64 : FpOk 12 64 8 12 false := fun ci h => by
  obtain rfl := xSub_o h (by decide) (by decide) (by decide) (by decide)
  exact ⟨_, _, _, rfl, by decide, Or.inl rfl⟩
theorem fp0_12_85 : FpOk 12 85 5 12 false := fun ci h => by
  obtain rfl := xSub_o h (by decide) (by decide) (by decide) (by decide)
  exact ⟨_, _, _, rfl, by decide, Or.inl rfl⟩
theorem fp0_12_88 : FpOk 12 88 9 12 false := fun ci h => by
  obtain rfl := xSub_o h (by decide) (by decide) (by decide) (by decide)
  exact ⟨_, _, _, rfl, by decide, Or.inl rfl⟩
theorem fp0_12_207 : FpOk 12 207 15 12 false := fun ci h => by
  obtain rfl := xSub_o h (by decide) (by decide) (by decide) (by decide)
  exact ⟨_, _, _, rfl, by decide, Or.inl rfl⟩
theorem fp0_12_214 : FpOk 12 214 18 12 false := fun ci h => by
  obtain rfl := xSub_o h (by decide) (by decide) (by decide) (by decide)
  exact ⟨_, _, _, rfl, by decide, Or.inl rfl⟩
theorem fp0_12_239 : FpOk 12 239 20 12 false := fun ci h => by
  obtain rfl := xSub_o h (by decide) (by decide) (by decide) (by decide)
  exact ⟨_, _, _, rfl, by decide, Or.inl rfl⟩
theorem fp0_12_245 : FpOk 12 245 22 12 false := fun ci h => by
  obtain rfl := xSub_o h (by decide) (by decide) (by decide) (by decide)
  exact ⟨_, _, _, rfl, by decide, Or.inl rfl⟩
theorem fp0_12_248 : FpOk 12 248 21 12 false := fun ci h => by
  obtain rfl := xSub_o h (by decide) (by decide) (by decide) (by decide)
  exact ⟨_, _, _, rfl, by decide, Or.inl rfl⟩
theorem fp0_12_261 : FpOk 12 261 23 12 false := fun ci h => by
  obtain rfl := xSub_o h (by decide) (by decide) (by decide) (by decide)
  exact ⟨_, _, _, rfl, by decide, Or.inl rfl⟩
theorem fp0_12_276 : FpOk 12 276 4 12 false := fun ci h => by
  obtain rfl := xSub_o h (by decide) (by decide) (by decide) (by decide)
  exact ⟨_, _, _, rfl, by decide, Or.inl rfl⟩
theorem fp1_0_9 : FpOk 0 9 1 0 true := fun ci h => by
  obtain rfl := xSub_o h (by decide) (by decide) (by decide) (by decide)
  exact ⟨_, _, _, rfl, by decide, Or.inl rfl⟩
theorem fp1_1_10 : FpOk 1 10 3 1 true := fun ci h => by
  rcases xSub_1 h with rfl | rfl | rfl | rfl | rfl | rfl | rfl
  · exact ⟨_, _, _, rfl, by decide, Or.inr ⟨rfl, rfl, rfl⟩⟩
  · exact ⟨_, _, _, rfl, by decide, Or.inr ⟨rfl, rfl, rfl⟩⟩
  · exact ⟨_, _, _, rfl, by decide, Or.inr ⟨rfl, rfl, rfl⟩⟩
  · exact ⟨_, _, _, rfl, by decide, Or.inr ⟨rfl, rfl, rfl⟩⟩
  · exact ⟨_, _, _, rfl, by decide, Or.inr ⟨rfl, rfl, rfl⟩⟩
  · exact ⟨_, _, _, rfl, by decide, Or.inr ⟨rfl, rfl, rfl⟩⟩
  · exact ⟨_, _, _, rfl, by decide, Or.inr ⟨rfl, rfl, rfl⟩⟩
theorem fp1_1_16 : FpOk 1 16 4 1 true := fun ci h => by
  rcases xSub_1 h with rfl | rfl | rfl | rfl | rfl | rfl | rfl
  · exact ⟨_, _, _, rfl, by decide, Or.inr ⟨rfl, rfl, rfl⟩⟩
  · exact ⟨_, _, _, rfl, by decide, Or.inr ⟨rfl, rfl, rfl⟩⟩
  · exact ⟨_, _, _, rfl, by decide, Or.inr ⟨rfl, rfl, rfl⟩⟩
  · exact ⟨_, _, _, rfl, by decide, Or.inr ⟨rfl, rfl, rfl⟩⟩
  · exact ⟨_, _, _, rfl, by decide, Or.inr ⟨rfl, rfl, rfl⟩⟩
  · exact ⟨_, _, _, rfl, by decide, Or.inr ⟨rfl, rfl, rfl⟩⟩
  · exact ⟨_, _, _, rfl, by decide, Or.inr ⟨rfl, rfl, rfl⟩⟩
theorem fp1_1_19 : FpOk 1 19 5 1 true := fun ci h => by
  rcases xSub_1 h with rfl | rfl | rfl | rfl | rfl | rfl | rfl
  · exact ⟨_, _, _, rfl, by decide, Or.inr ⟨rfl, rfl, rfl⟩⟩
  · exact ⟨_, _, _, rfl, by decide, Or.inr ⟨rfl, rfl, rfl⟩⟩
  · exact ⟨_, _, _, rfl, by decide, Or.inr ⟨rfl, rfl, rfl⟩⟩
  · exact ⟨_, _, _, rfl, by decide, Or.inr ⟨rfl, rfl, rfl⟩⟩
  · exact ⟨_, _, _, rfl, by decide, Or.inr ⟨rfl, rfl, rfl⟩⟩
  · exact ⟨_, _, _, rfl, by decide, Or.inr ⟨rfl, rfl, rfl⟩⟩
  · exact ⟨_, _, _, rfl, by decide, Or.inr ⟨rfl, rfl, rfl⟩⟩
theorem fp1_1_22 : FpOk 1 22 0 1 true := fun ci h => by
  rcases xSub_1 h with rfl | rfl | rfl | rfl | rfl | rfl | rfl
  · exact ⟨_, _, _, rfl, by decide, Or.inr ⟨rfl, rfl, rfl⟩⟩
  · exact ⟨_, _, _, rfl, by decide, Or.inr ⟨rfl, rfl, rfl⟩⟩
  · exact ⟨_, _, _, rfl, by decide, Or.inr ⟨rfl, rfl, rfl⟩⟩
  · exact ⟨_, _, _, rfl, by decide, Or.inr ⟨rfl, rfl, rfl⟩⟩
  · exact ⟨_, _, _, rfl, by decide, Or.inr ⟨rfl, rfl, rfl⟩⟩
  · exact ⟨_, _, _, rfl, by decide, Or.inr ⟨rfl, rfl, rfl⟩⟩
  · exact ⟨_, _, _, rfl, by decide, Or.inr ⟨rfl, rfl, rfl⟩⟩
theorem fp1_1_26 : FpOk 1 26 1 1 true := fun ci h => by
  rcases xSub_1 h with rfl | rfl | rfl | rfl | rfl | rfl | rfl
  · exact ⟨_, _, _, rfl, by decide, Or.inr ⟨rfl, rfl, rfl⟩⟩
  · exact ⟨_, _, _, rfl, by decide, Or.inr ⟨rfl, rfl, rfl⟩⟩
  · exact ⟨_, _, _, rfl, by decide, Or.inr ⟨rfl, rfl, rfl⟩⟩
  · exact ⟨_, _, _, rfl, by decide, Or.inr ⟨rfl, rfl, rfl⟩⟩
  · exact ⟨_, _, _, rfl, by decide, Or.inr ⟨rfl, rfl, rfl⟩⟩
  · exact ⟨_, _, _, rfl, by decide, Or.inr ⟨rfl, rfl, rfl⟩⟩
  · exact ⟨_, _, _, rfl, by decide, Or.inr ⟨rfl, rfl, rfl⟩⟩
theorem fp1_1_29 : FpOk 1 29 2 1 true := fun ci h => by
  rcases xSub_1 h with rfl | rfl | rfl | rfl | rfl | rfl | rfl
  · exact ⟨_, _, _, rfl, by decide, Or.inr ⟨rfl, rfl, rfl⟩⟩
  · exact ⟨_, _, _, rfl, by decide, Or.inr ⟨rfl, rfl, rfl⟩⟩
  · exact ⟨_, _, _, rfl, by decide, Or.inr ⟨rfl, rfl, rfl⟩⟩
  · exact ⟨_, _, _, rfl, by decide, Or.inr ⟨rfl, rfl, rfl⟩⟩
  · exact ⟨_, _, _, rfl, by decide, Or.inr ⟨rfl, rfl, rfl⟩⟩
  · exact ⟨_, _, _, rfl, by decide, Or.inr ⟨rfl, rfl, rfl⟩⟩
  · exact ⟨_, _, _, rfl, by decide, Or.inr ⟨rfl, rfl, rfl⟩⟩
theorem fp1_2_14 : FpOk 2 14 1 2 true := fun ci h => by
  obtain rfl := xSub_o h (by decide) (by decide) (by decide) (by decide)
  exact ⟨_, _, _, rfl, by decide, Or.inr ⟨rfl, rfl, rfl⟩⟩
theorem fp1_2_20 : FpOk 2 20 2 2 true := fun ci h => by
  obtain rfl := xSub_o h (by decide) (by decide) (by decide) (by decide)
  exact ⟨_, _, _, rfl, by decide, Or.inr ⟨rfl, rfl, rfl⟩⟩
theorem fp1_2_23 : FpOk 2 23 0 2 true := fun ci h => by
  obtain rfl := xSub_o h (by decide) (by decide) (by decide) (by decide)
  exact ⟨_, _, _, rfl, by decide, Or.inr ⟨rfl, rfl, rfl⟩⟩
theorem fp1_6_9 : FpOk 6 9 0 6 true := fun ci h => by
  obtain rfl := xSub_o h (by decide) (by decide) (by decide) (by decide)
  exact ⟨_, _, _, rfl, by decide, Or.inr ⟨rfl, rfl, rfl⟩⟩
theorem fp1_8_7 : FpOk 8 7 0 8 true := fun ci h => by
  obtain rfl := xSub_o h (by decide) (by decide) (by decide) (by decide)
  exact ⟨_, _, _, rfl, by decide, Or.inr ⟨rfl, rfl, rfl⟩⟩
theorem fp1_8_19 : FpOk 8 19 1 8 true := fun ci h => by
  obtain rfl := xSub_o h (by decide) (by decide) (by decide) (by decide)
  exact ⟨_, _, _, rfl, by decide, Or.inr ⟨rfl, rfl, rfl⟩⟩
theorem fp1_8_23 : FpOk 8 23 2 8 true := fun ci h => by
  obtain rfl := xSub_o h (by decide) (by decide) (by decide) (by decide)
  exact ⟨_, _, _, rfl, by decide, Or.inr ⟨rfl, rfl, rfl⟩⟩
theorem fp1_11_16 : FpOk 11 16 0 11 true := fun ci h => by
  obtain rfl := xSub_o h (by decide) (by decide) (by decide) (by decide)
  exact ⟨_, _, _, rfl, by decide, Or.inr ⟨rfl, rfl, rfl⟩⟩
theorem fp1_11_20 : FpOk 11 20 1 11 true := fun ci h => by
  obtain rfl := xSub_o h (by decide) (by decide) (by decide) (by decide)
  exact ⟨_, _, _, rfl, by decide, Or.inr ⟨rfl, rfl, rfl⟩⟩
theorem fp1_11_23 : FpOk 11 23 2 11 true := fun ci h => by
  obtain rfl := xSub_o h (by decide) (by decide) (by decide) (by decide)
  exact ⟨_, _, _, rfl, by decide, Or.inr ⟨rfl, rfl, rfl⟩⟩
theorem fp1_11_26 : FpOk 11 26 3 11 true := fun ci h => by
  obtain rfl := xSub_o h (by decide) (by decide) (by decide) (by decide)
  exact ⟨_, _, _, rfl, by decide, Or.inr ⟨rfl, rfl, rfl⟩⟩
theorem fp1_11_29 : FpOk 11 29 4 11 true := fun ci h => by
  obtain rfl := xSub_o h (by decide) (by decide) (by decide) (by decide)
  exact ⟨_, _, _, rfl, by decide, Or.inr ⟨rfl, rfl, rfl⟩⟩
theorem fp1_11_32 : FpOk 11 32 5 11 true := fun ci h => by
  obtain rfl := xSub_o h (by decide) (by decide) (by decide) (by decide)
  exact ⟨_, _, _, rfl, by decide, Or.inr ⟨rfl, rfl, rfl⟩⟩
theorem fp1_11_35 : FpOk 11 35 6 11 true := fun ci h => by
  obtain rfl := xSub_o h (by decide) (by decide) (by decide) (by decide)
  exact ⟨_, _, _, rfl, by decide, Or.inr ⟨rfl, rfl, rfl⟩⟩
theorem fp1_11_38 : FpOk 11 38 7 11 true := fun ci h => by
  obtain rfl := xSub_o h (by decide) (by decide) (by decide) (by decide)
  exact ⟨_, _, _, rfl, by decide, Or.inr ⟨rfl, rfl, rfl⟩⟩
theorem fp1_11_41 : FpOk 11 41 8 11 true := fun ci h => by
  obtain rfl := xSub_o h (by decide) (by decide) (by decide) (by decide)
  exact ⟨_, _, _, rfl, by decide, Or.inr ⟨rfl, rfl, rfl⟩⟩
theorem fp1_11_49 : FpOk 11 49 9 11 true := fun ci h => by
  obtain rfl := xSub_o h (by decide) (by decide) (by decide) (by decide)
  exact ⟨_, _, _, rfl, by decide, Or.inr ⟨rfl, rfl, rfl⟩⟩
theorem fp1_11_53 : FpOk 11 53 10 11 true := fun ci h => by
  obtain rfl := xSub_o h (by decide) (by decide) (by decide) (by decide)
  exact ⟨_, _, _, rfl, by decide, Or.inr ⟨rfl, rfl, rfl⟩⟩
theorem fp1_11_59 : FpOk 11 59 11 11 true := fun ci h => by
  obtain rfl := xSub_o h (by decide) (by decide) (by decide) (by decide)
  exact ⟨_, _, _, rfl, by decide, Or.inr ⟨rfl, rfl, rfl⟩⟩
theorem fp1_11_63 : FpOk 11 63 14 11 true := fun ci h => by
  obtain rfl := xSub_o h (by decide) (by decide) (by decide) (by decide)
  exact ⟨_, _, _, rfl, by decide, Or.inl rfl⟩
theorem fp1_12_9 : FpOk 12 9 1 12 true := fun ci h => by
  obtain rfl := xSub_o h (by decide) (by decide) (by decide) (by decide)
  exact ⟨_, _, _, rfl, by decide, Or.inr ⟨rfl, rfl, rfl⟩⟩
theorem fp1_12_15 : FpOk 12 15 2 12 true := fun ci h => by
  obtain rfl := xSub_o h (by decide) (by decide) (by decide) (by decide)
  exact ⟨_, _, _, rfl, by decide, Or.inr ⟨rfl, rfl, rfl⟩⟩
theorem fp1_12_18 : FpOk 12 18 3 12 true := fun ci h => by
  obtain rfl := xSub_o h (by decide) (by decide) (by decide) (by decide)
  exact ⟨_, _, _, rfl, by decide, Or.inr ⟨rfl, rfl, rfl⟩⟩
theorem fp1_12_21 : FpOk 12 21 10 12 true := fun ci h => by
  obtain rfl := xSub_o h (by decide) (by decide) (by decide) (by decide)
  exact ⟨_, _, _, rfl, by decide, Or.inr ⟨rfl, rfl, rfl⟩⟩
theorem fp1_12_24 : FpOk 12 24 11 12 true := fun ci h => by
  obtain rfl := xSub_o h (by decide) (by decide) (by decide) (by decide)
  exact ⟨_, _, _, rfl, by decide, Or.inr ⟨rfl, rfl, rfl⟩⟩
theorem fp1_12_28 : FpOk 12 28 12 12 true := fun ci h => by
  obtain rfl := xSub_o h (by decide) (by decide) (by decide) (by decide)
  exact ⟨_, _, _, rfl, by decide, Or.inr ⟨rfl, rfl, rfl⟩⟩
theorem fp1_12_31 : FpOk 12 31 13 12 true := fun ci h => by
  obtain rfl := xSub_o h (by decide) (by decide) (by decide) (by decide)
  exact ⟨_, _, _, rfl, by decide, Or.inr ⟨rfl, rfl, rfl⟩⟩
theorem fp1_12_34 : FpOk 12 34 14 12 true := fun ci h => by
  obtain rfl := xSub_o h (by decide) (by decide) (by decide) (by decide)
  exact ⟨_, _, _, rfl, by decide, Or.inr ⟨rfl, rfl, rfl⟩⟩
theorem fp1_12_37 : FpOk 12 37 16 12 true := fun ci h => by
  obtain rfl := xSub_o h (by decide) (by decide) (by decide) (by decide)
  exact ⟨_, _, _, rfl, by decide, Or.inr ⟨rfl, rfl, rfl⟩⟩
theorem fp1_12_40 : FpOk 12 40 17 12 true := fun ci h => by
  obtain rfl := xSub_o h (by decide) (by decide) (by decide) (by decide)
  exact ⟨_, _, _, rfl, by decide, Or.inr ⟨rfl, rfl, rfl⟩⟩
theorem fp1_12_43 : FpOk 12 43 19 12 true := fun ci h => by
  obtain rfl := xSub_o h (by decide) (by decide) (by decide) (by decide)
  exact ⟨_, _, _, rfl, by decide, Or.inr ⟨rfl, rfl, rfl⟩⟩
theorem fp1_17_7 : FpOk 17 7 0 0 true := fun ci h => by
  obtain rfl := xSub_o h (by decide) (by decide) (by decide) (by decide)
  exact ⟨_, _, _, rfl, by decide, Or.inl rfl⟩
def xLP0 : List ((Nat × Nat) × (Nat × Nat)) := [((0, 9), (1, 0)), ((0, 48), (2, 0)), ((0, 63), (0, 0)), ((2, 93), (3, 2)), ((2, 113), (4, 2)), ((6, 15), (1, 6)), ((6, 19), (2, 6)), ((6, 22), (3, 6)), ((6, 25), (4, 6)), ((6, 28), (5, 6)), ((8, 26), (3, 8)), ((8, 33), (4, 8)), ((11, 63), (14, 11)), ((11, 75), (12, 11)), ((11, 104), (1, 6)), ((11, 109), (2, 6)), ((11, 130), (3, 6)), ((11, 133), (4, 6)), ((11, 136), (5, 6)), ((11, 158), (13, 11)), ((11, 272), (15, 11)), ((11, 275), (16, 11)), ((12, 58), (6, 12)), ((12, 61), (7, 12)), ((12, 64), (8, 12)), ((12, 85), (5, 12)), ((12, 88), (9, 12)), ((12, 207), (15, 12)), ((12, 214), (18, 12)), ((12, 239), (20, 12)), ((12, 245), (22, 12)), ((12, 248), (21, 12)), ((12, 261), (23, 12)), ((12, 276), (4, 12))]
def xLP1 : List ((Nat × Nat) × (Nat × Nat)) := [((0, 9), (1, 0)), ((1, 10), (3, 1)), ((1, 16), (4, 1)), ((1, 19), (5, 1)), ((1, 22), (0, 1)), ((1, 26), (1, 1)), ((1, 29), (2, 1)), ((2, 14), (1, 2)), ((2, 20), (2, 2)), ((2, 23), (0, 2)), ((6, 9), (0, 6)), ((8, 7), (0, 8)), ((8, 19), (1, 8)), ((8, 23), (2, 8)), ((11, 16), (0, 11)), ((11, 20), (1, 11)), ((11, 23), (2, 11)), ((11, 26), (3, 11)), ((11, 29), (4, 11)), ((11, 32), (5, 11)), ((11, 35), (6, 11)), ((11, 38), (7, 11)), ((11, 41), (8, 11)), ((11, 49), (9, 11)), ((11, 53), (10, 11)), ((11, 59), (11, 11)), ((11, 63), (14, 11)), ((12, 9), (1, 12)), ((12, 15), (2, 12)), ((12, 18), (3, 12)), ((12, 21), (10, 12)), ((12, 24), (11, 12)), ((12, 28), (12, 12)), ((12, 31), (13, 12)), ((12, 34), (14, 12)), ((12, 37), (16, 12)), ((12, 40), (17, 12)), ((12, 43), (19, 12)), ((17, 7), (0, 0))]
set_option maxRecDepth 20000 in
theorem xLF_ok : ∀ q ∈ xLF, FlOk q.1.1 q.1.2 q.2.1 q.2.2 := List.forall_mem_cons.mpr ⟨fl_0_9, List.forall_mem_cons.mpr ⟨fl_0_48, List.forall_mem_cons.mpr ⟨fl_0_63, List.forall_mem_cons.mpr ⟨fl_1_10, List.forall_mem_cons.mpr ⟨fl_1_16, List.forall_mem_cons.mpr ⟨fl_1_19, List.forall_mem_cons.mpr ⟨fl_1_22, List.forall_mem_cons.mpr ⟨fl_1_26, List.forall_mem_cons.mpr ⟨fl_1_29, List.forall_mem_cons.mpr ⟨fl_1_41, List.forall_mem_cons.mpr ⟨fl_1_60, List.forall_mem_cons.mpr ⟨fl_2_14, List.forall_mem_cons.mpr ⟨fl_2_20, List.forall_mem_cons.mpr ⟨fl_2_23, List.forall_mem_cons.mpr ⟨fl_2_40, List.forall_mem_cons.mpr ⟨fl_2_51, List.forall_mem_cons.mpr ⟨fl_2_69, List.forall_mem_cons.mpr ⟨fl_2_74, List.forall_mem_cons.mpr ⟨fl_2_77, List.forall_mem_cons.mpr ⟨fl_2_80, List.forall_mem_cons.mpr ⟨fl_2_83, List.forall_mem_cons.mpr ⟨fl_2_93, List.forall_mem_cons.mpr ⟨fl_2_113, List.forall_mem_cons.mpr ⟨fl_3_11, List.forall_mem_cons.mpr ⟨fl_3_17, List.forall_mem_cons.mpr ⟨fl_4_11, List.forall_mem_cons.mpr ⟨fl_4_17, List.forall_mem_cons.mpr ⟨fl_4_20, List.forall_mem_cons.mpr ⟨fl_5_7, List.forall_mem_cons.mpr ⟨fl_5_19, List.forall_mem_cons.mpr ⟨fl_6_9, List.forall_mem_cons.mpr ⟨fl_6_15, List.forall_mem_cons.mpr ⟨fl_6_19, List.forall_mem_cons.mpr ⟨fl_6_22, List.forall_mem_cons.mpr ⟨fl_6_25, List.forall_mem_cons.mpr ⟨fl_6_28, List.forall_mem_cons.mpr ⟨fl_7_11, List.forall_mem_cons.mpr ⟨fl_7_17, List.forall_mem_cons.mpr ⟨fl_7_20, List.forall_mem_cons.mpr ⟨fl_7_23, List.forall_mem_cons.mpr ⟨fl_7_39, List.forall_mem_cons.mpr ⟨fl_8_7, List.forall_mem_cons.mpr ⟨fl_8_19, List.forall_mem_cons.mpr ⟨fl_8_23, List.forall_mem_cons.mpr ⟨fl_8_26, List.forall_mem_cons.mpr ⟨fl_8_33, List.forall_mem_cons.mpr ⟨fl_9_7, List.forall_mem_cons.mpr ⟨fl_9_19, List.forall_mem_cons.mpr ⟨fl_10_17, List.forall_mem_cons.mpr ⟨fl_10_33, List.forall_mem_cons.mpr ⟨fl_10_37, List.forall_mem_cons.mpr ⟨fl_11_16, List.forall_mem_cons.mpr ⟨fl_11_20, List.forall_mem_cons.mpr ⟨fl_11_23, List.forall_mem_cons.mpr ⟨fl_11_26, List.forall_mem_cons.mpr ⟨fl_11_29, List.forall_mem_cons.mpr ⟨fl_11_32, List.forall_mem_cons.mpr ⟨fl_11_35, List.forall_mem_cons.mpr ⟨fl_11_38, List.forall_mem_cons.mpr ⟨fl_11_41, List.forall_mem_cons.mpr ⟨fl_11_49, List.forall_mem_cons.mpr ⟨fl_11_53, List.forall_mem_cons.mpr ⟨fl_11_59, List.forall_mem_cons.mpr ⟨fl_11_63, List.forall_mem_cons.mpr ⟨fl_11_75, List.forall_mem_cons.mpr ⟨fl_11_98, List.forall_mem_cons.mpr ⟨fl_11_104, List.forall_mem_cons.mpr ⟨fl_11_109, List.forall_mem_cons.mpr ⟨fl_11_116, List.forall_mem_cons.mpr ⟨fl_11_121, List.forall_mem_cons.mpr ⟨fl_11_127, List.forall_mem_cons.mpr ⟨fl_11_130, List.forall_mem_cons.mpr ⟨fl_11_133, List.forall_mem_cons.mpr ⟨fl_11_136, List.forall_mem_cons.mpr ⟨fl_11_158, List.forall_mem_cons.mpr ⟨fl_11_272, List.forall_mem_cons.mpr ⟨fl_11_275, List.forall_mem_cons.mpr ⟨fl_11_332, List.forall_mem_cons.mpr ⟨fl_12_9, List.forall_mem_cons.mpr ⟨fl_12_15, List.forall_mem_cons.mpr ⟨fl_12_18, List.forall_mem_cons.mpr ⟨fl_12_21, List.forall_mem_cons.mpr ⟨fl_12_24, List.forall_mem_cons.mpr ⟨fl_12_28, List.forall_mem_cons.mpr ⟨fl_12_31, List.forall_mem_cons.mpr ⟨fl_12_34, List.forall_mem_cons.mpr ⟨fl_12_37, List.forall_mem_cons.mpr ⟨fl_12_40, List.forall_mem_cons.mpr ⟨fl_12_43, List.forall_mem_cons.mpr ⟨fl_12_58, List.forall_mem_cons.mpr ⟨fl_12_61, List.forall_mem_cons.mpr ⟨fl_12_64, List.forall_mem_cons.mpr ⟨fl_12_85, List.forall_mem_cons.mpr ⟨fl_12_88, List.forall_mem_cons.mpr ⟨fl_12_207, List.forall_mem_cons.mpr ⟨fl_12_214, List.forall_mem_cons.mpr ⟨fl_12_239, List.forall_mem_cons.mpr ⟨fl_12_245, List.forall_mem_cons.mpr ⟨fl_12_248, List.forall_mem_cons.mpr ⟨fl_12_261, List.forall_mem_cons.mpr ⟨fl_12_276, List.forall_mem_cons.mpr ⟨fl_17_7, fun _ h => absurd h List.not_mem_nil⟩⟩⟩⟩⟩⟩⟩⟩⟩⟩⟩⟩⟩⟩⟩⟩⟩⟩⟩⟩⟩⟩⟩⟩⟩⟩⟩⟩⟩⟩⟩⟩⟩⟩⟩⟩⟩⟩⟩⟩⟩⟩⟩⟩⟩⟩⟩⟩⟩⟩⟩⟩⟩⟩⟩⟩⟩⟩⟩⟩⟩⟩⟩⟩⟩⟩⟩⟩⟩⟩⟩⟩⟩⟩⟩⟩⟩⟩⟩⟩⟩⟩⟩⟩⟩⟩⟩⟩⟩⟩⟩⟩⟩⟩⟩⟩⟩⟩⟩⟩⟩⟩
set_option maxRecDepth 20000 in
theorem xLP0_ok : ∀ q ∈ xLP0, FlOk q.1.1 q.1.2 q.2.1 q.2.2 ∧ FpOk q.1.1 q.1.2 q.2.1 q.2.2 false := List.forall_mem_cons.mpr ⟨⟨fl_0_9, fp0_0_9⟩, List.forall_mem_cons.mpr ⟨⟨fl_0_48, fp0_0_48⟩, List.forall_mem_cons.mpr ⟨⟨fl_0_63, fp0_0_63⟩, List.forall_mem_cons.mpr ⟨⟨fl_2_93, fp0_2_93⟩, List.forall_mem_cons.mpr ⟨⟨fl_2_113, fp0_2_113⟩, List.forall_mem_cons.mpr ⟨⟨fl_6_15, fp0_6_15⟩, List.forall_mem_cons.mpr ⟨⟨fl_6_19, fp0_6_19⟩, List.forall_mem_cons.mpr ⟨⟨fl_6_22, fp0_6_22⟩, List.forall_mem_cons.mpr ⟨⟨fl_6_25, fp0_6_25⟩, List.forall_mem_cons.mpr ⟨⟨fl_6_28, fp0_6_28⟩, List.forall_mem_cons.mpr ⟨⟨fl_8_26, fp0_8_26⟩, List.forall_mem_cons.mpr ⟨⟨fl_8_33, fp0_8_33⟩, List.forall_mem_cons.mpr ⟨⟨fl_11_63, fp0_11_63⟩, List.forall_mem_cons.mpr ⟨⟨fl_11_75, fp0_11_75⟩, List.forall_mem_cons.mpr ⟨⟨fl_11_104, fp0_11_104⟩, List.forall_mem_cons.mpr ⟨⟨fl_11_109, fp0_11_109⟩, List.forall_mem_cons.mpr ⟨⟨fl_11_130, fp0_11_130⟩, List.forall_mem_cons.mpr ⟨⟨fl_11_133, fp0_11_133⟩, List.forall_mem_cons.mpr ⟨⟨fl_11_136, fp0_11_136⟩, List.forall_mem_cons.mpr ⟨⟨fl_11_158, fp0_11_158⟩, List.forall_mem_cons.mpr ⟨⟨fl_11_272, fp0_11_272⟩, List.forall_mem_cons.mpr ⟨⟨fl_11_275, fp0_11_275⟩, List.forall_mem_cons.mpr ⟨⟨fl_12_58, fp0_12_58⟩, List.forall_mem_cons.mpr ⟨⟨fl_12_61, fp0_12_61⟩, List.forall_mem_cons.mpr ⟨⟨fl_12_64, fp0_12_64⟩, List.forall_mem_cons.mpr ⟨⟨fl_12_85, fp0_12_85⟩, List.forall_mem_cons.mpr ⟨⟨fl_12_88, fp0_12_88⟩, List.forall_mem_cons.mpr ⟨⟨fl_12_207, fp0_12_207⟩, List.forall_mem_cons.mpr ⟨⟨fl_12_214, fp0_12_214⟩, List.forall_mem_cons.mpr ⟨⟨fl_12_239, fp0_12_239⟩, List.forall_mem_cons.mpr ⟨⟨fl_12_245, fp0_12_245⟩, List.forall_mem_cons.mpr ⟨⟨fl_12_248, fp0_12_248⟩, List.forall_mem_cons.mpr ⟨⟨fl_12_261, fp0_12_261⟩, List.forall_mem_cons.mpr ⟨⟨fl_12_276, fp0_12_276⟩, fun _ h => absurd h List.not_mem_nil⟩⟩⟩⟩⟩⟩⟩⟩⟩⟩⟩⟩⟩⟩⟩⟩⟩⟩⟩⟩⟩⟩⟩⟩⟩⟩⟩⟩⟩⟩⟩⟩⟩⟩
theorem xLP1_ok : ∀ q ∈ xLP1, FlOk q.1.1 q.1.2 q.2.1 q.2.2 ∧ FpOk q.1.1 q.1.2 q.2.1 q.2.2 true := List.forall_mem_cons.mpr ⟨⟨fl_0_9, fp1_0_9⟩, List.forall_mem_cons.mpr ⟨⟨fl_1_10, fp1_1_10⟩, List.forall_mem_cons.mpr ⟨⟨fl_1_16, fp1_1_16⟩, List.forall_mem_cons.mpr ⟨⟨fl_1_19, fp1_1_19⟩, List.forall_mem_cons.mpr ⟨⟨fl_1_22, fp1_1_22⟩, List.forall_mem_cons.mpr ⟨⟨fl_1_26, fp1_1_26⟩, List.forall_mem_cons.mpr ⟨⟨fl_1_29, fp1_1_29⟩, List.forall_mem_cons.mpr ⟨⟨fl_2_14, fp1_2_14⟩, List.forall_mem_cons.mpr ⟨⟨fl_2_20, fp1_2_20⟩, List.forall_mem_cons.mpr ⟨⟨fl_2_23, fp1_2_23⟩, List.forall_mem_cons.mpr ⟨⟨fl_6_9, fp1_6_9⟩, List.forall_mem_cons.mpr ⟨⟨fl_8_7, fp1_8_7⟩, List.forall_mem_cons.mpr ⟨⟨fl_8_19, fp1_8_19⟩, List.forall_mem_cons.mpr ⟨⟨fl_8_23, fp1_8_23⟩, List.forall_mem_cons.mpr ⟨⟨fl_11_16, fp1_11_16⟩, List.forall_mem_cons.mpr ⟨⟨fl_11_20, fp1_11_20⟩, List.forall_mem_cons.mpr ⟨⟨fl_11_23, fp1_11_23⟩, List.forall_mem_cons.mpr ⟨⟨fl_11_26, fp1_11_26⟩, List.forall_mem_cons.mpr ⟨⟨fl_11_29, fp1_11_29⟩, List.forall_mem_cons.mpr ⟨⟨fl_11_32, fp1_11_32⟩, List.forall_mem_cons.mpr ⟨⟨fl_11_35, fp1_11_35⟩, List.forall_mem_cons.mpr ⟨⟨fl_11_38, fp1_11_38⟩, List.forall_mem_cons.mpr ⟨⟨fl_11_41, fp1_11_41⟩, List.forall_mem_cons.mpr ⟨⟨fl_11_49, fp1_11_49⟩, List.forall_mem_cons.mpr ⟨⟨fl_11_53, fp1_11_53⟩, List.forall_mem_cons.mpr ⟨⟨fl_11_59, fp1_11_59⟩, List.forall_mem_cons.mpr ⟨⟨fl_11_63, fp1_11_63⟩, List.forall_mem_cons.mpr ⟨⟨fl_12_9, fp1_12_9⟩, List.forall_mem_cons.mpr ⟨⟨fl_12_15, fp1_12_15⟩, List.forall_mem_cons.mpr ⟨⟨fl_12_18, fp1_12_18⟩, List.forall_mem_cons.mpr ⟨⟨fl_12_21, fp1_12_21⟩, List.forall_mem_cons.mpr ⟨⟨fl_12_24, fp1_12_24⟩, List.forall_mem_cons.mpr ⟨⟨fl_12_28, fp1_12_28⟩, List.forall_mem_cons.mpr ⟨⟨fl_12_31, fp1_12_31⟩, List.forall_mem_cons.mpr ⟨⟨fl_12_34, fp1_12_34⟩, List.forall_mem_cons.mpr ⟨⟨fl_12_37, fp1_12_37⟩, List.forall_mem_cons.mpr ⟨⟨fl_12_40, fp1_12_40⟩, List.forall_mem_cons.mpr ⟨⟨fl_12_43, fp1_12_43⟩, List.forall_mem_cons.mpr ⟨⟨fl_17_7, fp1_17_7⟩, fun _ h => absurd h List.not_mem_nil⟩⟩⟩⟩⟩⟩⟩⟩⟩⟩⟩⟩⟩⟩⟩⟩⟩⟩⟩⟩⟩⟩⟩⟩⟩⟩⟩⟩⟩⟩⟩⟩⟩⟩⟩⟩⟩⟩⟩
theorem xLC_ok : ∀ q ∈ xLC, Cond.constant (xCn q.1.1) q.1.2 (Int32.ofInt q.2) ∈ BW := List.forall_mem_cons.mpr ⟨(bw w_5_107 rfl), List.forall_mem_cons.mpr ⟨(bw w_3_93 rfl), List.forall_mem_cons.mpr ⟨(bw w_3_57 rfl), List.forall_mem_cons.mpr ⟨(bw w_3_58 rfl), List.forall_mem_cons.mpr ⟨(bw w_3_59 rfl), fun _ h => absurd h List.not_mem_nil⟩⟩⟩⟩⟩
theorem xLL_ok : ∀ q ∈ xLL, Cond.constantLong (xCn q.1.1) q.1.2 (Int64.ofInt q.2) ∈ BW := List.forall_mem_cons.mpr ⟨(bw w_3_134 rfl), List.forall_mem_cons.mpr ⟨(bw w_5_186 rfl), fun _ h => absurd h List.not_mem_nil⟩⟩
theorem xLN_ok : ∀ q ∈ xLN, ∃ C T N ty, xClOk q.2 C T N ty ∧ Cond.classLink (xCn q.1.1) q.1.2 C ∈ BW ∧ Cond.instantiable C N ∈ BW ∧ Cond.initialized C ∈ BW := List.forall_mem_cons.mpr ⟨⟨_, _, _, _, xCl_6, (bw w_1_87 rfl), (bw w_1_88 rfl), (bw w_0_15 rfl)⟩, List.forall_mem_cons.mpr ⟨⟨_, _, _, _, xCl_8, (bw w_0_68 rfl), (bw w_0_35 rfl), (bw w_0_2 rfl)⟩, List.forall_mem_cons.mpr ⟨⟨_, _, _, _, xCl_8, (bw w_0_34 rfl), (bw w_0_35 rfl), (bw w_0_2 rfl)⟩, List.forall_mem_cons.mpr ⟨⟨_, _, _, _, xCl_2, (bw w_0_62 rfl), (bw w_0_63 rfl), (bw w_0_4 rfl)⟩, List.forall_mem_cons.mpr ⟨⟨_, _, _, _, xCl_0, (bw w_0_86 rfl), (bw w_0_87 rfl), (bw w_0_7 rfl)⟩, List.forall_mem_cons.mpr ⟨⟨_, _, _, _, xCl_1, (bw w_1_238 rfl), (bw w_1_239 rfl), (bw w_0_13 rfl)⟩, List.forall_mem_cons.mpr ⟨⟨_, _, _, _, xCl_5, (bw w_1_78 rfl), (bw w_1_79 rfl), (bw w_0_14 rfl)⟩, List.forall_mem_cons.mpr ⟨⟨_, _, _, _, xCl_9, (bw w_1_173 rfl), (bw w_1_174 rfl), (bw w_0_16 rfl)⟩, List.forall_mem_cons.mpr ⟨⟨_, _, _, _, xCl_3, (bw w_1_186 rfl), (bw w_1_187 rfl), (bw w_0_17 rfl)⟩, List.forall_mem_cons.mpr ⟨⟨_, _, _, _, xCl_4, (bw w_1_199 rfl), (bw w_1_200 rfl), (bw w_0_18 rfl)⟩, List.forall_mem_cons.mpr ⟨⟨_, _, _, _, xCl_7, (bw w_1_212 rfl), (bw w_1_213 rfl), (bw w_0_19 rfl)⟩, List.forall_mem_cons.mpr ⟨⟨_, _, _, _, xCl_10, (bw w_1_225 rfl), (bw w_1_226 rfl), (bw w_0_20 rfl)⟩, List.forall_mem_cons.mpr ⟨⟨_, _, _, _, xCl_11, (bw w_0_26 rfl), (bw w_0_27 rfl), (bw w_0_1 rfl)⟩, List.forall_mem_cons.mpr ⟨⟨_, _, _, _, xCl_12, (bw w_4_77 rfl), (bw w_4_78 rfl), (bw w_0_8 rfl)⟩, fun _ h => absurd h List.not_mem_nil⟩⟩⟩⟩⟩⟩⟩⟩⟩⟩⟩⟩⟩⟩
theorem xLA_ok : ∀ q ∈ xLA, Cond.classLink (xCn q.1.1) q.1.2 "java/lang/Object" ∈ BW := List.forall_mem_cons.mpr ⟨(bw w_2_70 rfl), fun _ h => absurd h List.not_mem_nil⟩
theorem xLK_ok : ∀ q ∈ xLK, q.2 = 1 ∧ Cond.classLink (xCn q.1.1) q.1.2 "LaidQuarrel$Bottle" ∈ BW := List.forall_mem_cons.mpr ⟨⟨rfl, (bw w_1_238 rfl)⟩, fun _ h => absurd h List.not_mem_nil⟩
theorem xLG_ok : ∀ q ∈ xLG, Cond.fieldLink (xCn q.1.1) q.1.2 "java/util/ArrayList" "DEFAULTCAPACITY_EMPTY_ELEMENTDATA" "[Ljava/lang/Object;" ∈ BW := List.forall_mem_cons.mpr ⟨(bw w_0_98 rfl), fun _ h => absurd h List.not_mem_nil⟩
theorem xArr_int : Cond.arrayClass .int ∈ BW := bw w_0_61 rfl
theorem xArr_boolean : Cond.arrayClass .boolean ∈ BW := bw w_4_155 rfl
end
section
/-! THE SMALL MACHINE'S STATE AS A WORLD: own cell a stands at z + a; reading one instruction -/
def xR (z : Nat) (ex : Int → Nat) (x : Int) : Option Nat := if x = -1 then none else some (if 0 ≤ x then z + x.toNat else ex x)
def xV (z : Nat) (ex : Int → Nat) (v : AV) : Value := if v.1 = 1 then va_rf (xR z ex v.2) else if v.1 = 2 then .long (Int64.ofInt v.2) else .int (Int32.ofInt v.2)
def xF (z : Nat) (ex : Int → Nat) (h : Hp) (a : Nat) : List Value := (List.range (mFt (mK h a)).length).map fun k => xV z ex (mTag ((mFt (mK h a)).getD k 0), mC h a k)
def xC (z : Nat) (ex : Int → Nat) (cA : Nat → ClassId) (h : Hp) (a : Nat) : va_E :=
  if mK h a = 20 then .inl (cA 0, mL h a, .inl fun k => Int32.ofInt (mC h a k))
  else if mK h a = 21 then .inl (cA 1, mL h a, .inl fun k => Int32.ofInt (mC h a k))
  else if mK h a = 22 then .inl (cA 2, mL h a, .inr (.inr (.inr (.inr fun k => xR z ex (mC h a k)))))
  else .inr (mK h a, xF z ex h a)
/-- the heap H is the small machine's h, from z on; below z it is HB -/
def xP (D : va_G) (z : Nat) (ex : Int → Nat) (cA : Nat → ClassId) (HB : Heap) (h : Hp) (H : Heap) : Prop :=
  (∀ a, a < mN h → va_at D vwCl (z + a, xC z ex cA h a) H) ∧ H.size = z + mN h ∧ ∀ q : Nat, q < z → H[q]? = HB[q]?
theorem xV_int (z : Nat) (ex : Int → Nat) (x : Int) : xV z ex (0, x) = .int (Int32.ofInt x) := rfl
theorem xV_ref (z : Nat) (ex : Int → Nat) (x : Int) : xV z ex (1, x) = va_rf (xR z ex x) := rfl
theorem xV_long (z : Nat) (ex : Int → Nat) (x : Int) : xV z ex (2, x) = .long (Int64.ofInt x) := rfl
theorem xR_null (z : Nat) (ex : Int → Nat) : xR z ex (-1) = none := rfl
theorem xR_own {z : Nat} {ex : Int → Nat} {x : Int} (h : 0 ≤ x) : xR z ex x = some (z + x.toNat) := by
  unfold xR
  rw [if_neg (by omega), if_pos h]
theorem xR_ex {z : Nat} {ex : Int → Nat} {x : Int} (h : x < -1) : xR z ex x = some (ex x) := by
  unfold xR
  rw [if_neg (by omega), if_neg (by omega)]
theorem xV_cat {z : Nat} {ex : Int → Nat} {v : AV} (h : v.1 ≠ 2) : (xV z ex v).category = 1 := by
  unfold xV
  by_cases h1 : v.1 = 1
  · rw [if_pos h1]
    cases xR z ex v.2 <;> rfl
  · rw [if_neg h1, if_neg h]
    rfl
theorem xV_cats {z : Nat} {ex : Int → Nat} (st : List AV) : (st.map (xV z ex)).map (fun v => v.category) = st.map mCat := by
  rw [List.map_map]
  apply List.map_congr_left
  intro v _
  show (xV z ex v).category = mCat v
  by_cases h : v.1 = 2
  · obtain ⟨t, x⟩ := v
    subst h
    rfl
  · rw [xV_cat h]
    simp [mCat, h]
/-- the locals -/
def xLs (z : Nat) (ex : Int → Nat) (lv : List AV) : List (Nat × Value) := (List.range lv.length).filterMap fun i => match lv[i]? with
  | some v => if v.1 = 9 then none else some (i, xV z ex v)
  | none => none
def xAL (z : Nat) (ex : Int → Nat) (ls : Array Slot) (nL : Nat) (lv : List AV) : Prop := lv_has ls nL (xLs z ex lv) ∧ lv.length = nL
theorem xLs_mem {z : Nat} {ex : Int → Nat} {lv : List AV} {q : Nat × Value} : q ∈ xLs z ex lv ↔ ∃ v, lv[q.1]? = some v ∧ v.1 ≠ 9 ∧ q.2 = xV z ex v := by
  unfold xLs
  rw [List.mem_filterMap]
  constructor
  · rintro ⟨i, hi, h⟩
    cases hv : lv[i]? with
    | none => rw [hv] at h; cases h
    | some v =>
      rw [hv] at h
      by_cases h9 : v.1 = 9
      · simp [h9] at h
      · simp [h9] at h
        subst h
        exact ⟨v, hv, h9, rfl⟩
  · rintro ⟨v, h1, h2, h3⟩
    refine ⟨q.1, List.mem_range.mpr (List.getElem?_eq_some_iff.mp h1).1, ?_⟩
    rw [h1]
    simp [h2, ← h3]
theorem xAL.at {z : Nat} {ex : Int → Nat} {ls : Array Slot} {nL : Nat} {lv : List AV} (h : xAL z ex ls nL lv) {i : Nat} {v : AV} (hv : lv[i]? = some v) (h9 : v.1 ≠ 9) : ls[i]? = some (.val (xV z ex v)) :=
  h.1.2.2 (i, xV z ex v) (xLs_mem.mpr ⟨v, hv, h9, rfl⟩)
theorem mSet_spec {lv lv' : List AV} {i : Nat} {v : AV} (h : mSet lv i v = some lv') : i < lv.length ∧ (i = 0 ∨ (lv.getD (i - 1) (9, 0)).1 ≠ 2) ∧ ((v.1 = 2 ∧ i + 1 < lv.length ∧ lv' = (lv.set i v).set (i + 1) (9, 0)) ∨ (v.1 ≠ 2 ∧ lv' = lv.set i v)) := by
  unfold mSet at h
  split at h
  · rename_i h1
    refine ⟨h1.1, h1.2, ?_⟩
    split at h
    · rename_i h2
      split at h
      · rename_i h3
        exact Or.inl ⟨h2, h3, (Option.some.inj h).symm⟩
      · cases h
    · rename_i h2
      exact Or.inr ⟨h2, (Option.some.inj h).symm⟩
  · cases h
theorem xAL.set1 {z : Nat} {ex : Int → Nat} {ls' : Array Slot} {nL : Nat} {lv lv' : List AV} {i : Nat} {v : AV} (hl : lv.length = nL) (hm : mSet lv i v = some lv') (h2 : v.1 ≠ 2)
    (h : lv_has ls' nL ((i, xV z ex v) :: (xLs z ex lv).filter (fun q => !(q.1 == i) && !(q.1 + 1 == i && q.2.category == 2)))) : xAL z ex ls' nL lv' := by
  obtain ⟨h1, hp, hc⟩ := mSet_spec hm
  have e : lv' = lv.set i v := by
    rcases hc with ⟨c, -⟩ | ⟨-, c⟩
    · exact absurd c h2
    · exact c
  subst e
  refine ⟨⟨h.1, h.2.1, fun q hq => ?_⟩, by rw [List.length_set]; exact hl⟩
  obtain ⟨w, g1, g2, g3⟩ := xLs_mem.mp hq
  refine h.2.2 q ?_
  by_cases hi : q.1 = i
  · rw [hi, List.getElem?_set_self h1] at g1
    cases g1
    exact List.mem_cons.mpr (Or.inl (Prod.ext hi g3))
  · rw [List.getElem?_set_ne (Ne.symm hi)] at g1
    refine List.mem_cons.mpr (Or.inr (List.mem_filter.mpr ⟨xLs_mem.mpr ⟨w, g1, g2, g3⟩, ?_⟩))
    have hcat : q.1 + 1 = i → q.2.category = 1 := by
      intro e
      rcases hp with hp | hp
      · omega
      · rw [show i - 1 = q.1 by omega, List.getD_eq_getElem?_getD, g1] at hp
        rw [g3]
        exact xV_cat hp
    by_cases e : q.1 + 1 = i
    · simp [hi, hcat e]
    · simp [hi, e]
theorem xAL.set2 {z : Nat} {ex : Int → Nat} {ls' : Array Slot} {nL : Nat} {lv lv' : List AV} {i : Nat} {v : AV} (hl : lv.length = nL) (hm : mSet lv i v = some lv') (h2 : v.1 = 2)
    (h : lv_has ls' nL ((i, xV z ex v) :: (xLs z ex lv).filter (fun q => !(q.1 == i) && (!(q.1 == i + 1) && !(q.1 + 1 == i && q.2.category == 2))))) : xAL z ex ls' nL lv' := by
  obtain ⟨h1, hp, hc⟩ := mSet_spec hm
  obtain ⟨hi1, e⟩ : i + 1 < lv.length ∧ lv' = (lv.set i v).set (i + 1) (9, 0) := by
    rcases hc with ⟨-, c⟩ | ⟨c, -⟩
    · exact c
    · exact absurd h2 c
  subst e
  refine ⟨⟨h.1, h.2.1, fun q hq => ?_⟩, by rw [List.length_set, List.length_set]; exact hl⟩
  obtain ⟨w, g1, g2, g3⟩ := xLs_mem.mp hq
  refine h.2.2 q ?_
  by_cases hj : q.1 = i + 1
  · rw [hj, List.getElem?_set_self (by rw [List.length_set]; exact hi1)] at g1
    cases g1
    exact absurd rfl g2
  · rw [List.getElem?_set_ne (Ne.symm hj)] at g1
    by_cases hi : q.1 = i
    · rw [hi, List.getElem?_set_self h1] at g1
      cases g1
      exact List.mem_cons.mpr (Or.inl (Prod.ext hi g3))
    · rw [List.getElem?_set_ne (Ne.symm hi)] at g1
      refine List.mem_cons.mpr (Or.inr (List.mem_filter.mpr ⟨xLs_mem.mpr ⟨w, g1, g2, g3⟩, ?_⟩))
      have hcat : q.1 + 1 = i → q.2.category = 1 := by
        intro e
        rcases hp with hp | hp
        · omega
        · rw [show i - 1 = q.1 by omega, List.getD_eq_getElem?_getD, g1] at hp
          rw [g3]
          exact xV_cat hp
      by_cases e : q.1 + 1 = i
      · simp [hi, hj, hcat e]
      · simp [hi, hj, e]
/-- the heap's parts -/
theorem mK_put (h : Hp) (a k : Nat) (x : Int) (b : Nat) : mK (mPut h a k x) b = mK h b := rfl
theorem mL_put (h : Hp) (a k : Nat) (x : Int) (b : Nat) : mL (mPut h a k x) b = mL h b := rfl
theorem mN_put (h : Hp) (a k : Nat) (x : Int) : mN (mPut h a k x) = mN h := rfl
theorem mS_put (h : Hp) (a k : Nat) (x : Int) : mS (mPut h a k x) = mS h := rfl
theorem mC_put (h : Hp) (a k : Nat) (x : Int) (b j : Nat) : mC (mPut h a k x) b j = if b = a ∧ j = k then x else mC h b j := rfl
theorem mC_put_ne {h : Hp} {a k : Nat} {x : Int} {b : Nat} (hb : b ≠ a) (j : Nat) : mC (mPut h a k x) b j = mC h b j := by rw [mC_put, if_neg (fun q => hb q.1)]
theorem mN_new (h : Hp) (kd ln : Nat) (v : Nat → Int) : mN (mNew h kd ln v) = mN h + 1 := rfl
theorem mS_new (h : Hp) (kd ln : Nat) (v : Nat → Int) : mS (mNew h kd ln v) = mS h + ln := rfl
theorem mK_new (h : Hp) (kd ln : Nat) (v : Nat → Int) (b : Nat) : mK (mNew h kd ln v) b = if b = mN h then kd else mK h b := rfl
theorem mL_new (h : Hp) (kd ln : Nat) (v : Nat → Int) (b : Nat) : mL (mNew h kd ln v) b = if b = mN h then ln else mL h b := rfl
theorem mC_new (h : Hp) (kd ln : Nat) (v : Nat → Int) (b j : Nat) : mC (mNew h kd ln v) b j = if b = mN h then v j else mC h b j := rfl
theorem xC_put_ne {z : Nat} {ex : Int → Nat} {cA : Nat → ClassId} {h : Hp} {a k : Nat} {x : Int} {b : Nat} (hb : b ≠ a) : xC z ex cA (mPut h a k x) b = xC z ex cA h b := by
  simp only [xC, xF, mK_put, mL_put, mC_put_ne hb]
theorem xC_new_ne {z : Nat} {ex : Int → Nat} {cA : Nat → ClassId} {h : Hp} {kd ln : Nat} {v : Nat → Int} {b : Nat} (hb : b ≠ mN h) : xC z ex cA (mNew h kd ln v) b = xC z ex cA h b := by
  simp only [xC, xF, mK_new, mL_new, mC_new, if_neg hb]
theorem xP.put {D : va_G} {z : Nat} {ex : Int → Nat} {cA : Nat → ClassId} {HB : Heap} {h : Hp} {H H' : Heap} {a k : Nat} {x : Int} (hP : xP D z ex cA HB h H) (hz : H'.size = H.size) (ho : ∀ q, q ≠ z + a → H'[q]? = H[q]?)
    (hc : va_at D vwCl (z + a, xC z ex cA (mPut h a k x) a) H') : xP D z ex cA HB (mPut h a k x) H' := by
  obtain ⟨h1, h2, h3⟩ := hP
  refine ⟨fun b hb => ?_, by rw [hz, mN_put]; exact h2, fun q hq => by rw [ho q (by omega)]; exact h3 q hq⟩
  by_cases e : b = a
  · subst e
    exact hc
  · rw [xC_put_ne e]
    exact (h1 b hb).kept (ho _ (by show z + b ≠ z + a; omega))
theorem xP.new {D : va_G} {z : Nat} {ex : Int → Nat} {cA : Nat → ClassId} {HB : Heap} {h : Hp} {H H' : Heap} {kd ln : Nat} {v : Nat → Int} (hP : xP D z ex cA HB h H) (hz : H'.size = H.size + 1) (ho : ∀ q, q < H.size → H'[q]? = H[q]?)
    (hc : va_at D vwCl (z + mN h, xC z ex cA (mNew h kd ln v) (mN h)) H') : xP D z ex cA HB (mNew h kd ln v) H' := by
  obtain ⟨h1, h2, h3⟩ := hP
  refine ⟨fun b hb => ?_, by rw [hz, mN_new, h2]; rfl, fun q hq => by rw [ho q (by omega)]; exact h3 q hq⟩
  by_cases e : b = mN h
  · subst e
    exact hc
  · rw [xC_new_ne e]
    rw [mN_new] at hb
    exact (h1 b (by omega)).kept (ho _ (by show z + b < H.size; omega))
theorem xC_obj {z : Nat} {ex : Int → Nat} {cA : Nat → ClassId} {h : Hp} {a : Nat} (hk : mK h a < 13) : xC z ex cA h a = .inr (mK h a, xF z ex h a) := by
  unfold xC
  rw [if_neg (by omega), if_neg (by omega), if_neg (by omega)]
theorem xF_len {z : Nat} {ex : Int → Nat} {h : Hp} {a : Nat} : (xF z ex h a).length = (mFt (mK h a)).length := by simp [xF]
theorem xF_at {z : Nat} {ex : Int → Nat} {h : Hp} {a k : Nat} (hk : k < (mFt (mK h a)).length) : (xF z ex h a)[k]? = some (xV z ex (mTag ((mFt (mK h a)).getD k 0), mC h a k)) := by
  simp [xF, hk]
theorem xF_put {z : Nat} {ex : Int → Nat} {h : Hp} {a k : Nat} {x : Int} : xF z ex (mPut h a k x) a = (xF z ex h a).set k (xV z ex (mTag ((mFt (mK h a)).getD k 0), x)) := by
  apply List.ext_getElem?
  intro j
  rw [List.getElem?_set]
  by_cases e : k = j
  · subst e
    by_cases hk : k < (mFt (mK h a)).length
    · rw [xF_at (by rw [mK_put]; exact hk), if_pos rfl, if_pos (by rw [xF_len]; exact hk), mC_put, if_pos ⟨rfl, rfl⟩, mK_put]
    · rw [if_pos rfl, if_neg (by rw [xF_len]; exact hk), List.getElem?_eq_none (by rw [xF_len, mK_put]; omega)]
  · rw [if_neg e]
    by_cases hk : j < (mFt (mK h a)).length
    · rw [xF_at (by rw [mK_put]; exact hk), xF_at hk, mC_put, if_neg (fun q => e q.2.symm), mK_put]
    · rw [List.getElem?_eq_none (by rw [xF_len, mK_put]; omega), List.getElem?_eq_none (by rw [xF_len]; omega)]
theorem mAd_spec {h : Hp} {x : Int} {q : Nat} (e : mAd h x = some q) : 0 ≤ x ∧ q = x.toNat ∧ q < mN h := by
  unfold mAd at e
  split at e
  · rename_i h1
    cases e
    exact ⟨h1.1, rfl, h1.2⟩
  · cases e
theorem xR_ad {z : Nat} {ex : Int → Nat} {h : Hp} {x : Int} {q : Nat} (e : mAd h x = some q) : xR z ex x = some (z + q) := by
  obtain ⟨h1, h2, -⟩ := mAd_spec e
  rw [xR_own h1, h2]
theorem va_P1 {D : va_G} {cl : List vw_C} {q : Nat × va_E} {H : Heap} (h : va_at D cl q H) : va_P D cl [q] H := by
  intro k p hk
  have hz : k < 1 := (List.getElem?_eq_some_iff.mp hk).1
  rw [show k = 0 by omega] at hk
  cases hk
  exact h
theorem lookup_mem {α β : Type} [BEq α] [LawfulBEq α] {l : List (α × β)} {a : α} {b : β} (h : l.lookup a = some b) : (a, b) ∈ l := by
  induction l with
  | nil => cases h
  | cons p l ih =>
    obtain ⟨c, d⟩ := p
    rw [List.lookup_cons] at h
    split at h
    · rename_i e
      cases h
      rw [show a = c from eq_of_beq e]
      exact List.mem_cons_self
    · exact List.mem_cons_of_mem _ (ih h)
theorem ofInt_inj {x y : Int} (hx : inR x) (hy : inR y) : Int32.ofInt x = Int32.ofInt y ↔ x = y := by
  constructor
  · intro h
    have h2 := congrArg Int32.toInt h
    rwa [Int32.toInt_ofInt_of_le (by omega) (by omega), Int32.toInt_ofInt_of_le (by omega) (by omega)] at h2
  · intro h
    rw [h]
theorem ofInt_lt {x y : Int} (hx : inR x) (hy : inR y) : Int32.ofInt x < Int32.ofInt y ↔ x < y := by
  rw [Int32.lt_iff_toInt_lt, Int32.toInt_ofInt_of_le (by omega) (by omega), Int32.toInt_ofInt_of_le (by omega) (by omega)]
theorem ofInt_le {x y : Int} (hx : inR x) (hy : inR y) : Int32.ofInt x ≤ Int32.ofInt y ↔ x ≤ y := by
  rw [Int32.le_iff_toInt_le, Int32.toInt_ofInt_of_le (by omega) (by omega), Int32.toInt_ofInt_of_le (by omega) (by omega)]
theorem ofInt_in {i : Int} {n : Nat} (h0 : 0 ≤ i) (hn : i.toNat < n) (hi : i < 2147483648) : vp_in (Int32.ofInt i) n ∧ (Int32.ofInt i).toNatClampNeg = i.toNat := by
  have e : (Int32.ofInt i).toNatClampNeg = i.toNat := Int32.toNatClampNeg_ofInt_of_le (by omega) (by omega)
  refine ⟨?_, e⟩
  unfold vp_in
  rw [e]
  intro q
  rcases q with q | q
  · rw [show (0 : Int32) = Int32.ofInt 0 from rfl, ofInt_lt (by omega) (by omega)] at q
    omega
  · omega
end
section
/-! ONE INSTRUCTION of the small machine, read off the JVM's -/
def xCo : Jvm.ClassFile.Cond → Nat
  | .eq => 0
  | .ne => 1
  | .lt => 2
  | .ge => 3
  | .gt => 4
  | .le => 5
def xDec (own : Nat) (ini : Bool) (pc : Nat) (i : Instr) : Option (Nat × Int × Int × List (Int × Int)) := match i with
  | .iconst n => some (0, n, 0, [])
  | .bipush n => if -128 ≤ n ∧ n < 128 then some (0, n, 0, []) else none
  | .sipush n => if -32768 ≤ n ∧ n < 32768 then some (0, n, 0, []) else none
  | .ldc k => match xLC.lookup (own, k) with
    | some v => some (0, v, 0, [])
    | none => match xLS.lookup (own, k) with
      | some v => some (35, (v : Int), 0, [])
      | none => none
  | .ldc_w k => match xLC.lookup (own, k) with
    | some v => some (0, v, 0, [])
    | none => none
  | .ldc2_w k => match xLL.lookup (own, k) with
    | some v => some (34, v, 0, [])
    | none => none
  | .lconst n => some (34, ((n : Nat) : Int), 0, [])
  | .iload_n k => some (1, 0, ((k : Nat) : Int), [])
  | .iload k => some (1, 0, (k : Int), [])
  | .aload_n k => some (1, 1, ((k : Nat) : Int), [])
  | .aload k => some (1, 1, (k : Int), [])
  | .lload_n k => some (1, 2, ((k : Nat) : Int), [])
  | .lload k => some (1, 2, (k : Int), [])
  | .istore_n k => some (2, 0, ((k : Nat) : Int), [])
  | .istore k => some (2, 0, (k : Int), [])
  | .astore_n k => some (2, 1, ((k : Nat) : Int), [])
  | .astore k => some (2, 1, (k : Int), [])
  | .lstore_n k => some (2, 2, ((k : Nat) : Int), [])
  | .lstore k => some (2, 2, (k : Int), [])
  | .iinc k n => some (3, (k : Int), n, [])
  | .iadd => some (4, 0, 0, [])
  | .isub => some (4, 1, 0, [])
  | .imul => some (4, 2, 0, [])
  | .idiv => some (4, 3, 0, [])
  | .irem => some (4, 4, 0, [])
  | .iand => some (4, 5, 0, [])
  | .ior => some (4, 6, 0, [])
  | .ixor => some (4, 7, 0, [])
  | .ishl => some (4, 8, 0, [])
  | .ishr => some (4, 9, 0, [])
  | .iushr => some (4, 10, 0, [])
  | .ineg => some (5, 0, 0, [])
  | .ifCond c off => if 0 ≤ (pc : Int) + off then some (6, (pc : Int) + off, (xCo c : Int), []) else none
  | .if_icmp c off => if 0 ≤ (pc : Int) + off then some (7, (pc : Int) + off, (xCo c : Int), []) else none
  | .ifnull off => if 0 ≤ (pc : Int) + off then some (8, (pc : Int) + off, 0, []) else none
  | .ifnonnull off => if 0 ≤ (pc : Int) + off then some (8, (pc : Int) + off, 1, []) else none
  | .if_acmp .eq off => if 0 ≤ (pc : Int) + off then some (9, (pc : Int) + off, 0, []) else none
  | .if_acmp .ne off => if 0 ≤ (pc : Int) + off then some (9, (pc : Int) + off, 1, []) else none
  | .goto off => if 0 ≤ (pc : Int) + off then some (10, (pc : Int) + off, 0, []) else none
  | .dup => some (11, 0, 0, [])
  | .pop => some (12, 0, 0, [])
  | .dup_x1 => some (13, 0, 0, [])
  | .dup2 => some (14, 0, 0, [])
  | .aconst_null => some (15, 0, 0, [])
  | .getfield k => match xLF.lookup (own, k) with
    | some v => some (16, (v.1 : Int), (v.2 : Int), [])
    | none => none
  | .putfield k => match (if ini then xLP1 else xLP0).lookup (own, k) with
    | some v => some (17, (v.1 : Int), (v.2 : Int), [])
    | none => none
  | .iaload => some (18, 0, 0, [])
  | .iastore => some (19, 0, 0, [])
  | .baload => some (20, 0, 0, [])
  | .bastore => some (21, 0, 0, [])
  | .aaload => some (22, 0, 0, [])
  | .aastore => some (23, 0, 0, [])
  | .arraylength => some (24, 0, 0, [])
  | .new k => match xLN.lookup (own, k) with
    | some v => some (25, (v : Int), 0, [])
    | none => none
  | .newarray .int => some (26, 20, 0, [])
  | .newarray .boolean => some (26, 21, 0, [])
  | .anewarray k => match xLA.lookup (own, k) with
    | some _ => some (27, 0, 0, [])
    | none => none
  | .i2l => some (28, 0, 0, [])
  | .ladd => some (29, 0, 0, [])
  | .lneg => some (30, 0, 0, [])
  | .ldiv => some (31, 0, 0, [])
  | .lrem => some (32, 0, 0, [])
  | .lcmp => some (33, 0, 0, [])
  | .getstatic k => match xLG.lookup (own, k) with
    | some _ => some (36, 0, 0, [])
    | none => none
  | .checkcast k => match xLK.lookup (own, k) with
    | some v => some (37, (v : Int), 0, [])
    | none => none
  | .tableswitch d lo hi offs => if 0 ≤ (pc : Int) + d ∧ (offs.toList.all fun f => decide (0 ≤ (pc : Int) + f)) = true ∧ lo + offs.size = hi + 1 then
      some (40, (pc : Int) + d, 0, (List.range offs.size).map fun (j : Nat) => (lo + (j : Int), (pc : Int) + offs.toList.getD j 0)) else none
  | .lookupswitch d ps => if 0 ≤ (pc : Int) + d ∧ (ps.toList.all fun q => decide (0 ≤ (pc : Int) + q.2)) = true ∧ ((ps.toList.zip (ps.toList.drop 1)).all (fun (a, next) => a.1 < next.1)) = true then
      some (40, (pc : Int) + d, 0, ps.toList.map fun q => (q.1, (pc : Int) + q.2)) else none
  | _ => none
/-- the array classes -/
abbrev xTy (cA : Nat → ClassId) : List (ClassId × FieldType) := [(cA 0, .int), (cA 1, .boolean), (cA 2, .object "java/lang/Object")]
abbrev xA (z : Nat) : Nat → Prop := fun q => z ≤ q
def xNest : List (String × Nat × MethodName × String) := [("LaidQuarrel$Cellar", 143, ⟨"LaidQuarrel", "within", "(III)Z"⟩, "LaidQuarrel"), ("LaidQuarrel$Bottle", 9, ⟨"LaidQuarrel$Laid", "<init>", "()V"⟩, "LaidQuarrel"), ("LaidQuarrel$Hard", 13, ⟨"LaidQuarrel", "nearer", "(II)I"⟩, "LaidQuarrel"), ("LaidQuarrel$Sweet", 13, ⟨"LaidQuarrel", "nearer", "(II)I"⟩, "LaidQuarrel"), ("LaidQuarrel$Bottle", 44, ⟨"LaidQuarrel", "nearer", "(II)I"⟩, "LaidQuarrel"), ("LaidQuarrel$Laid", 32, ⟨"LaidQuarrel$Shelf", "copy", "([I[I)V"⟩, "LaidQuarrel")]
def xCast : List (String × String) := [("LaidQuarrel$Corked", "LaidQuarrel$Bottle"), ("LaidQuarrel$Feud", "LaidQuarrel$Bottle"), ("LaidQuarrel$Hard", "LaidQuarrel$Bottle"), ("LaidQuarrel$Love", "LaidQuarrel$Bottle"), ("LaidQuarrel$Sweet", "LaidQuarrel$Bottle"), ("LaidQuarrel$Told", "LaidQuarrel$Bottle"), ("LaidQuarrel", "java/lang/Object"), ("LaidQuarrel$Shelf", "java/lang/Object"), ("LaidQuarrel$Cellar", "java/lang/Object"), ("java/util/ArrayList", "java/lang/Object"), ("LaidQuarrelModel", "java/lang/Object"), ("LaidQuarrel$Hard", "java/lang/Object"), ("LaidQuarrel$Laid", "java/lang/Object"), ("LaidQuarrel$Sweet", "java/lang/Object"), ("LaidQuarrel$Corked", "java/lang/Object"), ("LaidQuarrel$Feud", "java/lang/Object"), ("LaidQuarrel$Love", "java/lang/Object"), ("LaidQuarrel$Told", "java/lang/Object"), ("LaidQuarrel$Bottle", "java/lang/Object")]
def xFw : List (MethodName × MethodName) := [(⟨"java/util/List", "size", "()I"⟩, ⟨"java/util/ArrayList", "size", "()I"⟩), (⟨"java/util/List", "add", "(Ljava/lang/Object;)Z"⟩, ⟨"java/util/ArrayList", "add", "(Ljava/lang/Object;)Z"⟩), (⟨"java/util/List", "get", "(I)Ljava/lang/Object;"⟩, ⟨"java/util/ArrayList", "get", "(I)Ljava/lang/Object;"⟩), (⟨"java/util/List", "remove", "(I)Ljava/lang/Object;"⟩, ⟨"java/util/ArrayList", "remove", "(I)Ljava/lang/Object;"⟩)]
def xDecl : List MethodName := [⟨"LaidQuarrel$Bottle", "utters", "(I)I"⟩, ⟨"LaidQuarrel$Bottle", "keeps", "(I)I"⟩, ⟨"LaidQuarrel$Bottle", "tells", "(I)I"⟩, ⟨"LaidQuarrel$Hard", "utters", "(I)I"⟩]
def xSt : List (Nat × String × Nat × String) := [(0, "LaidQuarrel$Cellar", 104, "alm "), (1, "LaidQuarrel$Cellar", 118, "eace "), (2, "LaidQuarrel$Cellar", 120, "often "), (3, "LaidQuarrel$Cellar", 122, "harpen "), (4, "LaidQuarrelModel", 126, "calm "), (5, "LaidQuarrelModel", 131, "peace "), (6, "LaidQuarrelModel", 118, "often "), (7, "LaidQuarrelModel", 100, "bkvyqw"), (8, "LaidQuarrelModel", 106, "<=>"), (9, "LaidQuarrelModel", 124, "harpen ")]
def xLen : List Nat := [4, 5, 6, 7, 5, 6, 6, 6, 3, 7]
def xByt : List (List Int32) := [[97, 108, 109, 32], [101, 97, 99, 101, 32], [111, 102, 116, 101, 110, 32], [104, 97, 114, 112, 101, 110, 32], [99, 97, 108, 109, 32], [112, 101, 97, 99, 101, 32], [111, 102, 116, 101, 110, 32], [98, 107, 118, 121, 113, 119], [60, 61, 62], [104, 97, 114, 112, 101, 110, 32]]
theorem xLS_ok : ∀ q ∈ xLS, ∃ t ∈ xSt, t.1 = q.2 ∧ t.2.1 = xCn q.1.1 ∧ t.2.2.1 = q.1.2 := by decide +kernel
/-- what of the tables and of the old heap a state tells, at every call -/
def xN (z : Nat) (ex : Int → Nat) (aV : Nat → Nat) (U : State) : Prop :=
  (∀ q ∈ xNest, va_Nw (.methodLinkNest q.1 q.2.1 q.2.2.1 q.2.2.2) U) ∧ (∀ q ∈ xCast, va_Nw (.castable q.1 q.2) U) ∧ (∀ q ∈ xFw, va_Fw "java/util/ArrayList" q.1 q.2 U) ∧ (∀ q ∈ xDecl, va_Nw (.declares q) U) ∧ va_AO "java/lang/Object" U ∧
  va_Z "java/util/ArrayList" "DEFAULTCAPACITY_EMPTY_ELEMENTDATA" "[Ljava/lang/Object;" (.ref (ex (-2))) (xA z) U U.heap ∧ va_T (.object "java/lang/Object") (ex (-2)) 0 (fun _ => .null) (xA z) U U.heap ∧
  (∀ q ∈ xSt, vk_R q.2.1 q.2.2.1 q.2.2.2 (ex (-10 - (q.1 : Int))) U) ∧ vk_S 10 xLen xByt (fun k => ex (-10 - (k : Int))) aV (xA z) U U.heap ∧
  va_Z "java/lang/String" "COMPACT_STRINGS" "Z" (.int 1) (xA z) U U.heap ∧ va_Zq "jdk/internal/util/Preconditions" "SIOOBE_FORMATTER" "Ljava/util/function/BiFunction;" (xA z) U U.heap
def xSc (z : Nat) (ex : Int → Nat) (sc : Option (Nat × (Nat → Int))) (s : State) : Prop := match sc with
  | none => True
  | some q => va_X (ex (-5)) q.1 (fun j => Int32.ofInt (q.2 j)) s s.heap ∧ ex (-5) < s.heap.size ∧ ¬ z ≤ ex (-5)
/-- the running method's surroundings -/
def xCtx (p : Program) (m : MethodId) (c : Code) (s : State) (args : Array Value) (meth : Method) (cc : ByteArray) (nL own : Nat) (ini : Bool) (D : va_G) (z : Nat) (ex : Int → Nat) (aV : Nat → Nat) (cA : Nat → ClassId) (sc : Option (Nat × (Nat → Int))) : Prop :=
  (p.tables.exec = Jvm.exec ∧ c.code = cc ∧ c.maxLocals = nL ∧ s.vm.findClass (xCn own) = some m.cls ∧ ∀ w ∈ BW, w.before args s = true) ∧ (ini = true → meth.name = "<init>") ∧ va_K D vwCl (xTy cA) s ∧ xN z ex aV s ∧ z ≤ s.heap.size ∧ xSc z ex sc s ∧ ex (-2) < z
section XSTEP
variable {p : Program} {l : Launch} {e : Env} {R : Room} {s : State} {m : MethodId} {args : Array Value} {below : List Frame} {meth : Method} {c : Code} {H : Heap} {locs : List Loc} {cells slots : Nat} {Q : State → Prop}
variable {cc : ByteArray} {nL own : Nat} {ini : Bool} {D : va_G} {z : Nat} {ex : Int → Nat} {aV : Nat → Nat} {cA : Nat → ClassId} {sc : Option (Nat × (Nat → Int))} {HB : Heap}
variable {pc : Nat} {lv st : List AV} {h : Hp} {ls : Array Slot}
theorem xb {p q : Prop} [Decidable p] {α : Type} {a b : α} (hpq : p ↔ q) [Decidable q] : (if p then a else b) = if q then a else b := by simp [hpq]
theorem xTgt {pc : Nat} {off : Int} (h : 0 ≤ (pc : Int) + off) : (pc : Int) + off = ((((pc : Int) + off).toNat : Nat) : Int) := by omega
/-- a load -/
theorem xLd {i : Instr} {len : Nat} {a b : Int} (C : xCtx p m c s args meth cc nL own ini D z ex aV cA sc) (hdec : decode cc pc = .ok (i, len)) {k : Nat} (hi : (i = .iload k ∧ len = 2 ∧ a = 0) ∨ (i = .aload k ∧ len = 2 ∧ a = 1) ∨ (i = .lload k ∧ len = 2 ∧ a = 2) ∨ (∃ n : Fin 4, (n : Nat) = k ∧ len = 1 ∧ ((i = .iload_n n ∧ a = 0) ∨ (i = .aload_n n ∧ a = 1) ∨ (i = .lload_n n ∧ a = 2))))
    (hAL : xAL z ex ls nL lv) {v : AV} (hv : lv[k]? = some v) (ht : v.1 = a.toNat)
    (kk : W p l e R s m args below meth c H locs cells slots Q (F0 m (pc + len) ls (xV z ex v :: st.map (xV z ex)))) : W p l e R s m args below meth c H locs cells slots Q (F0 m pc ls (st.map (xV z ex))) := by
  obtain ⟨⟨hx, hb, -⟩, -⟩ := C
  obtain ⟨t, x⟩ := v
  have h9 : t ≠ 9 := by
    rcases hi with ⟨-, -, rfl⟩ | ⟨-, -, rfl⟩ | ⟨-, -, rfl⟩ | ⟨n, -, -, (⟨-, rfl⟩ | ⟨-, rfl⟩ | ⟨-, rfl⟩)⟩ <;> simp at ht <;> omega
  have hl := hAL.at hv h9
  rcases hi with ⟨rfl, rfl, rfl⟩ | ⟨rfl, rfl, rfl⟩ | ⟨rfl, rfl, rfl⟩ | ⟨n, hn, rfl, (⟨rfl, rfl⟩ | ⟨rfl, rfl⟩ | ⟨rfl, rfl⟩)⟩
  · obtain rfl : t = 0 := ht
    exact lv_iload hx hb hdec hl kk
  · obtain rfl : t = 1 := ht
    rw [xV_ref] at hl kk
    cases hr : xR z ex x with
    | none => rw [hr] at hl kk; exact lv_aloadN hx hb hdec hl kk
    | some y => rw [hr] at hl kk; exact lv_aload hx hb hdec hl kk
  · obtain rfl : t = 2 := ht
    exact lv_lload hx hb hdec hl kk
  · obtain rfl : t = 0 := ht
    exact lv_iload_n hx hb hdec hn hl kk
  · obtain rfl : t = 1 := ht
    rw [xV_ref] at hl kk
    cases hr : xR z ex x with
    | none => rw [hr] at hl kk; exact lv_aload_nN hx hb hdec hn hl kk
    | some y => rw [hr] at hl kk; exact lv_aload_n hx hb hdec hn hl kk
  · obtain rfl : t = 2 := ht
    exact lv_lload_n hx hb hdec hn hl kk
/-- a store -/
theorem xSto {i : Instr} {len : Nat} {a : Int} (C : xCtx p m c s args meth cc nL own ini D z ex aV cA sc) (hdec : decode cc pc = .ok (i, len)) {k : Nat} (hi : (i = .istore k ∧ len = 2 ∧ a = 0) ∨ (i = .astore k ∧ len = 2 ∧ a = 1) ∨ (i = .lstore k ∧ len = 2 ∧ a = 2) ∨ (∃ n : Fin 4, (n : Nat) = k ∧ len = 1 ∧ ((i = .istore_n n ∧ a = 0) ∨ (i = .astore_n n ∧ a = 1) ∨ (i = .lstore_n n ∧ a = 2))))
    (hAL : xAL z ex ls nL lv) {v : AV} {lv' : List AV} (hm : mSet lv k v = some lv') (ht : v.1 = a.toNat)
    (kk : ∀ ls', xAL z ex ls' nL lv' → W p l e R s m args below meth c H locs cells slots Q (F0 m (pc + len) ls' (st.map (xV z ex)))) : W p l e R s m args below meth c H locs cells slots Q (F0 m pc ls (xV z ex v :: st.map (xV z ex))) := by
  obtain ⟨⟨hx, hb, -⟩, -⟩ := C
  obtain ⟨t, x⟩ := v
  have hk := (mSet_spec hm).1
  have hnk : k < nL := by rw [← hAL.2]; exact hk
  rcases hi with ⟨rfl, rfl, rfl⟩ | ⟨rfl, rfl, rfl⟩ | ⟨rfl, rfl, rfl⟩ | ⟨n, hn, rfl, (⟨rfl, rfl⟩ | ⟨rfl, rfl⟩ | ⟨rfl, rfl⟩)⟩
  · obtain rfl : t = 0 := ht
    exact lv_istore hx hb hdec hAL.1 hnk rfl (fun ls' g => kk ls' (xAL.set1 hAL.2 hm (show (0 : Nat) ≠ 2 by decide) g))
  · obtain rfl : t = 1 := ht
    have key : ∀ ls', lv_has ls' nL ((k, va_rf (xR z ex x)) :: (xLs z ex lv).filter (fun q => !(q.1 == k) && !(q.1 + 1 == k && q.2.category == 2))) → xAL z ex ls' nL lv' := fun ls' g => xAL.set1 (v := (1, x)) hAL.2 hm (show (1 : Nat) ≠ 2 by decide) g
    rw [xV_ref]
    cases hr : xR z ex x with
    | none => rw [hr] at key; exact lv_astoreN hx hb hdec hAL.1 hnk rfl (fun ls' g => kk ls' (key ls' g))
    | some y => rw [hr] at key; exact lv_astore hx hb hdec hAL.1 hnk rfl (fun ls' g => kk ls' (key ls' g))
  · obtain rfl : t = 2 := ht
    have h2 : k + 1 < nL := by
      rcases (mSet_spec hm).2.2 with ⟨-, q, -⟩ | ⟨q, -⟩
      · rw [← hAL.2]; exact q
      · exact absurd rfl q
    exact lv_lstore hx hb hdec hAL.1 h2 rfl (fun ls' g => kk ls' (xAL.set2 hAL.2 hm rfl g))
  · obtain rfl : t = 0 := ht
    exact lv_istore_n hx hb hdec hn hAL.1 hnk rfl (fun ls' g => kk ls' (xAL.set1 hAL.2 hm (show (0 : Nat) ≠ 2 by decide) g))
  · obtain rfl : t = 1 := ht
    have key : ∀ ls', lv_has ls' nL ((k, va_rf (xR z ex x)) :: (xLs z ex lv).filter (fun q => !(q.1 == k) && !(q.1 + 1 == k && q.2.category == 2))) → xAL z ex ls' nL lv' := fun ls' g => xAL.set1 (v := (1, x)) hAL.2 hm (show (1 : Nat) ≠ 2 by decide) g
    rw [xV_ref]
    cases hr : xR z ex x with
    | none => rw [hr] at key; exact lv_astore_nN hx hb hdec hn hAL.1 hnk rfl (fun ls' g => kk ls' (key ls' g))
    | some y => rw [hr] at key; exact lv_astore_n hx hb hdec hn hAL.1 hnk rfl (fun ls' g => kk ls' (key ls' g))
  · obtain rfl : t = 2 := ht
    have h2 : k + 1 < nL := by
      rcases (mSet_spec hm).2.2 with ⟨-, q, -⟩ | ⟨q, -⟩
      · rw [← hAL.2]; exact q
      · exact absurd rfl q
    exact lv_lstore_n hx hb hdec hn hAL.1 h2 rfl (fun ls' g => kk ls' (xAL.set2 hAL.2 hm rfl g))
/-- a comparison of two numbers -/
theorem xIcmp {off : Int} {cd : Jvm.ClassFile.Cond} {x y : Int} (C : xCtx p m c s args meth cc nL own ini D z ex aV cA sc) (hdec : decode cc pc = .ok (.if_icmp cd off, 3)) (ho : 0 ≤ (pc : Int) + off) (hc : mCan (xCo cd) x y)
    (kk : W p l e R s m args below meth c H locs cells slots Q (F0 m (if mCmp (xCo cd) x y then ((pc : Int) + off).toNat else pc + 3) ls (st.map (xV z ex)))) : W p l e R s m args below meth c H locs cells slots Q (F0 m pc ls (.int (Int32.ofInt y) :: .int (Int32.ofInt x) :: st.map (xV z ex))) := by
  obtain ⟨⟨hx, hb, -⟩, -⟩ := C
  have hq : cd = .eq ∨ cd = .ne → (Int32.ofInt x = Int32.ofInt y ↔ x = y) := by
    intro q
    rcases hc with ⟨h1, h2⟩ | ⟨-, h2⟩
    · exact ofInt_inj h1 h2
    · rw [h2]; simp
  have hr : ¬ (cd = .eq ∨ cd = .ne) → inR x ∧ inR y := by
    intro q
    rcases hc with h1 | ⟨h1, -⟩
    · exact h1
    · cases cd <;> simp [xCo] at h1 q
  cases cd with
  | eq =>
    have e := hq (Or.inl rfl)
    refine lv_icmp_eq hx hb hdec (xTgt ho) (fun g => ?_) (fun g => ?_)
    · rw [e] at g; simpa [xCo, mCmp, g] using kk
    · rw [e] at g; simpa [xCo, mCmp, g] using kk
  | ne =>
    have e := hq (Or.inr rfl)
    refine lv_icmp_ne hx hb hdec (xTgt ho) (fun g => ?_) (fun g => ?_)
    · rw [e] at g; simpa [xCo, mCmp, g] using kk
    · rw [e] at g; simpa [xCo, mCmp, g] using kk
  | lt =>
    obtain ⟨r1, r2⟩ := hr (by simp)
    refine lv_icmp_lt hx hb hdec (xTgt ho) (fun g => ?_) (fun g => ?_)
    · rw [ofInt_lt r1 r2] at g; simpa [xCo, mCmp, g] using kk
    · rw [ofInt_lt r1 r2] at g; simpa [xCo, mCmp, g] using kk
  | ge =>
    obtain ⟨r1, r2⟩ := hr (by simp)
    refine lv_icmp_ge hx hb hdec (xTgt ho) (fun g => ?_) (fun g => ?_)
    · rw [ofInt_le r2 r1] at g; simpa [xCo, mCmp, show ¬ x < y by omega] using kk
    · rw [ofInt_le r2 r1] at g; simpa [xCo, mCmp, show x < y by omega] using kk
  | gt =>
    obtain ⟨r1, r2⟩ := hr (by simp)
    refine lv_icmp_gt hx hb hdec (xTgt ho) (fun g => ?_) (fun g => ?_)
    · rw [ofInt_lt r2 r1] at g; simpa [xCo, mCmp, g] using kk
    · rw [ofInt_lt r2 r1] at g; simpa [xCo, mCmp, g] using kk
  | le =>
    obtain ⟨r1, r2⟩ := hr (by simp)
    refine lv_icmp_le hx hb hdec (xTgt ho) (fun g => ?_) (fun g => ?_)
    · rw [ofInt_le r1 r2] at g; simpa [xCo, mCmp, show ¬ y < x by omega] using kk
    · rw [ofInt_le r1 r2] at g; simpa [xCo, mCmp, show y < x by omega] using kk
/-- a comparison with 0 -/
theorem xIf0 {off : Int} {cd : Jvm.ClassFile.Cond} {x : Int} (C : xCtx p m c s args meth cc nL own ini D z ex aV cA sc) (hdec : decode cc pc = .ok (.ifCond cd off, 3)) (ho : 0 ≤ (pc : Int) + off) (hc : mCan (xCo cd) x 0)
    (kk : W p l e R s m args below meth c H locs cells slots Q (F0 m (if mCmp (xCo cd) x 0 then ((pc : Int) + off).toNat else pc + 3) ls (st.map (xV z ex)))) : W p l e R s m args below meth c H locs cells slots Q (F0 m pc ls (.int (Int32.ofInt x) :: st.map (xV z ex))) := by
  obtain ⟨⟨hx, hb, -⟩, -⟩ := C
  have r0 : inR 0 := by omega
  have e0 : (0 : Int32) = Int32.ofInt 0 := rfl
  have hq : cd = .eq ∨ cd = .ne → (Int32.ofInt x = 0 ↔ x = 0) := by
    intro q
    rw [e0]
    rcases hc with ⟨h1, h2⟩ | ⟨-, h2⟩
    · exact ofInt_inj h1 h2
    · rw [h2]; simp
  have hr : ¬ (cd = .eq ∨ cd = .ne) → inR x := by
    intro q
    rcases hc with h1 | ⟨h1, -⟩
    · exact h1.1
    · cases cd <;> simp [xCo] at h1 q
  cases cd with
  | eq =>
    have e := hq (Or.inl rfl)
    refine lv_if_eq hx hb hdec (xTgt ho) (fun g => ?_) (fun g => ?_)
    · rw [e] at g; simpa [xCo, mCmp, g] using kk
    · rw [e] at g; simpa [xCo, mCmp, g] using kk
  | ne =>
    have e := hq (Or.inr rfl)
    refine lv_if_ne hx hb hdec (xTgt ho) (fun g => ?_) (fun g => ?_)
    · rw [e] at g; simpa [xCo, mCmp, g] using kk
    · rw [e] at g; simpa [xCo, mCmp, g] using kk
  | lt =>
    have r1 := hr (by simp)
    refine lv_if_lt hx hb hdec (xTgt ho) (fun g => ?_) (fun g => ?_)
    · rw [e0, ofInt_lt r1 r0] at g; simpa [xCo, mCmp, g] using kk
    · rw [e0, ofInt_lt r1 r0] at g; simpa [xCo, mCmp, g] using kk
  | ge =>
    have r1 := hr (by simp)
    refine lv_if_ge hx hb hdec (xTgt ho) (fun g => ?_) (fun g => ?_)
    · rw [e0, ofInt_le r0 r1] at g; simpa [xCo, mCmp, show ¬ x < 0 by omega] using kk
    · rw [e0, ofInt_le r0 r1] at g; simpa [xCo, mCmp, show x < 0 by omega] using kk
  | gt =>
    have r1 := hr (by simp)
    refine lv_if_gt hx hb hdec (xTgt ho) (fun g => ?_) (fun g => ?_)
    · rw [e0, ofInt_lt r0 r1] at g; simpa [xCo, mCmp, g] using kk
    · rw [e0, ofInt_lt r0 r1] at g; simpa [xCo, mCmp, g] using kk
  | le =>
    have r1 := hr (by simp)
    refine lv_if_le hx hb hdec (xTgt ho) (fun g => ?_) (fun g => ?_)
    · rw [e0, ofInt_le r1 r0] at g; simpa [xCo, mCmp, show ¬ 0 < x by omega] using kk
    · rw [e0, ofInt_le r1 r0] at g; simpa [xCo, mCmp, show 0 < x by omega] using kk
end XSTEP
end
section
/-! THE INSTRUCTIONS THAT READ AND WRITE CELLS -/
section XHEAP
variable {p : Program} {l : Launch} {e : Env} {R : Room} {s : State} {m : MethodId} {args : Array Value} {below : List Frame} {meth : Method} {c : Code} {H : Heap} {locs : List Loc} {cells slots : Nat} {Q : State → Prop}
variable {cc : ByteArray} {nL own : Nat} {ini : Bool} {D : va_G} {z : Nat} {ex : Int → Nat} {aV : Nat → Nat} {cA : Nat → ClassId} {sc : Option (Nat × (Nat → Int))} {HB : Heap}
variable {pc : Nat} {st : List AV} {h : Hp} {ls : Array Slot}
theorem xSame {ref o n d : String} (hts : ∀ w ∈ BW, w.before args s = true) (h : o = ref ∨ Cond.sameField ref o n d ∈ BW) (x : ClassId × Class × Nat × Field) (hx : s.fieldFound? o n d = some x) : s.fieldFound? ref n d = some x := by
  rcases h with h | h
  · rw [← h]; exact hx
  · exact u_same (hts _ h) x hx
theorem xGet {idx k b q : Nat} (C : xCtx p m c s args meth cc nL own ini D z ex aV cA sc) (hdec : decode cc pc = .ok (.getfield idx, 3)) (hl : FlOk own idx k b) (hP : xP D z ex cA HB h H) (hq : q < mN h) (hk : mK h q < 13) (hi : mIsa (mK h q) b = true) (hkl : k < (mFt (mK h q)).length)
    (kk : W p l e R s m args below meth c H locs cells slots Q (F0 m (pc + 3) ls (xV z ex (mTag ((mFt (mK h q)).getD k 0), mC h q k) :: st.map (xV z ex)))) : W p l e R s m args below meth c H locs cells slots Q (F0 m pc ls (.ref (z + q) :: st.map (xV z ex))) := by
  obtain ⟨⟨hx, hb, -, hown, hts⟩, -, hK, -⟩ := C
  obtain ⟨C1, T1, N1, g1, g2, ref, g3, g4⟩ := hl _ hi
  obtain ⟨C2, T2, N2, ty, e1, e2, e3, e4, e5, e6⟩ := xCls _ hk
  cases g1.symm.trans e1
  have hat := hP.1 q hq
  rw [xC_obj hk] at hat
  exact va_get hx hb hts e3 hown hK (va_P1 hat) 0 rfl e1 k g2 (hts _ g3) (xSame hts g4) (xF_at hkl) hdec kk
theorem xFit {t : Nat} {ty : FieldType} {v : AV} (ht : xTyOk t ty) (hv : v.1 = mTag t) (hb : t = 3 → v.2 = 0 ∨ v.2 = 1) : narrow ty (xV z ex v) = xV z ex v ∧ fits ty (xV z ex v) = true := by
  obtain ⟨u, x⟩ := v
  rcases ht with ⟨rfl, rfl⟩ | ⟨rfl, ht⟩ | ⟨rfl, rfl⟩
  · obtain rfl : u = 0 := hv
    exact ⟨rfl, rfl⟩
  · obtain rfl : u = 1 := hv
    rw [xV_ref]
    rcases ht with ⟨n, rfl⟩ | ⟨n, rfl⟩ <;> cases xR z ex x <;> exact ⟨rfl, rfl⟩
  · obtain rfl : u = 0 := hv
    rw [xV_int]
    rcases hb rfl with rfl | rfl <;> exact ⟨rfl, rfl⟩
theorem xPut {idx k b q : Nat} {v : AV} (C : xCtx p m c s args meth cc nL own ini D z ex aV cA sc) (hdec : decode cc pc = .ok (.putfield idx, 3)) (hl : FlOk own idx k b) (hp : FpOk own idx k b ini) (hP : xP D z ex cA HB h H) (hS : va_S (xA z) s.heap H locs) (hq : q < mN h) (hk : mK h q < 13) (hi : mIsa (mK h q) b = true) (hkl : k < (mFt (mK h q)).length)
    (hv : v.1 = mTag ((mFt (mK h q)).getD k 0)) (hvb : (mFt (mK h q)).getD k 0 = 3 → v.2 = 0 ∨ v.2 = 1)
    (kk : ∀ H' locs', xP D z ex cA HB (mPut h q k v.2) H' → va_S (xA z) s.heap H' locs' → W p l e R s m args below meth c H' locs' cells slots Q (F0 m (pc + 3) ls (st.map (xV z ex)))) : W p l e R s m args below meth c H locs cells slots Q (F0 m pc ls (xV z ex v :: .ref (z + q) :: st.map (xV z ex))) := by
  obtain ⟨⟨hx, hb, -, hown, hts⟩, hini, hK, -⟩ := C
  obtain ⟨C1, T1, N1, g1, g2, ref, g3, g4⟩ := hl _ hi
  obtain ⟨C3, T3, N3, j1, j2, j3⟩ := hp _ hi
  obtain ⟨C2, T2, N2, ty, e1, e2, e3, e4, e5, e6⟩ := xCls _ hk
  cases g1.symm.trans e1
  cases j1.symm.trans e1
  have hat := hP.1 q hq
  rw [xC_obj hk] at hat
  have hap := va_apart (own := xCn own) hts e3 ty e4 e5 hK e1
  obtain ⟨hn, hfit⟩ := xFit (z := z) (ex := ex) (e6 k g2) hv hvb
  obtain ⟨r, h1, cell, q1, q2, q3, q4⟩ := hat
  cases h1.symm.trans e1
  obtain ⟨hSl, hfc, kC, hkC, hkind⟩ := hK.1 _ _ e1
  obtain ⟨cf, kf, fi, f, hif, hsl⟩ := hSl k g2
  have hst := (u_facts hfc hkC (u_lays hts e3 g2) hif).1
  have hv' : xV z ex v = xV z ex (mTag ((mFt (mK h q)).getD k 0), v.2) := by rw [← hv]
  have fin : ∀ H' : Heap, H'[z + q]? = some (cell.setSlot f.slot (xV z ex v)) → H'.size = H.size → (∀ y, y ≠ z + q → H'[y]? = H[y]?) → W p l e R s m args below meth c H' (locs ++ [⟨z + q, f.slot⟩]) cells slots Q (F0 m (pc + 3) ls (st.map (xV z ex))) := by
    intro H' k1 k2 k3
    rw [hsl] at k1
    refine kk H' _ (hP.put k2 k3 ?_) (hS.put k2 k3 (by show z ≤ z + q; omega))
    rw [xC_obj (by rw [mK_put]; exact hk), mK_put, xF_put, ← hv']
    exact ⟨_, e1, t_OB.to (V := updV (vp_V (xF z ex h q)) k (xV z ex v)) ⟨_, k1, q2, q3, t_set q4 hap g2 _⟩ (fun j _ => vp_updV_set (by rw [xF_len]; exact hkl) _ j)⟩
  have hlay := hts _ (e3 _ (u_in_lay g2))
  unfold u_lay at hlay
  rcases j3 with j3 | ⟨j3, j4, j5⟩
  · rw [if_neg (by rw [j3]; decide)] at hlay
    have h6 := u_store hfc hkC hkind hlay hif (e4 k g2) hn hfit
    exact W.putK hx hb (f := f) ⟨hown, hts _ g3, ⟨_, _, _, xSame hts g4 _ hif⟩, hst⟩ (by rw [q2]; exact h6) q1 q3 (by rw [hsl]; exact k2_hasslot (q4 k g2)) rfl rfl hdec fin
  · rw [if_pos j4] at hlay
    have hcf : m.cls = cf := by
      obtain ⟨_, _, c', _, _, _, -, -, hf', -, -, -, hown2, -⟩ := Cond.laysFinal_spec hlay
      have e1 : c' = cf := by have := hif.symm.trans hf'; simp at this; exact this.1.symm
      rw [j5] at hown2
      rw [← e1]; exact Option.some.inj (hown.symm.trans hown2)
    have h6 := u_fits hfc hkC hkind (Or.inr hlay) hif (e4 k g2) hn hfit
    exact W.putFinK hx hb hown (hts _ g3) (xSame hts g4 _ hif) hst hcf (hini j3) (by rw [q2]; exact h6) q1 q3 (by rw [hsl]; exact k2_hasslot (q4 k g2)) rfl rfl hdec fin
theorem xC_i {q : Nat} (hk : mK h q = 20) : xC z ex cA h q = .inl (cA 0, mL h q, .inl fun k => Int32.ofInt (mC h q k)) := by unfold xC; rw [if_pos hk]
theorem xC_z {q : Nat} (hk : mK h q = 21) : xC z ex cA h q = .inl (cA 1, mL h q, .inl fun k => Int32.ofInt (mC h q k)) := by unfold xC; rw [if_neg (by omega), if_pos hk]
theorem xC_q {q : Nat} (hk : mK h q = 22) : xC z ex cA h q = .inl (cA 2, mL h q, .inr (.inr (.inr (.inr fun k => xR z ex (mC h q k))))) := by unfold xC; rw [if_neg (by omega), if_neg (by omega), if_pos hk]
theorem xIald {q : Nat} {i : Int} (C : xCtx p m c s args meth cc nL own ini D z ex aV cA sc) (hdec : decode cc pc = .ok (.iaload, 1)) (hP : xP D z ex cA HB h H) (hq : q < mN h) (hk : mK h q = 20) (h0 : 0 ≤ i) (hn : i.toNat < mL h q) (hi : i < 2147483648)
    (kk : W p l e R s m args below meth c H locs cells slots Q (F0 m (pc + 1) ls (.int (Int32.ofInt (mC h q i.toNat)) :: st.map (xV z ex)))) : W p l e R s m args below meth c H locs cells slots Q (F0 m pc ls (.int (Int32.ofInt i) :: .ref (z + q) :: st.map (xV z ex))) := by
  obtain ⟨⟨hx, hb, -, hown, hts⟩, -, hK, -⟩ := C
  have hat := hP.1 q hq
  rw [xC_i hk] at hat
  obtain ⟨v1, v2⟩ := ofInt_in h0 hn hi
  exact va_iald hx hb hK (va_P1 hat) 0 0 rfl rfl v1 hdec (by rw [v2]; exact kk)
theorem xBald {q : Nat} {i : Int} (C : xCtx p m c s args meth cc nL own ini D z ex aV cA sc) (hdec : decode cc pc = .ok (.baload, 1)) (hP : xP D z ex cA HB h H) (hq : q < mN h) (hk : mK h q = 21) (h0 : 0 ≤ i) (hn : i.toNat < mL h q) (hi : i < 2147483648)
    (kk : W p l e R s m args below meth c H locs cells slots Q (F0 m (pc + 1) ls (.int (Int32.ofInt (mC h q i.toNat)) :: st.map (xV z ex)))) : W p l e R s m args below meth c H locs cells slots Q (F0 m pc ls (.int (Int32.ofInt i) :: .ref (z + q) :: st.map (xV z ex))) := by
  obtain ⟨⟨hx, hb, -, hown, hts⟩, -, hK, -⟩ := C
  have hat := hP.1 q hq
  rw [xC_z hk] at hat
  obtain ⟨v1, v2⟩ := ofInt_in h0 hn hi
  exact va_zald hx hb hK (va_P1 hat) 0 1 rfl rfl v1 hdec (by rw [v2]; exact kk)
theorem xAald {q : Nat} {i : Int} (C : xCtx p m c s args meth cc nL own ini D z ex aV cA sc) (hdec : decode cc pc = .ok (.aaload, 1)) (hP : xP D z ex cA HB h H) (hq : q < mN h) (hk : mK h q = 22) (h0 : 0 ≤ i) (hn : i.toNat < mL h q) (hi : i < 2147483648)
    (kk : W p l e R s m args below meth c H locs cells slots Q (F0 m (pc + 1) ls (va_rf (xR z ex (mC h q i.toNat)) :: st.map (xV z ex)))) : W p l e R s m args below meth c H locs cells slots Q (F0 m pc ls (.int (Int32.ofInt i) :: .ref (z + q) :: st.map (xV z ex))) := by
  obtain ⟨⟨hx, hb, -, hown, hts⟩, -, hK, -⟩ := C
  have hat := hP.1 q hq
  rw [xC_q hk] at hat
  obtain ⟨v1, v2⟩ := ofInt_in h0 hn hi
  exact va_aldq hx hb hK (va_P1 hat) 0 2 rfl rfl v1 hdec (by rw [v2]; exact kk)
theorem xUpd (f : Nat → Value) (k : Nat) (x : Value) (g : Nat → Value) (hg : ∀ j, g j = if j = k then x else f j) : updV f k x = g := by
  funext j
  rw [hg]
  rfl
theorem xIast {q : Nat} {i v : Int} (C : xCtx p m c s args meth cc nL own ini D z ex aV cA sc) (hdec : decode cc pc = .ok (.iastore, 1)) (hP : xP D z ex cA HB h H) (hS : va_S (xA z) s.heap H locs) (hq : q < mN h) (hk : mK h q = 20) (h0 : 0 ≤ i) (hn : i.toNat < mL h q) (hi : i < 2147483648)
    (kk : ∀ H' locs', xP D z ex cA HB (mPut h q i.toNat v) H' → va_S (xA z) s.heap H' locs' → W p l e R s m args below meth c H' locs' cells slots Q (F0 m (pc + 1) ls (st.map (xV z ex)))) : W p l e R s m args below meth c H locs cells slots Q (F0 m pc ls (.int (Int32.ofInt v) :: .int (Int32.ofInt i) :: .ref (z + q) :: st.map (xV z ex))) := by
  obtain ⟨⟨hx, hb, -, hown, hts⟩, -, hK, -⟩ := C
  have hat := hP.1 q hq
  rw [xC_i hk] at hat
  obtain ⟨v1, v2⟩ := ofInt_in h0 hn hi
  have hat : H[z + q]? = some (arrV (cA 0) (mL h q) fun k => .int (Int32.ofInt (mC h q k))) := hat
  refine W.iast hx hb hat ((hK.2 0 _ rfl).1 _ _) (fun q => by cases q) (by rw [arrV_size]; exact v1) rfl rfl hdec fun H1 k1 k2 k3 => ?_
  refine kk H1 _ (hP.put k2 k3 ?_) (hS.put k2 k3 (by show z ≤ z + q; omega))
  rw [xC_i (by rw [mK_put]; exact hk)]
  show H1[z + q]? = some (arrV (cA 0) (mL h q) fun k => .int (Int32.ofInt (mC (mPut h q i.toNat v) q k)))
  rw [k1, arrV_store, v2]
  congr 2
  refine xUpd _ _ _ _ fun j => ?_
  rw [mC_put]
  by_cases e : j = i.toNat <;> simp [e]
theorem xBast {q : Nat} {i v : Int} (C : xCtx p m c s args meth cc nL own ini D z ex aV cA sc) (hdec : decode cc pc = .ok (.bastore, 1)) (hP : xP D z ex cA HB h H) (hS : va_S (xA z) s.heap H locs) (hq : q < mN h) (hk : mK h q = 21) (h0 : 0 ≤ i) (hn : i.toNat < mL h q) (hi : i < 2147483648) (hv : v = 0 ∨ v = 1)
    (kk : ∀ H' locs', xP D z ex cA HB (mPut h q i.toNat v) H' → va_S (xA z) s.heap H' locs' → W p l e R s m args below meth c H' locs' cells slots Q (F0 m (pc + 1) ls (st.map (xV z ex)))) : W p l e R s m args below meth c H locs cells slots Q (F0 m pc ls (.int (Int32.ofInt v) :: .int (Int32.ofInt i) :: .ref (z + q) :: st.map (xV z ex))) := by
  obtain ⟨⟨hx, hb, -, hown, hts⟩, -, hK, -⟩ := C
  have hat := hP.1 q hq
  rw [xC_z hk] at hat
  obtain ⟨v1, v2⟩ := ofInt_in h0 hn hi
  have hat : H[z + q]? = some (arrV (cA 1) (mL h q) fun k => .int (Int32.ofInt (mC h q k))) := hat
  have hnar : narrow .boolean (.int (Int32.ofInt v)) = .int (Int32.ofInt v) := by rcases hv with rfl | rfl <;> rfl
  refine W.zast hx hb hat ((hK.2 1 _ rfl).1 _ _) (fun q => by cases q) (by rw [arrV_size]; exact v1) rfl rfl hdec fun H1 k1 k2 k3 => ?_
  refine kk H1 _ (hP.put k2 k3 ?_) (hS.put k2 k3 (by show z ≤ z + q; omega))
  rw [xC_z (by rw [mK_put]; exact hk)]
  show H1[z + q]? = some (arrV (cA 1) (mL h q) fun k => .int (Int32.ofInt (mC (mPut h q i.toNat v) q k)))
  rw [k1, arrV_store, v2, hnar]
  congr 2
  refine xUpd _ _ _ _ fun j => ?_
  rw [mC_put]
  by_cases e : j = i.toNat <;> simp [e]
theorem xAast {q : Nat} {i v : Int} (C : xCtx p m c s args meth cc nL own ini D z ex aV cA sc) (hdec : decode cc pc = .ok (.aastore, 1)) (hP : xP D z ex cA HB h H) (hS : va_S (xA z) s.heap H locs) (hq : q < mN h) (hk : mK h q = 22) (h0 : 0 ≤ i) (hn : i.toNat < mL h q) (hi : i < 2147483648)
    (hv : v = -1 ∨ (0 ≤ v ∧ v.toNat < mN h ∧ mK h v.toNat < 13 ∧ mIsa (mK h v.toNat) 1))
    (kk : ∀ H' locs', xP D z ex cA HB (mPut h q i.toNat v) H' → va_S (xA z) s.heap H' locs' → W p l e R s m args below meth c H' locs' cells slots Q (F0 m (pc + 1) ls (st.map (xV z ex)))) : W p l e R s m args below meth c H locs cells slots Q (F0 m pc ls (va_rf (xR z ex v) :: .int (Int32.ofInt i) :: .ref (z + q) :: st.map (xV z ex))) := by
  obtain ⟨⟨hx, hb, -, hown, hts⟩, -, hK, hN, -⟩ := C
  have hat := hP.1 q hq
  rw [xC_q hk] at hat
  obtain ⟨v1, v2⟩ := ofInt_in h0 hn hi
  have hat : H[z + q]? = some (arrV (cA 2) (mL h q) fun k => va_rf (xR z ex (mC h q k))) := hat
  have fin : ∀ H1 : Heap, H1[z + q]? = some ((arrV (cA 2) (mL h q) fun k => va_rf (xR z ex (mC h q k))).setSlot (Int32.ofInt i).toNatClampNeg (va_rf (xR z ex v))) → H1.size = H.size → (∀ y, y ≠ z + q → H1[y]? = H[y]?) →
      W p l e R s m args below meth c H1 (locs ++ [⟨z + q, (Int32.ofInt i).toNatClampNeg⟩]) cells slots Q (F0 m (pc + 1) ls (st.map (xV z ex))) := by
    intro H1 k1 k2 k3
    refine kk H1 _ (hP.put k2 k3 ?_) (hS.put k2 k3 (by show z ≤ z + q; omega))
    rw [xC_q (by rw [mK_put]; exact hk)]
    show H1[z + q]? = some (arrV (cA 2) (mL h q) fun k => va_rf (xR z ex (mC (mPut h q i.toNat v) q k)))
    rw [k1, arrV_store, v2]
    congr 2
    refine xUpd _ _ _ _ fun j => ?_
    rw [mC_put]
    by_cases e : j = i.toNat <;> simp [e]
  rcases hv with rfl | ⟨w0, w1, w2, w3⟩
  · rw [xR_null] at fin ⊢
    exact va_WaastN (C := "java/lang/Object") hx hb hat ((hK.2 2 _ rfl).1 _ _) (fun q => by cases q) (by rw [arrV_size]; exact v1) rfl rfl hdec fin
  · rw [xR_own w0] at fin ⊢
    have hv2 := hP.1 _ w1
    rw [xC_obj w2] at hv2
    obtain ⟨C2, T2, N2, ty, e1, -⟩ := xCls _ w2
    obtain ⟨r', hr', cellV, g1, g2, g3, -⟩ := hv2
    cases hr'.symm.trans e1
    obtain ⟨kA, comp, k1, k2, k3, -⟩ := (hK.2 2 _ rfl).2
    have hcls := (hK.1 _ _ e1).2
    obtain ⟨hfc, kV, hkV, -⟩ := hcls
    have hcast : va_Nw (.castable C2 "java/lang/Object") s := by
      have hsub := xSub_1 w3
      have hl := hN.2.1
      have hC : (C2, "java/lang/Object") ∈ xCast := by
        rcases hsub with h | h | h | h | h | h | h <;> (rw [h] at e1; cases e1; decide +kernel)
      exact hl _ hC
    obtain ⟨c0, t0, f1, f2, f3⟩ := Cond.castable_spec (va_Nw.use (A := args) rfl hcast)
    cases hfc.symm.trans f1
    cases k3.symm.trans f2
    obtain ⟨kcomp, hkcomp, -⟩ := Vm.findClass_spec k3
    exact W.aast hx hb hat (fun q h => by cases h) (fun h => by cases h) k1 k2 rfl hkcomp ⟨fun q => v1 (Or.inl q), by rw [arrV_size]; exact Nat.not_le.mp fun q => v1 (Or.inr q)⟩ g1 (fun q h => by rw [g3] at h; cases h) (by rw [g2]; exact hkV) (by rw [g2]; exact f3) rfl rfl hdec fin
end XHEAP
end
section
/-! NEW CELLS, LENGTHS; then every instruction that is no call and no return -/
section XMSTEP
variable {p : Program} {l : Launch} {e : Env} {R : Room} {s : State} {m : MethodId} {args : Array Value} {below : List Frame} {meth : Method} {c : Code} {H : Heap} {locs : List Loc} {cells slots : Nat} {Q : State → Prop}
variable {cc : ByteArray} {nL own : Nat} {ini : Bool} {D : va_G} {z : Nat} {ex : Int → Nat} {aV : Nat → Nat} {cA : Nat → ClassId} {sc : Option (Nat × (Nat → Int))} {HB : Heap}
variable {pc : Nat} {st : List AV} {h : Hp} {ls : Array Slot}
theorem xNew {idx ci : Nat} (C : xCtx p m c s args meth cc nL own ini D z ex aV cA sc) (hdec : decode cc pc = .ok (.new idx, 3)) (hl : ∃ C T N ty, xClOk ci C T N ty ∧ Cond.classLink (xCn own) idx C ∈ BW ∧ Cond.instantiable C N ∈ BW ∧ Cond.initialized C ∈ BW) (hci : ci < 13) (hP : xP D z ex cA HB h H) (hS : va_S (xA z) s.heap H locs)
    (hr1 : cells + 1 ≤ R.cells) (hr2 : slots + (mFt ci).length ≤ R.slots)
    (kk : ∀ H', xP D z ex cA HB (mNew h ci (mFt ci).length (mDef ci)) H' → va_S (xA z) s.heap H' locs → W p l e R s m args below meth c H' locs (cells + 1) (slots + (mFt ci).length) Q (F0 m (pc + 3) ls (.ref (z + mN h) :: st.map (xV z ex)))) : W p l e R s m args below meth c H locs cells slots Q (F0 m pc ls (st.map (xV z ex))) := by
  obtain ⟨⟨hx, hb, -, hown, hts⟩, -, hK, -⟩ := C
  obtain ⟨C1, T1, N1, ty, ⟨e1, e2, e3, e4, e5, e6⟩, g1, g2, g3⟩ := hl
  subst e2
  have hKn := hK.1 _ _ e1
  refine W.newcK hx hb hown (hts _ g1) (hts _ g2) (hts _ g3) rfl hdec hr1 hr2 hKn.2.1 hP.2.1 fun H1 kC hkC k1 k2 k3 => ?_
  refine kk H1 (hP.new (by rw [k2, hP.2.1]) (fun q hq => k3 q (by rw [← hP.2.1]; exact hq)) ?_) ⟨by rw [k2]; have := hS.1; have := hP.2.1; omega, fun q q1 q2 => ?_, hS.2.2⟩
  · have hk : mK (mNew h ci (mFt ci).length (mDef ci)) (mN h) = ci := by rw [mK_new, if_pos rfl]
    rw [xC_obj (by rw [hk]; exact hci), hk]
    refine ⟨_, e1, (u_born ty hts e3 hKn hkC k1 e4).to fun j hj => ?_⟩
    have hv := xF_at (z := z) (ex := ex) (h := mNew h ci (mFt ci).length (mDef ci)) (a := mN h) (k := j) (by rw [hk]; exact hj)
    rw [hk, mC_new, if_pos rfl] at hv
    have hvp : vp_V (xF z ex (mNew h ci (mFt ci).length (mDef ci)) (mN h)) j = xV z ex (mTag ((mFt ci).getD j 0), mDef ci j) := by
      unfold vp_V
      rw [List.getD_eq_getElem?_getD, hv]
      rfl
    show defaultValue (ty j) = vp_V _ j
    rw [hvp]
    rcases e6 j hj with ⟨t1, t2⟩ | ⟨t1, t2⟩ | ⟨t1, t2⟩
    · rw [t1, t2]; unfold mDef; rw [t1]; rfl
    · rw [t1]; unfold mDef; rw [t1]
      rcases t2 with ⟨n, t2⟩ | ⟨n, t2⟩ <;> rw [t2] <;> rfl
    · rw [t1, t2]; unfold mDef; rw [t1]; rfl
  · rw [k3 q (by have := hS.1; have := hP.2.1; omega)]
    exact hS.2.1 q q1 q2
theorem xNewa {ty : ArrayType} {kd : Nat} {n : Int} (C : xCtx p m c s args meth cc nL own ini D z ex aV cA sc) (hdec : decode cc pc = .ok (.newarray ty, 2)) (hk : (kd = 20 ∧ ty = .int) ∨ (kd = 21 ∧ ty = .boolean)) (h0 : 0 ≤ n) (hn : n < 100000) (hP : xP D z ex cA HB h H) (hS : va_S (xA z) s.heap H locs)
    (hr1 : cells + 1 ≤ R.cells) (hr2 : slots + n.toNat ≤ R.slots)
    (kk : ∀ H', xP D z ex cA HB (mNew h kd n.toNat (fun _ => 0)) H' → va_S (xA z) s.heap H' locs → W p l e R s m args below meth c H' locs (cells + 1) (slots + n.toNat) Q (F0 m (pc + 2) ls (.ref (z + mN h) :: st.map (xV z ex)))) : W p l e R s m args below meth c H locs cells slots Q (F0 m pc ls (.int (Int32.ofInt n) :: st.map (xV z ex))) := by
  obtain ⟨⟨hx, hb, -, hown, hts⟩, -, hK, -⟩ := C
  have hc : (Int32.ofInt n).toNatClampNeg = n.toNat := Int32.toNatClampNeg_ofInt_of_le (by omega) (by omega)
  have hneg : ¬ Int32.ofInt n < 0 := by
    rw [show (0 : Int32) = Int32.ofInt 0 from rfl, ofInt_lt (by omega) (by omega)]
    omega
  have fin : ∀ (cX : ClassId), (∀ a, xC z ex cA (mNew h kd n.toNat (fun _ => 0)) (mN h) = a → ∀ H1 : Heap, H1[z + mN h]? = some (arrV cX n.toNat (fun _ => .int 0)) → va_at D vwCl (z + mN h, a) H1) → ∀ H1 : Heap, H1[z + mN h]? = some (arrV cX n.toNat (fun _ => .int 0)) → H1.size = z + mN h + 1 → (∀ q, q < z + mN h → H1[q]? = H[q]?) →
      W p l e R s m args below meth c H1 locs (cells + 1) (slots + n.toNat) Q (F0 m (pc + 2) ls (.ref (z + mN h) :: st.map (xV z ex))) := by
    intro cX hat H1 k1 k2 k3
    refine kk H1 (hP.new (by rw [k2, hP.2.1]) (fun q hq => k3 q (by rw [← hP.2.1]; exact hq)) (hat _ rfl H1 k1)) ⟨by rw [k2]; have := hS.1; have := hP.2.1; omega, fun q q1 q2 => ?_, hS.2.2⟩
    rw [k3 q (by have := hS.1; have := hP.2.1; omega)]
    exact hS.2.1 q q1 q2
  rcases hk with ⟨rfl, rfl⟩ | ⟨rfl, rfl⟩
  · refine va_newaK (atype := .int) hx hb (hts _ xArr_int) rfl hdec rfl hneg hc (by show n.toNat * 4 ≤ _; omega) hr1 hr2 hP.2.1 fun H1 cX k1 k2 k3 k4 k5 => ?_
    have hcA : cX = cA 0 := Option.some.inj (k5.symm.trans (va_nm_int (hK.2 0 _ rfl).2))
    subst hcA
    refine fin _ ?_ H1 k1 k2 k3
    intro a ha H2 k6
    subst ha
    rw [xC_i (by rw [mK_new, if_pos rfl])]
    show H2[z + mN h]? = some (arrV (cA 0) (mL (mNew h 20 n.toNat (fun _ => 0)) (mN h)) fun k => .int (Int32.ofInt (mC (mNew h 20 n.toNat (fun _ => 0)) (mN h) k)))
    rw [k6, mL_new, if_pos rfl]
    congr 2
    funext k
    rw [mC_new, if_pos rfl]
    rfl
  · refine va_newaK (atype := .boolean) hx hb (hts _ xArr_boolean) rfl hdec rfl hneg hc (by show n.toNat * 1 ≤ _; omega) hr1 hr2 hP.2.1 fun H1 cX k1 k2 k3 k4 k5 => ?_
    have hcA : cX = cA 1 := Option.some.inj (k5.symm.trans (va_nm_boolean (hK.2 1 _ rfl).2))
    subst hcA
    refine fin _ ?_ H1 k1 k2 k3
    intro a ha H2 k6
    subst ha
    rw [xC_z (by rw [mK_new, if_pos rfl])]
    show H2[z + mN h]? = some (arrV (cA 1) (mL (mNew h 21 n.toNat (fun _ => 0)) (mN h)) fun k => .int (Int32.ofInt (mC (mNew h 21 n.toNat (fun _ => 0)) (mN h) k)))
    rw [k6, mL_new, if_pos rfl]
    congr 2
    funext k
    rw [mC_new, if_pos rfl]
    rfl
theorem xNewq {idx : Nat} {n : Int} (C : xCtx p m c s args meth cc nL own ini D z ex aV cA sc) (hdec : decode cc pc = .ok (.anewarray idx, 3)) (hl : Cond.classLink (xCn own) idx "java/lang/Object" ∈ BW) (h0 : 0 ≤ n) (hn : n < 100000) (hP : xP D z ex cA HB h H) (hS : va_S (xA z) s.heap H locs)
    (hr1 : cells + 1 ≤ R.cells) (hr2 : slots + n.toNat ≤ R.slots)
    (kk : ∀ H', xP D z ex cA HB (mNew h 22 n.toNat (fun _ => -1)) H' → va_S (xA z) s.heap H' locs → W p l e R s m args below meth c H' locs (cells + 1) (slots + n.toNat) Q (F0 m (pc + 3) ls (.ref (z + mN h) :: st.map (xV z ex)))) : W p l e R s m args below meth c H locs cells slots Q (F0 m pc ls (.int (Int32.ofInt n) :: st.map (xV z ex))) := by
  obtain ⟨⟨hx, hb, -, hown, hts⟩, -, hK, hN, -⟩ := C
  have hc : (Int32.ofInt n).toNatClampNeg = n.toNat := Int32.toNatClampNeg_ofInt_of_le (by omega) (by omega)
  have hneg : ¬ Int32.ofInt n < 0 := by
    rw [show (0 : Int32) = Int32.ofInt 0 from rfl, ofInt_lt (by omega) (by omega)]
    omega
  refine W.anew hx hb hown (hts _ hl) (va_AO.use hN.2.2.2.2.1) rfl hdec rfl hneg (by rw [hc]; omega) hr1 (by rw [hc]; exact hr2) fun cX kX comp f1 f2 f3 f4 => ?_
  rw [hc, arrV_new]
  have hcA : cX = cA 2 := by
    obtain ⟨kA, comp, k1, k2, k3, k4⟩ := (hK.2 2 _ rfl).2
    exact Option.some.inj (f1.symm.trans k4)
  subst hcA
  have hz := hP.2.1
  have k3 : ∀ q, q < H.size → (H.push (arrV (cA 2) n.toNat (fun _ => .null)))[q]? = H[q]? := fun q hq => by rw [Array.getElem?_push_lt hq, Array.getElem?_eq_getElem hq]
  rw [hz]
  refine kk _ (hP.new (by rw [Array.size_push]) k3 ?_) ⟨by rw [Array.size_push]; have := hS.1; omega, fun q q1 q2 => ?_, hS.2.2⟩
  · rw [xC_q (by rw [mK_new, if_pos rfl])]
    show (H.push _)[z + mN h]? = some (arrV (cA 2) (mL (mNew h 22 n.toNat (fun _ => -1)) (mN h)) fun k => va_rf (xR z ex (mC (mNew h 22 n.toNat (fun _ => -1)) (mN h) k)))
    rw [← hz, Array.getElem?_push_size, mL_new, if_pos rfl]
    congr 2
    funext k
    rw [mC_new, if_pos rfl]
    rfl
  · rw [k3 q (by have := hS.1; omega)]
    exact hS.2.1 q q1 q2
theorem xAlen {q : Nat} (C : xCtx p m c s args meth cc nL own ini D z ex aV cA sc) (hdec : decode cc pc = .ok (.arraylength, 1)) (hP : xP D z ex cA HB h H) (hq : q < mN h) (hk : 20 ≤ mK h q ∧ mK h q < 23)
    (kk : W p l e R s m args below meth c H locs cells slots Q (F0 m (pc + 1) ls (.int (Int32.ofInt (mL h q : Int)) :: st.map (xV z ex)))) : W p l e R s m args below meth c H locs cells slots Q (F0 m pc ls (.ref (z + q) :: st.map (xV z ex))) := by
  obtain ⟨⟨hx, hb, -, hown, hts⟩, -, hK, -⟩ := C
  have hat := hP.1 q hq
  have e : Int32.ofNat (mL h q) = Int32.ofInt (mL h q : Int) := Int32.ofInt_eq_ofNat.symm
  rcases (show mK h q = 20 ∨ mK h q = 21 ∨ mK h q = 22 by omega) with hk | hk | hk
  · rw [xC_i hk] at hat
    exact va_alen hx hb hK (va_P1 hat) 0 0 rfl rfl e hdec kk
  · rw [xC_z hk] at hat
    exact va_alen hx hb hK (va_P1 hat) 0 1 rfl rfl e hdec kk
  · rw [xC_q hk] at hat
    exact va_alen hx hb hK (va_P1 hat) 0 2 rfl rfl e hdec kk
theorem xCast1 {q idx : Nat} (C : xCtx p m c s args meth cc nL own ini D z ex aV cA sc) (hdec : decode cc pc = .ok (.checkcast idx, 3)) (hl : Cond.classLink (xCn own) idx "LaidQuarrel$Bottle" ∈ BW) (hP : xP D z ex cA HB h H) (hq : q < mN h) (hk : mK h q < 13) (hi : mIsa (mK h q) 1 = true)
    (kk : W p l e R s m args below meth c H locs cells slots Q (F0 m (pc + 3) ls (.ref (z + q) :: st.map (xV z ex)))) : W p l e R s m args below meth c H locs cells slots Q (F0 m pc ls (.ref (z + q) :: st.map (xV z ex))) := by
  obtain ⟨⟨hx, hb, -, hown, hts⟩, -, hK, hN, -⟩ := C
  have hat := hP.1 q hq
  rw [xC_obj hk] at hat
  obtain ⟨C2, T2, N2, ty, e1, -⟩ := xCls _ hk
  have hrec := va_recv (q0 := 0) hK (va_P1 hat) e1 rfl
  have hat1 := (hK.1 _ _ e1).2
  by_cases h1 : mK h q = 1
  · rw [h1] at e1
    cases e1
    exact va_castS hx hb hown (hts _ hl) hat1 hrec hdec kk
  · have hcast : va_Nw (.castable C2 "LaidQuarrel$Bottle") s := by
      have hC : (C2, "LaidQuarrel$Bottle") ∈ xCast := by
        rcases xSub_1 hi with h | h | h | h | h | h | h
        · exact absurd h h1
        all_goals (rw [h] at e1; cases e1; decide +kernel)
      exact hN.2.1 _ hC
    exact va_castY hx hb hown (hts _ hl) hcast hrec hdec kk
theorem xSw {l : List (Int × Int)} {x a : Int} (h : ∀ q ∈ l, 0 ≤ q.2) (ha : 0 ≤ a) : 0 ≤ (l.lookup x).getD a := by
  cases e : l.lookup x with
  | none => exact ha
  | some v => exact h _ (lookup_mem e)
theorem xLook {ps : List (Int × Int)} {d x pc : Int} : ((ps.map fun q => (q.1, pc + q.2)).lookup x).getD (pc + d) = pc + Jvm.Op.lookupswitch.offset ps d x := by
  induction ps with
  | nil => rfl
  | cons q ps ih =>
    rw [List.map_cons, List.lookup_cons]
    by_cases e : x = q.1
    · subst e
      simp [Jvm.Op.lookupswitch.offset]
    · have e2 : (x == q.1) = false := by simp [e]
      rw [e2]
      simp only [Bool.false_eq_true, if_false]
      have e3 : ¬ q.1 = x := fun h => e h.symm
      have : Jvm.Op.lookupswitch.offset (q :: ps) d x = Jvm.Op.lookupswitch.offset ps d x := by simp [Jvm.Op.lookupswitch.offset, e3]
      rw [this]
      exact ih
theorem xLkR {lo x : Int} {n : Nat} {f : Nat → Int} (h1 : lo ≤ x) (h2 : (x - lo).toNat < n) : ((List.range n).map fun (j : Nat) => (lo + (j : Int), f j)).lookup x = some (f (x - lo).toNat) := by
  induction n with
  | zero => omega
  | succ n ih =>
    rw [List.range_succ, List.map_append, List.lookup_append]
    by_cases e : (x - lo).toNat < n
    · rw [ih e]
      rfl
    · have e2 : (x - lo).toNat = n := by omega
      have e3 : ((List.range n).map fun (j : Nat) => (lo + (j : Int), f j)).lookup x = none := by
        cases e : ((List.range n).map fun (j : Nat) => (lo + (j : Int), f j)).lookup x with
        | none => rfl
        | some v =>
          obtain ⟨j, hj, e4⟩ := List.mem_map.mp (lookup_mem e)
          have hj := List.mem_range.mp hj
          simp only [Prod.mk.injEq] at e4
          omega
      rw [e3, e2]
      have e4 : x = lo + (n : Int) := by omega
      simp [e4]

/-- an instruction's length (0: any) -/
def xLn : Instr → Nat
  | .bipush _ | .ldc _ | .iload _ | .aload _ | .lload _ | .istore _ | .astore _ | .lstore _ | .newarray _ => 2
  | .sipush _ | .ldc_w _ | .ldc2_w _ | .iinc _ _ | .ifCond _ _ | .if_icmp _ _ | .ifnull _ | .ifnonnull _ | .if_acmp _ _ | .goto _ | .getfield _ | .putfield _ | .new _ | .anewarray _ | .getstatic _ | .checkcast _ | .invokestatic _ | .invokespecial _ | .invokevirtual _ => 3
  | .invokeinterface _ _ => 5
  | .tableswitch _ _ _ _ | .lookupswitch _ _ => 0
  | _ => 1
theorem xLenOf {i : Instr} {len n : Nat} (h : xLn i = 0 ∨ len = xLn i) (hn : n ≠ 0) (e : xLn i = n) : len = n := by
  rcases h with h | h
  · exact absurd (e.symm.trans h) hn
  · rw [h, e]
theorem ofInt8 {n : Int} (h : -128 ≤ n ∧ n < 128) : (Int8.ofInt n).toInt32 = Int32.ofInt n := by
  rw [← Int32.ofInt_toInt (Int8.ofInt n).toInt32, Int8.toInt_toInt32, Int8.toInt_ofInt_of_le (by omega) (by omega)]
theorem ofInt16 {n : Int} (h : -32768 ≤ n ∧ n < 32768) : (Int16.ofInt n).toInt32 = Int32.ofInt n := by
  rw [← Int32.ofInt_toInt (Int16.ofInt n).toInt32, Int16.toInt_toInt32, Int16.toInt_ofInt_of_le (by omega) (by omega)]
theorem ofInt_ne0 {y : Int} (h : inR y) (h0 : y ≠ 0) : ¬ Int32.ofInt y = 0 := by
  rw [show (0 : Int32) = Int32.ofInt 0 from rfl, ofInt_inj h (by omega)]
  exact h0
theorem ofInt64_inj {x y : Int} (hx : inR64 x) (hy : inR64 y) : Int64.ofInt x = Int64.ofInt y ↔ x = y := by
  constructor
  · intro h
    have h2 := congrArg Int64.toInt h
    rwa [Int64.toInt_ofInt_of_le (by omega) (by omega), Int64.toInt_ofInt_of_le (by omega) (by omega)] at h2
  · intro h
    rw [h]
theorem ofInt64_lt {x y : Int} (hx : inR64 x) (hy : inR64 y) : Int64.ofInt x < Int64.ofInt y ↔ x < y := by
  rw [Int64.lt_iff_toInt_lt, Int64.toInt_ofInt_of_le (by omega) (by omega), Int64.toInt_ofInt_of_le (by omega) (by omega)]
theorem xRneq {z : Nat} {ex : Int → Nat} {x y : Int} (hx : ex (-2) < z) (h1 : x = -2 ∨ x = -1 ∨ 0 ≤ x) (h2 : y = -2 ∨ y = -1 ∨ 0 ≤ y) : xR z ex x = xR z ex y ↔ x = y := by
  constructor
  · intro h
    rcases h1 with rfl | rfl | h1
    · rw [xR_ex (by decide)] at h
      rcases h2 with rfl | rfl | h2
      · rfl
      · rw [xR_null] at h; cases h
      · rw [xR_own h2] at h
        have := Option.some.inj h
        omega
    · rw [xR_null] at h
      rcases h2 with rfl | rfl | h2
      · rw [xR_ex (by decide)] at h; cases h
      · rfl
      · rw [xR_own h2] at h; cases h
    · rw [xR_own h1] at h
      rcases h2 with rfl | rfl | h2
      · rw [xR_ex (by decide)] at h
        have := Option.some.inj h
        omega
      · rw [xR_null] at h; cases h
      · rw [xR_own h2] at h
        have := Option.some.inj h
        omega
  · intro h
    rw [h]
theorem xRnn {z : Nat} {ex : Int → Nat} {x : Int} (h : x ≠ -1) : ∃ y, xR z ex x = some y := by
  unfold xR
  rw [if_neg h]
  exact ⟨_, rfl⟩
set_option maxHeartbeats 4000000 in
/-- every instruction that is no call and no return -/
theorem xStep {i : Instr} {len op pc' : Nat} {a b : Int} {tl : List (Int × Int)} {lv lv' st' : List AV} {h' : Hp} (C : xCtx p m c s args meth cc nL own ini D z ex aV cA sc) (hdec : decode cc pc = .ok (i, len)) (hln : xLn i = 0 ∨ len = xLn i) (hd : xDec own ini pc i = some (op, a, b, tl)) (hs : mStep sc op a b tl (pc + len) lv st h = some (pc', lv', st', h'))
    (hAL : xAL z ex ls nL lv) (hP : xP D z ex cA HB h H) (hS : va_S (xA z) s.heap H locs) (hr1 : cells + (mN h' - mN h) ≤ R.cells) (hr2 : slots + (mS h' - mS h) ≤ R.slots)
    (kk : ∀ H' locs' ls', xP D z ex cA HB h' H' → va_S (xA z) s.heap H' locs' → xAL z ex ls' nL lv' → W p l e R s m args below meth c H' locs' (cells + (mN h' - mN h)) (slots + (mS h' - mS h)) Q (F0 m pc' ls' (st'.map (xV z ex)))) :
    W p l e R s m args below meth c H locs cells slots Q (F0 m pc ls (st.map (xV z ex))) := by
  have kk0 : h' = h → ∀ ls', xAL z ex ls' nL lv' → W p l e R s m args below meth c H locs cells slots Q (F0 m pc' ls' (st'.map (xV z ex))) := by
    intro e1 ls' g
    subst e1
    have := kk H locs ls' hP hS g
    rwa [Nat.sub_self, Nat.sub_self, Nat.add_zero, Nat.add_zero] at this
  have kkp : ∀ (q k : Nat) (x : Int), h' = mPut h q k x → ∀ H' locs', xP D z ex cA HB (mPut h q k x) H' → va_S (xA z) s.heap H' locs' → lv' = lv → W p l e R s m args below meth c H' locs' cells slots Q (F0 m pc' ls (st'.map (xV z ex))) := by
    intro q k x e1 H' locs' g1 g2 e2
    subst e1
    subst e2
    have := kk H' locs' ls g1 g2 hAL
    rwa [mN_put, mS_put, Nat.sub_self, Nat.sub_self, Nat.add_zero, Nat.add_zero] at this
  have kkn : ∀ (kd ln : Nat) (v : Nat → Int), h' = mNew h kd ln v → (cells + 1 ≤ R.cells ∧ slots + ln ≤ R.slots) ∧ ∀ H', xP D z ex cA HB (mNew h kd ln v) H' → va_S (xA z) s.heap H' locs → lv' = lv → W p l e R s m args below meth c H' locs (cells + 1) (slots + ln) Q (F0 m pc' ls (st'.map (xV z ex))) := by
    intro kd ln v e1
    subst e1
    rw [mN_new, Nat.add_sub_cancel_left] at hr1
    rw [mS_new, Nat.add_sub_cancel_left] at hr2
    refine ⟨⟨hr1, hr2⟩, fun H' g1 g2 e2 => ?_⟩
    subst e2
    have := kk H' locs ls g1 g2 hAL
    rwa [mN_new, mS_new, Nat.add_sub_cancel_left, Nat.add_sub_cancel_left] at this
  have C' := C
  obtain ⟨⟨hx, hb, hml, hown, hts⟩, hini, hK, hN, hz, hsc, hx2⟩ := C'
  clear kk
  cases i with
  | iload k =>
    obtain rfl : len = 2 := xLenOf hln (by decide) rfl
    simp only [xDec, Option.some.injEq, Prod.mk.injEq] at hd
    obtain ⟨rfl, rfl, rfl, rfl⟩ := hd
    simp only [mStep] at hs
    rw [Int.toNat_natCast] at hs
    split at hs
    · rename_i v hv
      split at hs
      · rename_i ht
        simp only [Option.some.injEq, Prod.mk.injEq] at hs
        obtain ⟨rfl, rfl, rfl, rfl⟩ := hs
        exact xLd (b := 0) C hdec (k := k) (Or.inl ⟨rfl, rfl, rfl⟩) hAL hv ht (kk0 rfl ls hAL)
      · cases hs
    · cases hs
  | aload k =>
    obtain rfl : len = 2 := xLenOf hln (by decide) rfl
    simp only [xDec, Option.some.injEq, Prod.mk.injEq] at hd
    obtain ⟨rfl, rfl, rfl, rfl⟩ := hd
    simp only [mStep] at hs
    rw [Int.toNat_natCast] at hs
    split at hs
    · rename_i v hv
      split at hs
      · rename_i ht
        simp only [Option.some.injEq, Prod.mk.injEq] at hs
        obtain ⟨rfl, rfl, rfl, rfl⟩ := hs
        exact xLd (b := 0) C hdec (k := k) (Or.inr (Or.inl ⟨rfl, rfl, rfl⟩)) hAL hv ht (kk0 rfl ls hAL)
      · cases hs
    · cases hs
  | lload k =>
    obtain rfl : len = 2 := xLenOf hln (by decide) rfl
    simp only [xDec, Option.some.injEq, Prod.mk.injEq] at hd
    obtain ⟨rfl, rfl, rfl, rfl⟩ := hd
    simp only [mStep] at hs
    rw [Int.toNat_natCast] at hs
    split at hs
    · rename_i v hv
      split at hs
      · rename_i ht
        simp only [Option.some.injEq, Prod.mk.injEq] at hs
        obtain ⟨rfl, rfl, rfl, rfl⟩ := hs
        exact xLd (b := 0) C hdec (k := k) (Or.inr (Or.inr (Or.inl ⟨rfl, rfl, rfl⟩))) hAL hv ht (kk0 rfl ls hAL)
      · cases hs
    · cases hs
  | iload_n k =>
    obtain rfl : len = 1 := xLenOf hln (by decide) rfl
    simp only [xDec, Option.some.injEq, Prod.mk.injEq] at hd
    obtain ⟨rfl, rfl, rfl, rfl⟩ := hd
    simp only [mStep] at hs
    rw [Int.toNat_natCast] at hs
    split at hs
    · rename_i v hv
      split at hs
      · rename_i ht
        simp only [Option.some.injEq, Prod.mk.injEq] at hs
        obtain ⟨rfl, rfl, rfl, rfl⟩ := hs
        exact xLd (b := 0) C hdec (k := (k : Nat)) (Or.inr (Or.inr (Or.inr ⟨k, rfl, rfl, Or.inl ⟨rfl, rfl⟩⟩))) hAL hv ht (kk0 rfl ls hAL)
      · cases hs
    · cases hs
  | aload_n k =>
    obtain rfl : len = 1 := xLenOf hln (by decide) rfl
    simp only [xDec, Option.some.injEq, Prod.mk.injEq] at hd
    obtain ⟨rfl, rfl, rfl, rfl⟩ := hd
    simp only [mStep] at hs
    rw [Int.toNat_natCast] at hs
    split at hs
    · rename_i v hv
      split at hs
      · rename_i ht
        simp only [Option.some.injEq, Prod.mk.injEq] at hs
        obtain ⟨rfl, rfl, rfl, rfl⟩ := hs
        exact xLd (b := 0) C hdec (k := (k : Nat)) (Or.inr (Or.inr (Or.inr ⟨k, rfl, rfl, Or.inr (Or.inl ⟨rfl, rfl⟩)⟩))) hAL hv ht (kk0 rfl ls hAL)
      · cases hs
    · cases hs
  | lload_n k =>
    obtain rfl : len = 1 := xLenOf hln (by decide) rfl
    simp only [xDec, Option.some.injEq, Prod.mk.injEq] at hd
    obtain ⟨rfl, rfl, rfl, rfl⟩ := hd
    simp only [mStep] at hs
    rw [Int.toNat_natCast] at hs
    split at hs
    · rename_i v hv
      split at hs
      · rename_i ht
        simp only [Option.some.injEq, Prod.mk.injEq] at hs
        obtain ⟨rfl, rfl, rfl, rfl⟩ := hs
        exact xLd (b := 0) C hdec (k := (k : Nat)) (Or.inr (Or.inr (Or.inr ⟨k, rfl, rfl, Or.inr (Or.inr ⟨rfl, rfl⟩)⟩))) hAL hv ht (kk0 rfl ls hAL)
      · cases hs
    · cases hs
  | istore k =>
    obtain rfl : len = 2 := xLenOf hln (by decide) rfl
    simp only [xDec, Option.some.injEq, Prod.mk.injEq] at hd
    obtain ⟨rfl, rfl, rfl, rfl⟩ := hd
    simp only [mStep] at hs
    rw [Int.toNat_natCast] at hs
    split at hs
    · rename_i v r
      split at hs
      · rename_i ht
        split at hs
        · rename_i lv2 hm
          simp only [Option.some.injEq, Prod.mk.injEq] at hs
          obtain ⟨rfl, rfl, rfl, rfl⟩ := hs
          exact xSto C hdec (Or.inl ⟨rfl, rfl, rfl⟩) hAL hm ht (kk0 rfl)
        · cases hs
      · cases hs
    · cases hs
  | astore k =>
    obtain rfl : len = 2 := xLenOf hln (by decide) rfl
    simp only [xDec, Option.some.injEq, Prod.mk.injEq] at hd
    obtain ⟨rfl, rfl, rfl, rfl⟩ := hd
    simp only [mStep] at hs
    rw [Int.toNat_natCast] at hs
    split at hs
    · rename_i v r
      split at hs
      · rename_i ht
        split at hs
        · rename_i lv2 hm
          simp only [Option.some.injEq, Prod.mk.injEq] at hs
          obtain ⟨rfl, rfl, rfl, rfl⟩ := hs
          exact xSto C hdec (Or.inr (Or.inl ⟨rfl, rfl, rfl⟩)) hAL hm ht (kk0 rfl)
        · cases hs
      · cases hs
    · cases hs
  | lstore k =>
    obtain rfl : len = 2 := xLenOf hln (by decide) rfl
    simp only [xDec, Option.some.injEq, Prod.mk.injEq] at hd
    obtain ⟨rfl, rfl, rfl, rfl⟩ := hd
    simp only [mStep] at hs
    rw [Int.toNat_natCast] at hs
    split at hs
    · rename_i v r
      split at hs
      · rename_i ht
        split at hs
        · rename_i lv2 hm
          simp only [Option.some.injEq, Prod.mk.injEq] at hs
          obtain ⟨rfl, rfl, rfl, rfl⟩ := hs
          exact xSto C hdec (Or.inr (Or.inr (Or.inl ⟨rfl, rfl, rfl⟩))) hAL hm ht (kk0 rfl)
        · cases hs
      · cases hs
    · cases hs
  | istore_n k =>
    obtain rfl : len = 1 := xLenOf hln (by decide) rfl
    simp only [xDec, Option.some.injEq, Prod.mk.injEq] at hd
    obtain ⟨rfl, rfl, rfl, rfl⟩ := hd
    simp only [mStep] at hs
    rw [Int.toNat_natCast] at hs
    split at hs
    · rename_i v r
      split at hs
      · rename_i ht
        split at hs
        · rename_i lv2 hm
          simp only [Option.some.injEq, Prod.mk.injEq] at hs
          obtain ⟨rfl, rfl, rfl, rfl⟩ := hs
          exact xSto C hdec (Or.inr (Or.inr (Or.inr ⟨k, rfl, rfl, Or.inl ⟨rfl, rfl⟩⟩))) hAL hm ht (kk0 rfl)
        · cases hs
      · cases hs
    · cases hs
  | astore_n k =>
    obtain rfl : len = 1 := xLenOf hln (by decide) rfl
    simp only [xDec, Option.some.injEq, Prod.mk.injEq] at hd
    obtain ⟨rfl, rfl, rfl, rfl⟩ := hd
    simp only [mStep] at hs
    rw [Int.toNat_natCast] at hs
    split at hs
    · rename_i v r
      split at hs
      · rename_i ht
        split at hs
        · rename_i lv2 hm
          simp only [Option.some.injEq, Prod.mk.injEq] at hs
          obtain ⟨rfl, rfl, rfl, rfl⟩ := hs
          exact xSto C hdec (Or.inr (Or.inr (Or.inr ⟨k, rfl, rfl, Or.inr (Or.inl ⟨rfl, rfl⟩)⟩))) hAL hm ht (kk0 rfl)
        · cases hs
      · cases hs
    · cases hs
  | lstore_n k =>
    obtain rfl : len = 1 := xLenOf hln (by decide) rfl
    simp only [xDec, Option.some.injEq, Prod.mk.injEq] at hd
    obtain ⟨rfl, rfl, rfl, rfl⟩ := hd
    simp only [mStep] at hs
    rw [Int.toNat_natCast] at hs
    split at hs
    · rename_i v r
      split at hs
      · rename_i ht
        split at hs
        · rename_i lv2 hm
          simp only [Option.some.injEq, Prod.mk.injEq] at hs
          obtain ⟨rfl, rfl, rfl, rfl⟩ := hs
          exact xSto C hdec (Or.inr (Or.inr (Or.inr ⟨k, rfl, rfl, Or.inr (Or.inr ⟨rfl, rfl⟩)⟩))) hAL hm ht (kk0 rfl)
        · cases hs
      · cases hs
    · cases hs
  | iconst n =>
    obtain rfl : len = 1 := xLenOf hln (by decide) rfl
    simp only [xDec, Option.some.injEq, Prod.mk.injEq] at hd
    obtain ⟨rfl, rfl, rfl, rfl⟩ := hd
    simp only [mStep] at hs
    simp only [Option.some.injEq, Prod.mk.injEq] at hs
    obtain ⟨rfl, rfl, rfl, rfl⟩ := hs
    exact lv_iconst hx hb hdec rfl (kk0 rfl ls hAL)
  | bipush n =>
    obtain rfl : len = 2 := xLenOf hln (by decide) rfl
    simp only [xDec] at hd
    split at hd
    · rename_i hr
      simp only [Option.some.injEq, Prod.mk.injEq] at hd
      obtain ⟨rfl, rfl, rfl, rfl⟩ := hd
      simp only [mStep] at hs
      simp only [Option.some.injEq, Prod.mk.injEq] at hs
      obtain ⟨rfl, rfl, rfl, rfl⟩ := hs
      exact lv_bipush hx hb hdec (ofInt8 hr) (kk0 rfl ls hAL)
    · cases hd
  | sipush n =>
    obtain rfl : len = 3 := xLenOf hln (by decide) rfl
    simp only [xDec] at hd
    split at hd
    · rename_i hr
      simp only [Option.some.injEq, Prod.mk.injEq] at hd
      obtain ⟨rfl, rfl, rfl, rfl⟩ := hd
      simp only [mStep] at hs
      simp only [Option.some.injEq, Prod.mk.injEq] at hs
      obtain ⟨rfl, rfl, rfl, rfl⟩ := hs
      exact lv_sipush hx hb hdec (ofInt16 hr) (kk0 rfl ls hAL)
    · cases hd
  | ldc k =>
    obtain rfl : len = 2 := xLenOf hln (by decide) rfl
    simp only [xDec] at hd
    split at hd
    · rename_i v hv
      simp only [Option.some.injEq, Prod.mk.injEq] at hd
      obtain ⟨rfl, rfl, rfl, rfl⟩ := hd
      simp only [mStep] at hs
      simp only [Option.some.injEq, Prod.mk.injEq] at hs
      obtain ⟨rfl, rfl, rfl, rfl⟩ := hs
      exact lv_ldc hx hb hown (hts _ (xLC_ok _ (lookup_mem hv))) hdec (kk0 rfl ls hAL)
    · split at hd
      · rename_i v hv
        simp only [Option.some.injEq, Prod.mk.injEq] at hd
        obtain ⟨rfl, rfl, rfl, rfl⟩ := hd
        simp only [mStep] at hs
        simp only [Option.some.injEq, Prod.mk.injEq] at hs
        obtain ⟨rfl, rfl, rfl, rfl⟩ := hs
        obtain ⟨q, hq, e1, e2, e3⟩ := xLS_ok _ (lookup_mem hv)
        have hr := hN.2.2.2.2.2.2.2.1 q hq
        have k := kk0 rfl ls hAL
        rw [List.map_cons, xV_ref, xR_ex (by omega)] at k
        rw [e1] at hr
        have e2 : q.2.1 = xCn own := e2
        have e3 : q.2.2.1 = _ := e3
        rw [e2, e3] at hr
        exact va_ldcS hx hb hown hr hdec k
      · cases hd
  | ldc_w k =>
    obtain rfl : len = 3 := xLenOf hln (by decide) rfl
    simp only [xDec] at hd
    split at hd
    · rename_i v hv
      simp only [Option.some.injEq, Prod.mk.injEq] at hd
      obtain ⟨rfl, rfl, rfl, rfl⟩ := hd
      simp only [mStep] at hs
      simp only [Option.some.injEq, Prod.mk.injEq] at hs
      obtain ⟨rfl, rfl, rfl, rfl⟩ := hs
      exact lv_ldcw hx hb hown (hts _ (xLC_ok _ (lookup_mem hv))) hdec (kk0 rfl ls hAL)
    · cases hd
  | ldc2_w k =>
    obtain rfl : len = 3 := xLenOf hln (by decide) rfl
    simp only [xDec] at hd
    split at hd
    · rename_i v hv
      simp only [Option.some.injEq, Prod.mk.injEq] at hd
      obtain ⟨rfl, rfl, rfl, rfl⟩ := hd
      simp only [mStep] at hs
      simp only [Option.some.injEq, Prod.mk.injEq] at hs
      obtain ⟨rfl, rfl, rfl, rfl⟩ := hs
      exact lv_ldc2 hx hb hown (hts _ (xLL_ok _ (lookup_mem hv))) hdec (kk0 rfl ls hAL)
    · cases hd
  | lconst n =>
    obtain rfl : len = 1 := xLenOf hln (by decide) rfl
    simp only [xDec, Option.some.injEq, Prod.mk.injEq] at hd
    obtain ⟨rfl, rfl, rfl, rfl⟩ := hd
    simp only [mStep] at hs
    simp only [Option.some.injEq, Prod.mk.injEq] at hs
    obtain ⟨rfl, rfl, rfl, rfl⟩ := hs
    exact lv_lconst hx hb hdec (by match n with | 0 => rfl | 1 => rfl) (kk0 rfl ls hAL)
  | iinc k n =>
    obtain rfl : len = 3 := xLenOf hln (by decide) rfl
    simp only [xDec, Option.some.injEq, Prod.mk.injEq] at hd
    obtain ⟨rfl, rfl, rfl, rfl⟩ := hd
    simp only [mStep] at hs
    rw [Int.toNat_natCast] at hs
    split at hs
    · rename_i x hv
      split at hs
      · rename_i lv2 hm
        simp only [Option.some.injEq, Prod.mk.injEq] at hs
        obtain ⟨rfl, rfl, rfl, rfl⟩ := hs
        have hk := (mSet_spec hm).1
        obtain ⟨j, hj⟩ : ∃ j, (xLs z ex lv)[j]? = some (k, Value.int (Int32.ofInt x)) := List.getElem?_of_mem (xLs_mem.mpr ⟨(0, x), hv, (by decide : (0 : Nat) ≠ 9), rfl⟩)
        exact lv_iinc hx hb hdec hAL.1 hj (Int32.ofInt_add x n).symm (by rw [← hAL.2]; exact hk) rfl (fun ls' g => kk0 rfl ls' (xAL.set1 (v := (0, x + n)) hAL.2 hm (by decide : (0 : Nat) ≠ 2) g))
      · cases hs
    · cases hs
  | iadd =>
    obtain rfl : len = 1 := xLenOf hln (by decide) rfl
    simp only [xDec, Option.some.injEq, Prod.mk.injEq] at hd
    obtain ⟨rfl, rfl, rfl, rfl⟩ := hd
    simp only [mStep] at hs
    split at hs
    · rename_i y x r
      have k := kk0
      simp only [mBin] at hs
      simp at hs
      obtain ⟨rfl, rfl, rfl, rfl⟩ := hs
      have k := kk0 rfl ls hAL
      rw [List.map_cons, xV_int, Int32.ofInt_add] at k
      exact lv_iadd hx hb hdec k
    · cases hs
  | isub =>
    obtain rfl : len = 1 := xLenOf hln (by decide) rfl
    simp only [xDec, Option.some.injEq, Prod.mk.injEq] at hd
    obtain ⟨rfl, rfl, rfl, rfl⟩ := hd
    simp only [mStep] at hs
    split at hs
    · rename_i y x r
      have k := kk0
      simp only [mBin] at hs
      simp at hs
      obtain ⟨rfl, rfl, rfl, rfl⟩ := hs
      have k := kk0 rfl ls hAL
      rw [List.map_cons, xV_int, Int32.ofInt_sub] at k
      exact lv_isub hx hb hdec k
    · cases hs
  | imul =>
    obtain rfl : len = 1 := xLenOf hln (by decide) rfl
    simp only [xDec, Option.some.injEq, Prod.mk.injEq] at hd
    obtain ⟨rfl, rfl, rfl, rfl⟩ := hd
    simp only [mStep] at hs
    split at hs
    · rename_i y x r
      have k := kk0
      simp only [mBin] at hs
      simp at hs
      obtain ⟨rfl, rfl, rfl, rfl⟩ := hs
      have k := kk0 rfl ls hAL
      rw [List.map_cons, xV_int, Int32.ofInt_mul] at k
      exact lv_imul hx hb hdec k
    · cases hs
  | iand =>
    obtain rfl : len = 1 := xLenOf hln (by decide) rfl
    simp only [xDec, Option.some.injEq, Prod.mk.injEq] at hd
    obtain ⟨rfl, rfl, rfl, rfl⟩ := hd
    simp only [mStep] at hs
    split at hs
    · rename_i y x r
      simp [mBin, mBit] at hs
      obtain ⟨rfl, rfl, rfl, rfl⟩ := hs
      have k := kk0 rfl ls hAL
      rw [List.map_cons, xV_int, Int32.ofInt_toInt] at k
      exact lv_iand hx hb hdec k
    · cases hs
  | ior =>
    obtain rfl : len = 1 := xLenOf hln (by decide) rfl
    simp only [xDec, Option.some.injEq, Prod.mk.injEq] at hd
    obtain ⟨rfl, rfl, rfl, rfl⟩ := hd
    simp only [mStep] at hs
    split at hs
    · rename_i y x r
      simp [mBin, mBit] at hs
      obtain ⟨rfl, rfl, rfl, rfl⟩ := hs
      have k := kk0 rfl ls hAL
      rw [List.map_cons, xV_int, Int32.ofInt_toInt] at k
      exact lv_ior hx hb hdec k
    · cases hs
  | ixor =>
    obtain rfl : len = 1 := xLenOf hln (by decide) rfl
    simp only [xDec, Option.some.injEq, Prod.mk.injEq] at hd
    obtain ⟨rfl, rfl, rfl, rfl⟩ := hd
    simp only [mStep] at hs
    split at hs
    · rename_i y x r
      simp [mBin, mBit] at hs
      obtain ⟨rfl, rfl, rfl, rfl⟩ := hs
      have k := kk0 rfl ls hAL
      rw [List.map_cons, xV_int, Int32.ofInt_toInt] at k
      exact lv_ixor hx hb hdec k
    · cases hs
  | ishl =>
    obtain rfl : len = 1 := xLenOf hln (by decide) rfl
    simp only [xDec, Option.some.injEq, Prod.mk.injEq] at hd
    obtain ⟨rfl, rfl, rfl, rfl⟩ := hd
    simp only [mStep] at hs
    split at hs
    · rename_i y x r
      simp [mBin, mBit] at hs
      obtain ⟨rfl, rfl, rfl, rfl⟩ := hs
      have k := kk0 rfl ls hAL
      rw [List.map_cons, xV_int, Int32.ofInt_toInt] at k
      exact lv_ishl hx hb hdec k
    · cases hs
  | ishr =>
    obtain rfl : len = 1 := xLenOf hln (by decide) rfl
    simp only [xDec, Option.some.injEq, Prod.mk.injEq] at hd
    obtain ⟨rfl, rfl, rfl, rfl⟩ := hd
    simp only [mStep] at hs
    split at hs
    · rename_i y x r
      simp [mBin, mBit] at hs
      obtain ⟨rfl, rfl, rfl, rfl⟩ := hs
      have k := kk0 rfl ls hAL
      rw [List.map_cons, xV_int, Int32.ofInt_toInt] at k
      exact lv_ishr hx hb hdec k
    · cases hs
  | iushr =>
    obtain rfl : len = 1 := xLenOf hln (by decide) rfl
    simp only [xDec, Option.some.injEq, Prod.mk.injEq] at hd
    obtain ⟨rfl, rfl, rfl, rfl⟩ := hd
    simp only [mStep] at hs
    split at hs
    · rename_i y x r
      simp [mBin, mBit] at hs
      obtain ⟨rfl, rfl, rfl, rfl⟩ := hs
      have k := kk0 rfl ls hAL
      rw [List.map_cons, xV_int, Int32.ofInt_toInt] at k
      exact lv_iushr hx hb hdec rfl k
    · cases hs
  | idiv =>
    obtain rfl : len = 1 := xLenOf hln (by decide) rfl
    simp only [xDec, Option.some.injEq, Prod.mk.injEq] at hd
    obtain ⟨rfl, rfl, rfl, rfl⟩ := hd
    simp only [mStep] at hs
    split at hs
    · rename_i y x r
      by_cases hc : (inR x ∧ inR y) ∧ y ≠ 0
      · have e : mBin ((3 : Int).toNat) x y = some ((Int32.ofInt x / Int32.ofInt y).toInt) := by
          show mBin 3 x y = _
          unfold mBin
          rw [if_neg (by decide), if_neg (by decide), if_neg (by decide), if_pos rfl, if_pos hc]
        rw [e] at hs
        simp only [Option.some.injEq, Prod.mk.injEq] at hs
        obtain ⟨rfl, rfl, rfl, rfl⟩ := hs
        have k := kk0 rfl ls hAL
        rw [List.map_cons, xV_int, Int32.ofInt_toInt] at k
        exact lv_idiv hx hb hdec (ofInt_ne0 hc.1.2 hc.2) k
      · have e : mBin ((3 : Int).toNat) x y = none := by
          show mBin 3 x y = _
          unfold mBin
          rw [if_neg (by decide), if_neg (by decide), if_neg (by decide), if_pos rfl, if_neg hc]
        rw [e] at hs
        cases hs
    · cases hs
  | irem =>
    obtain rfl : len = 1 := xLenOf hln (by decide) rfl
    simp only [xDec, Option.some.injEq, Prod.mk.injEq] at hd
    obtain ⟨rfl, rfl, rfl, rfl⟩ := hd
    simp only [mStep] at hs
    split at hs
    · rename_i y x r
      by_cases hc : (inR x ∧ inR y) ∧ y ≠ 0
      · have e : mBin ((4 : Int).toNat) x y = some ((Int32.ofInt x - Int32.ofInt x / Int32.ofInt y * Int32.ofInt y).toInt) := by
          show mBin 4 x y = _
          unfold mBin
          rw [if_neg (by decide), if_neg (by decide), if_neg (by decide), if_neg (by decide), if_pos rfl, if_pos hc]
        rw [e] at hs
        simp only [Option.some.injEq, Prod.mk.injEq] at hs
        obtain ⟨rfl, rfl, rfl, rfl⟩ := hs
        have k := kk0 rfl ls hAL
        rw [List.map_cons, xV_int, Int32.ofInt_toInt] at k
        exact lv_irem hx hb hdec (ofInt_ne0 hc.1.2 hc.2) k
      · have e : mBin ((4 : Int).toNat) x y = none := by
          show mBin 4 x y = _
          unfold mBin
          rw [if_neg (by decide), if_neg (by decide), if_neg (by decide), if_neg (by decide), if_pos rfl, if_neg hc]
        rw [e] at hs
        cases hs
    · cases hs
  | ineg =>
    obtain rfl : len = 1 := xLenOf hln (by decide) rfl
    simp only [xDec, Option.some.injEq, Prod.mk.injEq] at hd
    obtain ⟨rfl, rfl, rfl, rfl⟩ := hd
    simp only [mStep] at hs
    split at hs
    · rename_i x r
      simp only [Option.some.injEq, Prod.mk.injEq] at hs
      obtain ⟨rfl, rfl, rfl, rfl⟩ := hs
      have k := kk0 rfl ls hAL
      rw [List.map_cons, xV_int, Int32.ofInt_neg] at k
      exact lv_ineg hx hb hdec k
    · cases hs
  | ifCond cd off =>
    obtain rfl : len = 3 := xLenOf hln (by decide) rfl
    simp only [xDec] at hd
    split at hd
    rotate_left
    · cases hd
    rename_i ho
    simp only [Option.some.injEq, Prod.mk.injEq] at hd
    obtain ⟨rfl, rfl, rfl, rfl⟩ := hd
    simp only [mStep] at hs
    rw [Int.toNat_natCast] at hs
    split at hs
    · rename_i x r
      split at hs
      · rename_i hc
        simp only [Option.some.injEq, Prod.mk.injEq] at hs
        obtain ⟨rfl, rfl, rfl, rfl⟩ := hs
        exact xIf0 C hdec ho hc (kk0 rfl ls hAL)
      · cases hs
    · cases hs
  | if_icmp cd off =>
    obtain rfl : len = 3 := xLenOf hln (by decide) rfl
    simp only [xDec] at hd
    split at hd
    rotate_left
    · cases hd
    rename_i ho
    simp only [Option.some.injEq, Prod.mk.injEq] at hd
    obtain ⟨rfl, rfl, rfl, rfl⟩ := hd
    simp only [mStep] at hs
    rw [Int.toNat_natCast] at hs
    split at hs
    · rename_i y x r
      split at hs
      · rename_i hc
        simp only [Option.some.injEq, Prod.mk.injEq] at hs
        obtain ⟨rfl, rfl, rfl, rfl⟩ := hs
        exact xIcmp C hdec ho hc (kk0 rfl ls hAL)
      · cases hs
    · cases hs
  | ifnull off =>
    obtain rfl : len = 3 := xLenOf hln (by decide) rfl
    simp only [xDec] at hd
    split at hd
    rotate_left
    · cases hd
    rename_i ho
    simp only [Option.some.injEq, Prod.mk.injEq] at hd
    obtain ⟨rfl, rfl, rfl, rfl⟩ := hd
    simp only [mStep] at hs
    split at hs
    · rename_i x r
      simp only [Option.some.injEq, Prod.mk.injEq] at hs
      obtain ⟨rfl, rfl, rfl, rfl⟩ := hs
      have k := kk0 rfl ls hAL
      rw [List.map_cons, xV_ref]
      by_cases e : x = -1
      · subst e
        rw [xR_null]
        simp at k
        exact lv_ifnullN hx hb hdec (xTgt ho) k
      · obtain ⟨y, hy⟩ := xRnn (z := z) (ex := ex) e
        rw [hy]
        simp [e] at k
        exact lv_ifnull hx hb hdec k
    · cases hs
  | ifnonnull off =>
    obtain rfl : len = 3 := xLenOf hln (by decide) rfl
    simp only [xDec] at hd
    split at hd
    rotate_left
    · cases hd
    rename_i ho
    simp only [Option.some.injEq, Prod.mk.injEq] at hd
    obtain ⟨rfl, rfl, rfl, rfl⟩ := hd
    simp only [mStep] at hs
    split at hs
    · rename_i x r
      simp only [Option.some.injEq, Prod.mk.injEq] at hs
      obtain ⟨rfl, rfl, rfl, rfl⟩ := hs
      have k := kk0 rfl ls hAL
      rw [List.map_cons, xV_ref]
      by_cases e : x = -1
      · subst e
        rw [xR_null]
        simp at k
        exact lv_ifnonnullN hx hb hdec k
      · obtain ⟨y, hy⟩ := xRnn (z := z) (ex := ex) e
        rw [hy]
        simp [e] at k
        exact lv_ifnonnull hx hb hdec (xTgt ho) k
    · cases hs
  | if_acmp cd off =>
    obtain rfl : len = 3 := xLenOf hln (by decide) rfl
    cases cd with
    | eq =>
      simp only [xDec] at hd
      split at hd
      rotate_left
      · cases hd
      rename_i ho
      simp only [Option.some.injEq, Prod.mk.injEq] at hd
      obtain ⟨rfl, rfl, rfl, rfl⟩ := hd
      simp only [mStep] at hs
      split at hs
      · rename_i y x r
        split at hs
        · rename_i hc
          simp only [Option.some.injEq, Prod.mk.injEq] at hs
          obtain ⟨rfl, rfl, rfl, rfl⟩ := hs
          have k := kk0 rfl ls hAL
          have hq := xRneq (ex := ex) hx2 hc.1 hc.2
          rw [List.map_cons, List.map_cons, xV_ref, xV_ref]
          refine lv_acmp_eq hx hb hdec (xTgt ho) (fun g => ?_) (fun g => ?_)
          · rw [hq] at g
            simp [g] at k
            exact k
          · rw [hq] at g
            simp [g] at k
            exact k
        · cases hs
      · cases hs
    | ne =>
      simp only [xDec] at hd
      split at hd
      rotate_left
      · cases hd
      rename_i ho
      simp only [Option.some.injEq, Prod.mk.injEq] at hd
      obtain ⟨rfl, rfl, rfl, rfl⟩ := hd
      simp only [mStep] at hs
      split at hs
      · rename_i y x r
        split at hs
        · rename_i hc
          simp only [Option.some.injEq, Prod.mk.injEq] at hs
          obtain ⟨rfl, rfl, rfl, rfl⟩ := hs
          have k := kk0 rfl ls hAL
          have hq := xRneq (ex := ex) hx2 hc.1 hc.2
          rw [List.map_cons, List.map_cons, xV_ref, xV_ref]
          refine lv_acmp_ne hx hb hdec (xTgt ho) (fun g => ?_) (fun g => ?_)
          · rw [hq] at g
            simp [g] at k
            exact k
          · rw [hq] at g
            simp [g] at k
            exact k
        · cases hs
      · cases hs
  | goto off =>
    obtain rfl : len = 3 := xLenOf hln (by decide) rfl
    simp only [xDec] at hd
    split at hd
    rotate_left
    · cases hd
    rename_i ho
    simp only [Option.some.injEq, Prod.mk.injEq] at hd
    obtain ⟨rfl, rfl, rfl, rfl⟩ := hd
    simp only [mStep] at hs
    simp only [Option.some.injEq, Prod.mk.injEq] at hs
    obtain ⟨rfl, rfl, rfl, rfl⟩ := hs
    exact lv_goto hx hb hdec (xTgt ho) (kk0 rfl ls hAL)
  | dup =>
    obtain rfl : len = 1 := xLenOf hln (by decide) rfl
    simp only [xDec, Option.some.injEq, Prod.mk.injEq] at hd
    obtain ⟨rfl, rfl, rfl, rfl⟩ := hd
    simp only [mStep] at hs
    split at hs
    · rename_i v r
      split at hs
      · rename_i hv
        simp only [Option.some.injEq, Prod.mk.injEq] at hs
        obtain ⟨rfl, rfl, rfl, rfl⟩ := hs
        exact lv_dup hx hb hdec (xV_cat (by omega)) (kk0 rfl ls hAL)
      · cases hs
    · cases hs
  | pop =>
    obtain rfl : len = 1 := xLenOf hln (by decide) rfl
    simp only [xDec, Option.some.injEq, Prod.mk.injEq] at hd
    obtain ⟨rfl, rfl, rfl, rfl⟩ := hd
    simp only [mStep] at hs
    split at hs
    · rename_i v r
      split at hs
      · rename_i hv
        simp only [Option.some.injEq, Prod.mk.injEq] at hs
        obtain ⟨rfl, rfl, rfl, rfl⟩ := hs
        exact lv_pop hx hb hdec (xV_cat (by omega)) (kk0 rfl ls hAL)
      · cases hs
    · cases hs
  | dup_x1 =>
    obtain rfl : len = 1 := xLenOf hln (by decide) rfl
    simp only [xDec, Option.some.injEq, Prod.mk.injEq] at hd
    obtain ⟨rfl, rfl, rfl, rfl⟩ := hd
    simp only [mStep] at hs
    split at hs
    · rename_i v w r
      split at hs
      · rename_i hv
        simp only [Option.some.injEq, Prod.mk.injEq] at hs
        obtain ⟨rfl, rfl, rfl, rfl⟩ := hs
        exact lv_dup_x1 hx hb hdec (xV_cat (by omega)) (xV_cat (by omega)) (kk0 rfl ls hAL)
      · cases hs
    · cases hs
  | dup2 =>
    obtain rfl : len = 1 := xLenOf hln (by decide) rfl
    simp only [xDec, Option.some.injEq, Prod.mk.injEq] at hd
    obtain ⟨rfl, rfl, rfl, rfl⟩ := hd
    simp only [mStep] at hs
    split at hs
    · rename_i v w r
      split at hs
      · rename_i hv
        simp only [Option.some.injEq, Prod.mk.injEq] at hs
        obtain ⟨rfl, rfl, rfl, rfl⟩ := hs
        exact lv_dup2_11 hx hb hdec (xV_cat (by omega)) (xV_cat (by omega)) (kk0 rfl ls hAL)
      · cases hs
    · cases hs
  | aconst_null =>
    obtain rfl : len = 1 := xLenOf hln (by decide) rfl
    simp only [xDec, Option.some.injEq, Prod.mk.injEq] at hd
    obtain ⟨rfl, rfl, rfl, rfl⟩ := hd
    simp only [mStep] at hs
    simp only [Option.some.injEq, Prod.mk.injEq] at hs
    obtain ⟨rfl, rfl, rfl, rfl⟩ := hs
    exact lv_null hx hb hdec (kk0 rfl ls hAL)
  | getfield k =>
    obtain rfl : len = 3 := xLenOf hln (by decide) rfl
    simp only [xDec] at hd
    split at hd
    rotate_left
    · cases hd
    rename_i v hv
    simp only [Option.some.injEq, Prod.mk.injEq] at hd
    obtain ⟨rfl, rfl, rfl, rfl⟩ := hd
    simp only [mStep] at hs
    try simp only [Int.toNat_natCast] at hs
    split at hs
    · rename_i x r
      split at hs
      · rename_i q hq
        split at hs
        · rename_i hc
          simp only [Option.some.injEq, Prod.mk.injEq] at hs
          obtain ⟨rfl, rfl, rfl, rfl⟩ := hs
          rw [List.map_cons, xV_ref, xR_ad hq]
          obtain ⟨-, -, hqn⟩ := mAd_spec hq
          exact xGet C hdec (xLF_ok _ (lookup_mem hv)) hP hqn hc.1 hc.2.1 hc.2.2 (kk0 rfl ls hAL)
        · cases hs
      · cases hs
    · cases hs
  | putfield k =>
    obtain rfl : len = 3 := xLenOf hln (by decide) rfl
    simp only [xDec] at hd
    split at hd
    rotate_left
    · cases hd
    rename_i v hv
    simp only [Option.some.injEq, Prod.mk.injEq] at hd
    obtain ⟨rfl, rfl, rfl, rfl⟩ := hd
    simp only [mStep] at hs
    try simp only [Int.toNat_natCast] at hs
    split at hs
    · rename_i w x r
      split at hs
      · rename_i q hq
        split at hs
        · rename_i hc
          simp only [Option.some.injEq, Prod.mk.injEq] at hs
          obtain ⟨rfl, rfl, rfl, rfl⟩ := hs
          rw [List.map_cons, List.map_cons, xV_ref, xR_ad hq]
          obtain ⟨-, -, hqn⟩ := mAd_spec hq
          have hl : FlOk own k v.1 v.2 ∧ FpOk own k v.1 v.2 ini := by
            cases ini with
            | true => exact xLP1_ok _ (lookup_mem hv)
            | false => exact xLP0_ok _ (lookup_mem hv)
          exact xPut C hdec hl.1 hl.2 hP hS hqn hc.1 hc.2.1 hc.2.2.1 hc.2.2.2.1 hc.2.2.2.2 (fun H' locs' g1 g2 => kkp _ _ _ rfl H' locs' g1 g2 rfl)
        · cases hs
      · cases hs
    · cases hs
  | iaload =>
    obtain rfl : len = 1 := xLenOf hln (by decide) rfl
    simp only [xDec, Option.some.injEq, Prod.mk.injEq] at hd
    obtain ⟨rfl, rfl, rfl, rfl⟩ := hd
    simp only [mStep] at hs
    split at hs
    · rename_i i x r
      split at hs
      · rename_i hx5
        split at hs
        · rename_i L xs
          split at hs
          · rename_i hc
            simp only [Option.some.injEq, Prod.mk.injEq] at hs
            obtain ⟨rfl, rfl, rfl, rfl⟩ := hs
            subst hx5
            obtain ⟨k1, k2, k3⟩ := hsc
            obtain ⟨v1, v2⟩ := ofInt_in hc.1 hc.2.1 hc.2.2
            have k := kk0 rfl ls hAL
            rw [List.map_cons, xV_int] at k
            rw [List.map_cons, List.map_cons, xV_ref, xR_ex (by decide)]
            exact va_sld hx hb k1 k2 k3 hS v1 hdec (by rw [v2]; exact k)
          · cases hs
        · cases hs
      · split at hs
        · rename_i q hq
          split at hs
          · rename_i hc
            simp only [Option.some.injEq, Prod.mk.injEq] at hs
            obtain ⟨rfl, rfl, rfl, rfl⟩ := hs
            rw [List.map_cons, List.map_cons, xV_ref, xR_ad hq]
            obtain ⟨-, -, hqn⟩ := mAd_spec hq
            exact xIald C hdec hP hqn hc.1 hc.2.1 hc.2.2.1 hc.2.2.2 (kk0 rfl ls hAL)
          · cases hs
        · cases hs
    · cases hs
  | baload =>
    obtain rfl : len = 1 := xLenOf hln (by decide) rfl
    simp only [xDec, Option.some.injEq, Prod.mk.injEq] at hd
    obtain ⟨rfl, rfl, rfl, rfl⟩ := hd
    simp only [mStep] at hs
    split at hs
    · rename_i i x r
      split at hs
      · rename_i q hq
        split at hs
        · rename_i hc
          simp only [Option.some.injEq, Prod.mk.injEq] at hs
          obtain ⟨rfl, rfl, rfl, rfl⟩ := hs
          rw [List.map_cons, List.map_cons, xV_ref, xR_ad hq]
          obtain ⟨-, -, hqn⟩ := mAd_spec hq
          exact xBald C hdec hP hqn hc.1 hc.2.1 hc.2.2.1 hc.2.2.2 (kk0 rfl ls hAL)
        · cases hs
      · cases hs
    · cases hs
  | aaload =>
    obtain rfl : len = 1 := xLenOf hln (by decide) rfl
    simp only [xDec, Option.some.injEq, Prod.mk.injEq] at hd
    obtain ⟨rfl, rfl, rfl, rfl⟩ := hd
    simp only [mStep] at hs
    split at hs
    · rename_i i x r
      split at hs
      · rename_i q hq
        split at hs
        · rename_i hc
          simp only [Option.some.injEq, Prod.mk.injEq] at hs
          obtain ⟨rfl, rfl, rfl, rfl⟩ := hs
          rw [List.map_cons, List.map_cons, xV_ref, xR_ad hq]
          obtain ⟨-, -, hqn⟩ := mAd_spec hq
          exact xAald C hdec hP hqn hc.1 hc.2.1 hc.2.2.1 hc.2.2.2 (kk0 rfl ls hAL)
        · cases hs
      · cases hs
    · cases hs
  | iastore =>
    obtain rfl : len = 1 := xLenOf hln (by decide) rfl
    simp only [xDec, Option.some.injEq, Prod.mk.injEq] at hd
    obtain ⟨rfl, rfl, rfl, rfl⟩ := hd
    simp only [mStep] at hs
    split at hs
    · rename_i w i x r
      split at hs
      · rename_i q hq
        split at hs
        · rename_i hc
          simp only [Option.some.injEq, Prod.mk.injEq] at hs
          obtain ⟨rfl, rfl, rfl, rfl⟩ := hs
          rw [List.map_cons, List.map_cons, List.map_cons, xV_ref z ex x, xR_ad hq]
          obtain ⟨-, -, hqn⟩ := mAd_spec hq
          exact xIast C hdec hP hS hqn hc.1 hc.2.1 hc.2.2.1 hc.2.2.2 (fun H' locs' g1 g2 => kkp _ _ _ rfl H' locs' g1 g2 rfl)
        · cases hs
      · cases hs
    · cases hs
  | bastore =>
    obtain rfl : len = 1 := xLenOf hln (by decide) rfl
    simp only [xDec, Option.some.injEq, Prod.mk.injEq] at hd
    obtain ⟨rfl, rfl, rfl, rfl⟩ := hd
    simp only [mStep] at hs
    split at hs
    · rename_i w i x r
      split at hs
      · rename_i q hq
        split at hs
        · rename_i hc
          simp only [Option.some.injEq, Prod.mk.injEq] at hs
          obtain ⟨rfl, rfl, rfl, rfl⟩ := hs
          rw [List.map_cons, List.map_cons, List.map_cons, xV_ref z ex x, xR_ad hq]
          obtain ⟨-, -, hqn⟩ := mAd_spec hq
          exact xBast C hdec hP hS hqn hc.1 hc.2.1 hc.2.2.1 hc.2.2.2.1 hc.2.2.2.2 (fun H' locs' g1 g2 => kkp _ _ _ rfl H' locs' g1 g2 rfl)
        · cases hs
      · cases hs
    · cases hs
  | aastore =>
    obtain rfl : len = 1 := xLenOf hln (by decide) rfl
    simp only [xDec, Option.some.injEq, Prod.mk.injEq] at hd
    obtain ⟨rfl, rfl, rfl, rfl⟩ := hd
    simp only [mStep] at hs
    split at hs
    · rename_i w i x r
      split at hs
      · rename_i q hq
        split at hs
        · rename_i hc
          simp only [Option.some.injEq, Prod.mk.injEq] at hs
          obtain ⟨rfl, rfl, rfl, rfl⟩ := hs
          rw [List.map_cons, List.map_cons, List.map_cons, xV_ref z ex x, xR_ad hq]
          obtain ⟨-, -, hqn⟩ := mAd_spec hq
          exact xAast C hdec hP hS hqn hc.1 hc.2.1 hc.2.2.1 hc.2.2.2.1 hc.2.2.2.2 (fun H' locs' g1 g2 => kkp _ _ _ rfl H' locs' g1 g2 rfl)
        · cases hs
      · cases hs
    · cases hs
  | arraylength =>
    obtain rfl : len = 1 := xLenOf hln (by decide) rfl
    simp only [xDec, Option.some.injEq, Prod.mk.injEq] at hd
    obtain ⟨rfl, rfl, rfl, rfl⟩ := hd
    simp only [mStep] at hs
    split at hs
    · rename_i x r
      split at hs
      · rename_i hx5
        split at hs
        · rename_i L xs
          simp only [Option.some.injEq, Prod.mk.injEq] at hs
          obtain ⟨rfl, rfl, rfl, rfl⟩ := hs
          subst hx5
          obtain ⟨k1, k2, k3⟩ := hsc
          have k := kk0 rfl ls hAL
          rw [List.map_cons, xV_int, Int32.ofInt_eq_ofNat] at k
          rw [List.map_cons, xV_ref, xR_ex (by decide)]
          exact va_slen hx hb k1 k2 k3 hS hdec k
        · cases hs
      · split at hs
        · rename_i hx6
          simp only [Option.some.injEq, Prod.mk.injEq] at hs
          obtain ⟨rfl, rfl, rfl, rfl⟩ := hs
          subst hx6
          have k := kk0 rfl ls hAL
          rw [List.map_cons, xV_ref, xR_ex (by decide)]
          obtain ⟨cell, j1, j2, j3, j4, j5, j6, j7⟩ := hN.2.2.2.2.2.2.1
          refine W.alen (n := Int32.ofInt 0) hx hb (by rw [hS.2.1 _ (Nat.lt_of_lt_of_le hx2 hz) j7]; exact j1) j2 (by rw [j5]; rfl) rfl rfl hdec k
        · split at hs
          · rename_i q hq
            split at hs
            · rename_i hc
              simp only [Option.some.injEq, Prod.mk.injEq] at hs
              obtain ⟨rfl, rfl, rfl, rfl⟩ := hs
              rw [List.map_cons, xV_ref, xR_ad hq]
              obtain ⟨-, -, hqn⟩ := mAd_spec hq
              exact xAlen C hdec hP hqn hc (kk0 rfl ls hAL)
            · cases hs
          · cases hs
    · cases hs
  | new k =>
    obtain rfl : len = 3 := xLenOf hln (by decide) rfl
    simp only [xDec] at hd
    split at hd
    rotate_left
    · cases hd
    rename_i v hv
    simp only [Option.some.injEq, Prod.mk.injEq] at hd
    obtain ⟨rfl, rfl, rfl, rfl⟩ := hd
    simp only [mStep] at hs
    try simp only [Int.toNat_natCast] at hs
    split at hs
    · rename_i hc
      simp only [Option.some.injEq, Prod.mk.injEq] at hs
      obtain ⟨rfl, rfl, rfl, rfl⟩ := hs
      obtain ⟨⟨r1, r2⟩, k⟩ := kkn _ _ _ rfl
      have e : xV z ex (1, (mN h : Int)) = .ref (z + mN h) := by rw [xV_ref, xR_own (by omega), Int.toNat_natCast]; rfl
      simp only [List.map_cons, e] at k
      exact xNew C hdec (xLN_ok _ (lookup_mem hv)) hc hP hS r1 r2 (fun H' g1 g2 => k H' g1 g2 trivial)
    · cases hs
  | newarray ty =>
    obtain rfl : len = 2 := xLenOf hln (by decide) rfl
    cases ty with
    | int =>
      simp only [xDec, Option.some.injEq, Prod.mk.injEq] at hd
      obtain ⟨rfl, rfl, rfl, rfl⟩ := hd
      simp only [mStep] at hs
      split at hs
      · rename_i n r
        split at hs
        · rename_i hc
          simp only [Option.some.injEq, Prod.mk.injEq] at hs
          obtain ⟨rfl, rfl, rfl, rfl⟩ := hs
          obtain ⟨⟨r1, r2⟩, k⟩ := kkn _ _ _ rfl
          have e : xV z ex (1, (mN h : Int)) = .ref (z + mN h) := by rw [xV_ref, xR_own (by omega), Int.toNat_natCast]; rfl
          simp only [List.map_cons, e] at k
          exact xNewa C hdec (Or.inl ⟨rfl, rfl⟩) hc.1 hc.2.1 hP hS r1 r2 (fun H' g1 g2 => k H' g1 g2 trivial)
        · cases hs
      · cases hs
    | boolean =>
      simp only [xDec, Option.some.injEq, Prod.mk.injEq] at hd
      obtain ⟨rfl, rfl, rfl, rfl⟩ := hd
      simp only [mStep] at hs
      split at hs
      · rename_i n r
        split at hs
        · rename_i hc
          simp only [Option.some.injEq, Prod.mk.injEq] at hs
          obtain ⟨rfl, rfl, rfl, rfl⟩ := hs
          obtain ⟨⟨r1, r2⟩, k⟩ := kkn _ _ _ rfl
          have e : xV z ex (1, (mN h : Int)) = .ref (z + mN h) := by rw [xV_ref, xR_own (by omega), Int.toNat_natCast]; rfl
          simp only [List.map_cons, e] at k
          exact xNewa C hdec (Or.inr ⟨rfl, rfl⟩) hc.1 hc.2.1 hP hS r1 r2 (fun H' g1 g2 => k H' g1 g2 trivial)
        · cases hs
      · cases hs
    | _ => cases hd
  | anewarray k =>
    obtain rfl : len = 3 := xLenOf hln (by decide) rfl
    simp only [xDec] at hd
    split at hd
    rotate_left
    · cases hd
    rename_i v hv
    simp only [Option.some.injEq, Prod.mk.injEq] at hd
    obtain ⟨rfl, rfl, rfl, rfl⟩ := hd
    simp only [mStep] at hs
    try simp only [Int.toNat_natCast] at hs
    split at hs
    · rename_i n r
      split at hs
      · rename_i hc
        simp only [Option.some.injEq, Prod.mk.injEq] at hs
        obtain ⟨rfl, rfl, rfl, rfl⟩ := hs
        obtain ⟨⟨r1, r2⟩, k⟩ := kkn _ _ _ rfl
        have e : xV z ex (1, (mN h : Int)) = .ref (z + mN h) := by rw [xV_ref, xR_own (by omega), Int.toNat_natCast]; rfl
        simp only [List.map_cons, e] at k
        exact xNewq C hdec (xLA_ok _ (lookup_mem hv)) hc.1 hc.2 hP hS r1 r2 (fun H' g1 g2 => k H' g1 g2 trivial)
      · cases hs
    · cases hs
  | i2l =>
    obtain rfl : len = 1 := xLenOf hln (by decide) rfl
    simp only [xDec, Option.some.injEq, Prod.mk.injEq] at hd
    obtain ⟨rfl, rfl, rfl, rfl⟩ := hd
    simp only [mStep] at hs
    split at hs
    · rename_i x r
      split at hs
      · rename_i hc
        simp only [Option.some.injEq, Prod.mk.injEq] at hs
        obtain ⟨rfl, rfl, rfl, rfl⟩ := hs
        exact lv_i2l hx hb hdec (Int32.toInt64_ofInt (by have : Int32.minValue.toInt = -2147483648 := rfl; omega) (by have : Int32.maxValue.toInt = 2147483647 := rfl; omega)) (kk0 rfl ls hAL)
      · cases hs
    · cases hs
  | ladd =>
    obtain rfl : len = 1 := xLenOf hln (by decide) rfl
    simp only [xDec, Option.some.injEq, Prod.mk.injEq] at hd
    obtain ⟨rfl, rfl, rfl, rfl⟩ := hd
    simp only [mStep] at hs
    split at hs
    · rename_i y x r
      simp only [Option.some.injEq, Prod.mk.injEq] at hs
      obtain ⟨rfl, rfl, rfl, rfl⟩ := hs
      have k := kk0 rfl ls hAL
      rw [List.map_cons, xV_long, Int64.ofInt_add] at k
      exact lv_ladd hx hb hdec k
    · cases hs
  | lneg =>
    obtain rfl : len = 1 := xLenOf hln (by decide) rfl
    simp only [xDec, Option.some.injEq, Prod.mk.injEq] at hd
    obtain ⟨rfl, rfl, rfl, rfl⟩ := hd
    simp only [mStep] at hs
    split at hs
    · rename_i x r
      simp only [Option.some.injEq, Prod.mk.injEq] at hs
      obtain ⟨rfl, rfl, rfl, rfl⟩ := hs
      have k := kk0 rfl ls hAL
      rw [List.map_cons, xV_long, Int64.ofInt_neg] at k
      exact lv_lneg hx hb hdec k
    · cases hs
  | ldiv =>
    obtain rfl : len = 1 := xLenOf hln (by decide) rfl
    simp only [xDec, Option.some.injEq, Prod.mk.injEq] at hd
    obtain ⟨rfl, rfl, rfl, rfl⟩ := hd
    simp only [mStep] at hs
    split at hs
    · rename_i y x r
      split at hs
      · rename_i hc
        simp only [Option.some.injEq, Prod.mk.injEq] at hs
        obtain ⟨rfl, rfl, rfl, rfl⟩ := hs
        have k := kk0 rfl ls hAL
        rw [List.map_cons, xV_long] at k
        simp only [Int64.ofInt_sub, Int64.ofInt_mul, Int64.ofInt_toInt] at k
        exact lv_ldiv hx hb hdec (by rw [show (0 : Int64) = Int64.ofInt 0 from rfl, ofInt64_inj hc.1.2 (by omega)]; exact hc.2) k
      · cases hs
    · cases hs
  | lrem =>
    obtain rfl : len = 1 := xLenOf hln (by decide) rfl
    simp only [xDec, Option.some.injEq, Prod.mk.injEq] at hd
    obtain ⟨rfl, rfl, rfl, rfl⟩ := hd
    simp only [mStep] at hs
    split at hs
    · rename_i y x r
      split at hs
      · rename_i hc
        simp only [Option.some.injEq, Prod.mk.injEq] at hs
        obtain ⟨rfl, rfl, rfl, rfl⟩ := hs
        have k := kk0 rfl ls hAL
        rw [List.map_cons, xV_long] at k
        simp only [Int64.ofInt_sub, Int64.ofInt_mul, Int64.ofInt_toInt] at k
        exact lv_lrem hx hb hdec (by rw [show (0 : Int64) = Int64.ofInt 0 from rfl, ofInt64_inj hc.1.2 (by omega)]; exact hc.2) k
      · cases hs
    · cases hs
  | lcmp =>
    obtain rfl : len = 1 := xLenOf hln (by decide) rfl
    simp only [xDec, Option.some.injEq, Prod.mk.injEq] at hd
    obtain ⟨rfl, rfl, rfl, rfl⟩ := hd
    simp only [mStep] at hs
    split at hs
    · rename_i y x r
      split at hs
      · rename_i hc
        simp only [Option.some.injEq, Prod.mk.injEq] at hs
        obtain ⟨rfl, rfl, rfl, rfl⟩ := hs
        have k := kk0 rfl ls hAL
        rw [List.map_cons, xV_int] at k
        refine W.lcmp hx hb hdec ?_
        have e : lg_cmp (Int64.ofInt x) (Int64.ofInt y) = Int32.ofInt (if y < x then 1 else if x = y then 0 else -1) := by
          unfold lg_cmp
          simp only [gt_iff_lt, ofInt64_lt hc.2 hc.1, ofInt64_inj hc.1 hc.2]
          by_cases h1 : y < x
          · simp [h1]
          · by_cases h2 : x = y <;> simp [h1, h2]
        rw [e]
        exact k
      · split at hs
        · rename_i hc
          simp only [Option.some.injEq, Prod.mk.injEq] at hs
          obtain ⟨rfl, rfl, rfl, rfl⟩ := hs
          have k := kk0 rfl ls hAL
          rw [List.map_cons, xV_int] at k
          refine W.lcmp hx hb hdec ?_
          have e : lg_cmp (Int64.ofInt x) (Int64.ofInt y) = Int32.ofInt 0 := by
            rw [hc]
            unfold lg_cmp
            simp
          rw [e]
          exact k
        · cases hs
    · cases hs
  | getstatic k =>
    obtain rfl : len = 3 := xLenOf hln (by decide) rfl
    simp only [xDec] at hd
    split at hd
    rotate_left
    · cases hd
    rename_i v hv
    simp only [Option.some.injEq, Prod.mk.injEq] at hd
    obtain ⟨rfl, rfl, rfl, rfl⟩ := hd
    simp only [mStep] at hs
    try simp only [Int.toNat_natCast] at hs
    simp only [Option.some.injEq, Prod.mk.injEq] at hs
    obtain ⟨rfl, rfl, rfl, rfl⟩ := hs
    have k := kk0 rfl ls hAL
    rw [List.map_cons, xV_ref, xR_ex (by decide)] at k
    have hZ := hN.2.2.2.2.2.1
    have hS' : va_S (xA z) s.heap H locs := hS
    exact va_gets hx hb hZ hS' hown (hts _ (xLG_ok _ (lookup_mem hv))) (fun x h => h) hdec k
  | checkcast k =>
    obtain rfl : len = 3 := xLenOf hln (by decide) rfl
    simp only [xDec] at hd
    split at hd
    rotate_left
    · cases hd
    rename_i v hv
    simp only [Option.some.injEq, Prod.mk.injEq] at hd
    obtain ⟨rfl, rfl, rfl, rfl⟩ := hd
    simp only [mStep] at hs
    try simp only [Int.toNat_natCast] at hs
    split at hs
    · rename_i x r
      split at hs
      · rename_i q hq
        split at hs
        · rename_i hc
          simp only [Option.some.injEq, Prod.mk.injEq] at hs
          obtain ⟨rfl, rfl, rfl, rfl⟩ := hs
          obtain ⟨e1, e2⟩ := xLK_ok _ (lookup_mem hv)
          have e1 : v = 1 := e1
          subst e1
          have k := kk0 rfl ls hAL
          rw [List.map_cons, xV_ref, xR_ad hq] at k ⊢
          obtain ⟨-, -, hqn⟩ := mAd_spec hq
          exact xCast1 C hdec e2 hP hqn hc.1 hc.2 k
        · cases hs
      · cases hs
    · cases hs
  | tableswitch d lo hi offs =>
    simp only [xDec] at hd
    split at hd
    rotate_left
    · cases hd
    rename_i ho
    simp only [Option.some.injEq, Prod.mk.injEq] at hd
    obtain ⟨rfl, rfl, rfl, rfl⟩ := hd
    simp only [mStep] at hs
    split at hs
    · rename_i x r
      split at hs
      · rename_i hc
        simp only [Option.some.injEq, Prod.mk.injEq] at hs
        obtain ⟨rfl, rfl, rfl, rfl⟩ := hs
        have k := kk0 rfl ls hAL
        rw [List.map_cons, xV_int]
        have ex : (Int32.ofInt x).toInt = x := Int32.toInt_ofInt_of_le (by omega) (by omega)
        by_cases hin : x < lo ∨ hi < x
        · have e : ((List.range offs.size).map fun (j : Nat) => (lo + (j : Int), (pc : Int) + offs.toList.getD j 0)).lookup x = none := by
            cases e : ((List.range offs.size).map fun (j : Nat) => (lo + (j : Int), (pc : Int) + offs.toList.getD j 0)).lookup x with
            | none => rfl
            | some v =>
              obtain ⟨j, hj, e2⟩ := List.mem_map.mp (lookup_mem e)
              have hj := List.mem_range.mp hj
              simp only [Prod.mk.injEq] at e2
              omega
          rw [e] at k
          exact lv_tableOut hx hb hdec (by rw [ex]; exact hin) (xTgt ho.1) k
        · have hj : (x - lo).toNat < offs.size := by omega
          have e : ((List.range offs.size).map fun (j : Nat) => (lo + (j : Int), (pc : Int) + offs.toList.getD j 0)).lookup x = some ((pc : Int) + offs.toList.getD (x - lo).toNat 0) := xLkR (by omega) (by omega)
          rw [e] at k
          have hof : offs[(x - lo).toNat]? = some (offs.toList.getD (x - lo).toNat 0) := by
            rw [List.getD_eq_getElem?_getD, Array.getElem?_toList, Array.getElem?_eq_getElem hj]
            rfl
          have hpos : 0 ≤ (pc : Int) + offs.toList.getD (x - lo).toNat 0 := by
            have h1 := List.all_eq_true.mp ho.2.1 (offs.toList.getD (x - lo).toNat 0) (by
              rw [← Array.getElem?_toList] at hof
              exact List.mem_of_getElem? hof)
            exact of_decide_eq_true h1
          exact lv_tableIn hx hb hdec (by rw [ex]; omega) (by rw [ex]; omega) (by rw [ex]; exact hof) (xTgt hpos) k
      · cases hs
    · cases hs
  | lookupswitch d ps =>
    simp only [xDec] at hd
    split at hd
    rotate_left
    · cases hd
    rename_i ho
    simp only [Option.some.injEq, Prod.mk.injEq] at hd
    obtain ⟨rfl, rfl, rfl, rfl⟩ := hd
    simp only [mStep] at hs
    split at hs
    · rename_i x r
      split at hs
      · rename_i hc
        simp only [Option.some.injEq, Prod.mk.injEq] at hs
        obtain ⟨rfl, rfl, rfl, rfl⟩ := hs
        have k := kk0 rfl ls hAL
        rw [List.map_cons, xV_int]
        have ex : (Int32.ofInt x).toInt = x := Int32.toInt_ofInt_of_le (by omega) (by omega)
        have hpos : 0 ≤ ((ps.toList.map fun q => (q.1, (pc : Int) + q.2)).lookup x).getD ((pc : Int) + d) := xSw (fun q hq => by
          obtain ⟨q2, h1, rfl⟩ := List.mem_map.mp hq
          exact of_decide_eq_true (List.all_eq_true.mp ho.2.1 q2 h1)) ho.1
        rw [xLook] at k hpos
        exact lv_lookup hx hb hdec ho.2.2 (by rw [ex]) (xTgt hpos) k
      · cases hs
    · cases hs
  | _ => cases hd
end XMSTEP
end
section
/-! CALLS: what is known of each method, and each kind of call read off the JVM's -/
def xMs : List (MethodName × ByteArray × Option FieldType × Nat × Bool) := [(⟨"java/util/ArrayList", "<init>", "()V"⟩, prog_29_method_2_code, ((none : Option FieldType)), 0, true),
  (⟨"java/util/ArrayList", "grow", "(I)[Ljava/lang/Object;"⟩, prog_29_method_6_code, (Option.some (Jvm.ClassFile.FieldType.array (Jvm.ClassFile.FieldType.object "java/lang/Object"))), 0, false),
  (⟨"java/util/ArrayList", "grow", "()[Ljava/lang/Object;"⟩, prog_29_method_7_code, (Option.some (Jvm.ClassFile.FieldType.array (Jvm.ClassFile.FieldType.object "java/lang/Object"))), 0, false),
  (⟨"java/util/ArrayList", "size", "()I"⟩, prog_29_method_8_code, (Option.some Jvm.ClassFile.FieldType.int), 0, false),
  (⟨"java/util/ArrayList", "elementData", "(I)Ljava/lang/Object;"⟩, prog_29_method_18_code, (Option.some (Jvm.ClassFile.FieldType.object "java/lang/Object")), 0, false),
  (⟨"java/util/ArrayList", "get", "(I)Ljava/lang/Object;"⟩, prog_29_method_20_code, (Option.some (Jvm.ClassFile.FieldType.object "java/lang/Object")), 0, false),
  (⟨"java/util/ArrayList", "add", "(Ljava/lang/Object;[Ljava/lang/Object;I)V"⟩, prog_29_method_24_code, ((none : Option FieldType)), 0, false),
  (⟨"java/util/ArrayList", "add", "(Ljava/lang/Object;)Z"⟩, prog_29_method_25_code, (Option.some Jvm.ClassFile.FieldType.boolean), 0, false),
  (⟨"java/util/ArrayList", "remove", "(I)Ljava/lang/Object;"⟩, prog_29_method_29_code, (Option.some (Jvm.ClassFile.FieldType.object "java/lang/Object")), 0, false),
  (⟨"java/util/ArrayList", "fastRemove", "([Ljava/lang/Object;I)V"⟩, prog_29_method_39_code, ((none : Option FieldType)), 0, false),
  (⟨"LaidQuarrel$Bottle", "<init>", "(IILLaidQuarrel$Shelf;)V"⟩, prog_2_method_1_code, ((none : Option FieldType)), 1, true),
  (⟨"LaidQuarrel$Bottle", "keep", "()V"⟩, prog_2_method_2_code, ((none : Option FieldType)), 1, false),
  (⟨"LaidQuarrel$Bottle", "restore", "()V"⟩, prog_2_method_3_code, ((none : Option FieldType)), 1, false),
  (⟨"LaidQuarrel$Bottle", "tryNow", "()LLaidQuarrel$Laid;"⟩, prog_2_method_4_code, (Option.some (Jvm.ClassFile.FieldType.object "LaidQuarrel$Laid")), 1, false),
  (⟨"LaidQuarrel$Bottle", "tryBehind", "(I)LLaidQuarrel$Laid;"⟩, prog_2_method_5_code, (Option.some (Jvm.ClassFile.FieldType.object "LaidQuarrel$Laid")), 1, false),
  (⟨"LaidQuarrel$Bottle", "spoken", "(LLaidQuarrel$Laid;I)I"⟩, prog_2_method_6_code, (Option.some Jvm.ClassFile.FieldType.int), 1, false),
  (⟨"LaidQuarrel$Bottle", "utters", "(I)I"⟩, prog_2_method_7_code, (Option.some Jvm.ClassFile.FieldType.int), 1, false),
  (⟨"LaidQuarrel$Bottle", "keeps", "(I)I"⟩, prog_2_method_8_code, (Option.some Jvm.ClassFile.FieldType.int), 1, false),
  (⟨"LaidQuarrel$Bottle", "tells", "(I)I"⟩, prog_2_method_9_code, (Option.some Jvm.ClassFile.FieldType.int), 1, false),
  (⟨"LaidQuarrel$Cellar", "<init>", "(LLaidQuarrel$Shelf;)V"⟩, prog_3_method_1_code, ((none : Option FieldType)), 2, true),
  (⟨"LaidQuarrel$Cellar", "copyFrom", "(LLaidQuarrel$Cellar;)V"⟩, prog_3_method_2_code, ((none : Option FieldType)), 2, false),
  (⟨"LaidQuarrel$Cellar", "keep", "()V"⟩, prog_3_method_3_code, ((none : Option FieldType)), 2, false),
  (⟨"LaidQuarrel$Cellar", "restore", "()V"⟩, prog_3_method_4_code, ((none : Option FieldType)), 2, false),
  (⟨"LaidQuarrel$Cellar", "calm", "()I"⟩, prog_3_method_5_code, (Option.some Jvm.ClassFile.FieldType.int), 2, false),
  (⟨"LaidQuarrel$Cellar", "peace", "()I"⟩, prog_3_method_6_code, (Option.some Jvm.ClassFile.FieldType.int), 2, false),
  (⟨"LaidQuarrel$Cellar", "lastOf", "(II)I"⟩, prog_3_method_7_code, (Option.some Jvm.ClassFile.FieldType.int), 2, false),
  (⟨"LaidQuarrel$Cellar", "softOf", "(LLaidQuarrel$Bottle;LLaidQuarrel$Laid;)I"⟩, prog_3_method_8_code, (Option.some Jvm.ClassFile.FieldType.int), 2, false),
  (⟨"LaidQuarrel$Cellar", "holds", "(IILLaidQuarrel$Bottle;LLaidQuarrel$Laid;)Z"⟩, prog_3_method_9_code, (Option.some Jvm.ClassFile.FieldType.boolean), 2, false),
  (⟨"LaidQuarrel$Cellar", "testHolds", "(ILLaidQuarrel$Bottle;LLaidQuarrel$Laid;)Z"⟩, prog_3_method_10_code, (Option.some Jvm.ClassFile.FieldType.boolean), 2, false),
  (⟨"LaidQuarrel$Cellar", "factOf", "(ILLaidQuarrel$Bottle;LLaidQuarrel$Laid;)I"⟩, prog_3_method_11_code, (Option.some Jvm.ClassFile.FieldType.int), 2, false),
  (⟨"LaidQuarrel$Cellar", "readText", "()I"⟩, prog_3_method_12_code, (Option.some Jvm.ClassFile.FieldType.int), 2, false),
  (⟨"LaidQuarrel$Cellar", "readClause", "()Z"⟩, prog_3_method_13_code, (Option.some Jvm.ClassFile.FieldType.boolean), 2, false),
  (⟨"LaidQuarrel$Cellar", "addClause", "(II)Z"⟩, prog_3_method_14_code, (Option.some Jvm.ClassFile.FieldType.boolean), 2, false),
  (⟨"LaidQuarrel$Cellar", "readEither", "(I)Z"⟩, prog_3_method_15_code, (Option.some Jvm.ClassFile.FieldType.boolean), 2, false),
  (⟨"LaidQuarrel$Cellar", "readFactor", "(I)Z"⟩, prog_3_method_16_code, (Option.some Jvm.ClassFile.FieldType.boolean), 2, false),
  (⟨"LaidQuarrel$Cellar", "readBracket", "(I)Z"⟩, prog_3_method_17_code, (Option.some Jvm.ClassFile.FieldType.boolean), 2, false),
  (⟨"LaidQuarrel$Cellar", "readTest", "()Z"⟩, prog_3_method_18_code, (Option.some Jvm.ClassFile.FieldType.boolean), 2, false),
  (⟨"LaidQuarrel$Cellar", "isLetter", "(I)Z"⟩, prog_3_method_19_code, (Option.some Jvm.ClassFile.FieldType.boolean), 2, false),
  (⟨"LaidQuarrel$Cellar", "readNumber", "()Z"⟩, prog_3_method_20_code, (Option.some Jvm.ClassFile.FieldType.boolean), 2, false),
  (⟨"LaidQuarrel$Cellar", "takes", "(I)Z"⟩, prog_3_method_21_code, (Option.some Jvm.ClassFile.FieldType.boolean), 2, false),
  (⟨"LaidQuarrel$Cellar", "takesAll", "(Ljava/lang/String;)Z"⟩, prog_3_method_22_code, (Option.some Jvm.ClassFile.FieldType.boolean), 2, false),
  (⟨"LaidQuarrel$Corked", "<init>", "(IILLaidQuarrel$Shelf;)V"⟩, prog_4_method_1_code, ((none : Option FieldType)), 3, true),
  (⟨"LaidQuarrel$Corked", "spoken", "(LLaidQuarrel$Laid;I)I"⟩, prog_4_method_2_code, (Option.some Jvm.ClassFile.FieldType.int), 3, false),
  (⟨"LaidQuarrel$Corked", "tells", "(I)I"⟩, prog_4_method_3_code, (Option.some Jvm.ClassFile.FieldType.int), 3, false),
  (⟨"LaidQuarrel$Feud", "<init>", "(IILLaidQuarrel$Shelf;)V"⟩, prog_5_method_1_code, ((none : Option FieldType)), 4, true),
  (⟨"LaidQuarrel$Feud", "spoken", "(LLaidQuarrel$Laid;I)I"⟩, prog_5_method_2_code, (Option.some Jvm.ClassFile.FieldType.int), 4, false),
  (⟨"LaidQuarrel$Feud", "tells", "(I)I"⟩, prog_5_method_3_code, (Option.some Jvm.ClassFile.FieldType.int), 4, false),
  (⟨"LaidQuarrel$Hard", "<init>", "(IILLaidQuarrel$Shelf;)V"⟩, prog_6_method_1_code, ((none : Option FieldType)), 5, true),
  (⟨"LaidQuarrel$Hard", "spoken", "(LLaidQuarrel$Laid;I)I"⟩, prog_6_method_2_code, (Option.some Jvm.ClassFile.FieldType.int), 5, false),
  (⟨"LaidQuarrel$Hard", "utters", "(I)I"⟩, prog_6_method_3_code, (Option.some Jvm.ClassFile.FieldType.int), 5, false),
  (⟨"LaidQuarrel$Laid", "<init>", "()V"⟩, prog_7_method_1_code, ((none : Option FieldType)), 6, true),
  (⟨"LaidQuarrel$Laid", "copyFrom", "(LLaidQuarrel$Laid;)V"⟩, prog_7_method_2_code, ((none : Option FieldType)), 6, false),
  (⟨"LaidQuarrel$Laid", "age", "(I)V"⟩, prog_7_method_3_code, ((none : Option FieldType)), 6, false),
  (⟨"LaidQuarrel$Laid", "tell", "(II)I"⟩, prog_7_method_4_code, (Option.some Jvm.ClassFile.FieldType.int), 6, false),
  (⟨"LaidQuarrel$Laid", "telling", "()I"⟩, prog_7_method_5_code, (Option.some Jvm.ClassFile.FieldType.int), 6, false),
  (⟨"LaidQuarrel$Love", "<init>", "(IILLaidQuarrel$Shelf;)V"⟩, prog_8_method_1_code, ((none : Option FieldType)), 7, true),
  (⟨"LaidQuarrel$Love", "spoken", "(LLaidQuarrel$Laid;I)I"⟩, prog_8_method_2_code, (Option.some Jvm.ClassFile.FieldType.int), 7, false),
  (⟨"LaidQuarrel$Love", "utters", "(I)I"⟩, prog_8_method_3_code, (Option.some Jvm.ClassFile.FieldType.int), 7, false),
  (⟨"LaidQuarrel$Shelf", "<init>", "(II)V"⟩, prog_9_method_1_code, ((none : Option FieldType)), 8, true),
  (⟨"LaidQuarrel$Shelf", "add", "(III)Z"⟩, prog_9_method_2_code, (Option.some Jvm.ClassFile.FieldType.boolean), 8, false),
  (⟨"LaidQuarrel$Shelf", "at", "(II)I"⟩, prog_9_method_3_code, (Option.some Jvm.ClassFile.FieldType.int), 8, false),
  (⟨"LaidQuarrel$Shelf", "put", "(II)V"⟩, prog_9_method_4_code, ((none : Option FieldType)), 8, false),
  (⟨"LaidQuarrel$Shelf", "clear", "()V"⟩, prog_9_method_5_code, ((none : Option FieldType)), 8, false),
  (⟨"LaidQuarrel$Shelf", "copyFrom", "(LLaidQuarrel$Shelf;)V"⟩, prog_9_method_6_code, ((none : Option FieldType)), 8, false),
  (⟨"LaidQuarrel$Shelf", "keep", "()V"⟩, prog_9_method_7_code, ((none : Option FieldType)), 8, false),
  (⟨"LaidQuarrel$Shelf", "restore", "()V"⟩, prog_9_method_8_code, ((none : Option FieldType)), 8, false),
  (⟨"LaidQuarrel$Shelf", "copy", "([I[I)V"⟩, prog_9_method_9_code, ((none : Option FieldType)), 8, false),
  (⟨"LaidQuarrel$Sweet", "<init>", "(IILLaidQuarrel$Shelf;)V"⟩, prog_10_method_1_code, ((none : Option FieldType)), 9, true),
  (⟨"LaidQuarrel$Sweet", "spoken", "(LLaidQuarrel$Laid;I)I"⟩, prog_10_method_2_code, (Option.some Jvm.ClassFile.FieldType.int), 9, false),
  (⟨"LaidQuarrel$Sweet", "keeps", "(I)I"⟩, prog_10_method_3_code, (Option.some Jvm.ClassFile.FieldType.int), 9, false),
  (⟨"LaidQuarrel$Told", "<init>", "(IILLaidQuarrel$Shelf;)V"⟩, prog_11_method_1_code, ((none : Option FieldType)), 10, true),
  (⟨"LaidQuarrel$Told", "spoken", "(LLaidQuarrel$Laid;I)I"⟩, prog_11_method_2_code, (Option.some Jvm.ClassFile.FieldType.int), 10, false),
  (⟨"LaidQuarrel$Told", "keeps", "(I)I"⟩, prog_11_method_3_code, (Option.some Jvm.ClassFile.FieldType.int), 10, false),
  (⟨"LaidQuarrel", "<init>", "()V"⟩, prog_1_method_1_code, ((none : Option FieldType)), 11, true),
  (⟨"LaidQuarrel", "feed", "(I)I"⟩, prog_1_method_2_code, (Option.some Jvm.ClassFile.FieldType.int), 11, false),
  (⟨"LaidQuarrel", "cellar", "()I"⟩, prog_1_method_3_code, (Option.some Jvm.ClassFile.FieldType.int), 11, false),
  (⟨"LaidQuarrel", "bottle", "(III)I"⟩, prog_1_method_4_code, (Option.some Jvm.ClassFile.FieldType.int), 11, false),
  (⟨"LaidQuarrel", "guest", "(I)I"⟩, prog_1_method_5_code, (Option.some Jvm.ClassFile.FieldType.int), 11, false),
  (⟨"LaidQuarrel", "of", "(II)I"⟩, prog_1_method_6_code, (Option.some Jvm.ClassFile.FieldType.int), 11, false),
  (⟨"LaidQuarrel", "row", "(III)I"⟩, prog_1_method_7_code, (Option.some Jvm.ClassFile.FieldType.int), 11, false),
  (⟨"LaidQuarrel", "set", "(III)I"⟩, prog_1_method_8_code, (Option.some Jvm.ClassFile.FieldType.int), 11, false),
  (⟨"LaidQuarrel", "mood", "(I)I"⟩, prog_1_method_9_code, (Option.some Jvm.ClassFile.FieldType.int), 11, false),
  (⟨"LaidQuarrel", "told", "(I)I"⟩, prog_1_method_10_code, (Option.some Jvm.ClassFile.FieldType.int), 11, false),
  (⟨"LaidQuarrel", "pour", "(II)I"⟩, prog_1_method_11_code, (Option.some Jvm.ClassFile.FieldType.int), 11, false),
  (⟨"LaidQuarrel", "both", "(III)I"⟩, prog_1_method_12_code, (Option.some Jvm.ClassFile.FieldType.int), 11, false),
  (⟨"LaidQuarrel", "pass", "(I)I"⟩, prog_1_method_13_code, (Option.some Jvm.ClassFile.FieldType.int), 11, false),
  (⟨"LaidQuarrel", "on", "(II)I"⟩, prog_1_method_14_code, (Option.some Jvm.ClassFile.FieldType.int), 11, false),
  (⟨"LaidQuarrel", "when", "(II)I"⟩, prog_1_method_15_code, (Option.some Jvm.ClassFile.FieldType.int), 11, false),
  (⟨"LaidQuarrel", "ripe", "(I)I"⟩, prog_1_method_16_code, (Option.some Jvm.ClassFile.FieldType.int), 11, false),
  (⟨"LaidQuarrel", "lies", "(I)I"⟩, prog_1_method_17_code, (Option.some Jvm.ClassFile.FieldType.int), 11, false),
  (⟨"LaidQuarrel", "choose", "(II)I"⟩, prog_1_method_18_code, (Option.some Jvm.ClassFile.FieldType.int), 11, false),
  (⟨"LaidQuarrel", "line", "(II)I"⟩, prog_1_method_19_code, (Option.some Jvm.ClassFile.FieldType.int), 11, false),
  (⟨"LaidQuarrel", "pair", "()I"⟩, prog_1_method_20_code, (Option.some Jvm.ClassFile.FieldType.int), 11, false),
  (⟨"LaidQuarrel", "match", "(I)I"⟩, prog_1_method_21_code, (Option.some Jvm.ClassFile.FieldType.int), 11, false),
  (⟨"LaidQuarrel", "words", "(III)I"⟩, prog_1_method_22_code, (Option.some Jvm.ClassFile.FieldType.int), 11, false),
  (⟨"LaidQuarrel", "see", "(III)I"⟩, prog_1_method_23_code, (Option.some Jvm.ClassFile.FieldType.int), 11, false),
  (⟨"LaidQuarrel", "old", "(II)I"⟩, prog_1_method_24_code, (Option.some Jvm.ClassFile.FieldType.int), 11, false),
  (⟨"LaidQuarrel", "firm", "(II)I"⟩, prog_1_method_25_code, (Option.some Jvm.ClassFile.FieldType.int), 11, false),
  (⟨"LaidQuarrel", "whose", "(II)I"⟩, prog_1_method_26_code, (Option.some Jvm.ClassFile.FieldType.int), 11, false),
  (⟨"LaidQuarrel", "odds", "(III)J"⟩, prog_1_method_27_code, (Option.some Jvm.ClassFile.FieldType.long), 11, false),
  (⟨"LaidQuarrel", "mean", "(II)J"⟩, prog_1_method_28_code, (Option.some Jvm.ClassFile.FieldType.long), 11, false),
  (⟨"LaidQuarrel", "evening", "(III)I"⟩, prog_1_method_29_code, (Option.some Jvm.ClassFile.FieldType.int), 11, false),
  (⟨"LaidQuarrel", "done", "(I)I"⟩, prog_1_method_30_code, (Option.some Jvm.ClassFile.FieldType.int), 11, false),
  (⟨"LaidQuarrel", "book", "(II)I"⟩, prog_1_method_31_code, (Option.some Jvm.ClassFile.FieldType.int), 11, false),
  (⟨"LaidQuarrel", "looked", "()I"⟩, prog_1_method_32_code, (Option.some Jvm.ClassFile.FieldType.int), 11, false),
  (⟨"LaidQuarrel", "act", "(III)I"⟩, prog_1_method_33_code, (Option.some Jvm.ClassFile.FieldType.int), 11, false),
  (⟨"LaidQuarrel", "trace", "(I)I"⟩, prog_1_method_34_code, (Option.some Jvm.ClassFile.FieldType.int), 11, false),
  (⟨"LaidQuarrel", "as", "(II)I"⟩, prog_1_method_35_code, (Option.some Jvm.ClassFile.FieldType.int), 11, false),
  (⟨"LaidQuarrel", "image", "()I"⟩, prog_1_method_36_code, (Option.some Jvm.ClassFile.FieldType.int), 11, false),
  (⟨"LaidQuarrel", "undo", "()I"⟩, prog_1_method_37_code, (Option.some Jvm.ClassFile.FieldType.int), 11, false),
  (⟨"LaidQuarrel", "count", "(I)I"⟩, prog_1_method_38_code, (Option.some Jvm.ClassFile.FieldType.int), 11, false),
  (⟨"LaidQuarrel", "within", "(III)Z"⟩, prog_1_method_39_code, (Option.some Jvm.ClassFile.FieldType.boolean), 11, false),
  (⟨"LaidQuarrel", "isIn", "(II)Z"⟩, prog_1_method_40_code, (Option.some Jvm.ClassFile.FieldType.boolean), 11, false),
  (⟨"LaidQuarrel", "nearer", "(II)I"⟩, prog_1_method_41_code, (Option.some Jvm.ClassFile.FieldType.int), 11, false),
  (⟨"LaidQuarrel", "heldMood", "(I)I"⟩, prog_1_method_42_code, (Option.some Jvm.ClassFile.FieldType.int), 11, false),
  (⟨"LaidQuarrel", "kindAbove", "(I)I"⟩, prog_1_method_43_code, (Option.some Jvm.ClassFile.FieldType.int), 11, false),
  (⟨"LaidQuarrel", "added", "(LLaidQuarrel$Shelf;III)I"⟩, prog_1_method_44_code, (Option.some Jvm.ClassFile.FieldType.int), 11, false),
  (⟨"LaidQuarrel", "sum", "(LLaidQuarrel$Shelf;)I"⟩, prog_1_method_45_code, (Option.some Jvm.ClassFile.FieldType.int), 11, false),
  (⟨"LaidQuarrel", "fraction", "(III)J"⟩, prog_1_method_46_code, (Option.some Jvm.ClassFile.FieldType.long), 11, false),
  (⟨"LaidQuarrel", "isGuest", "(I)Z"⟩, prog_1_method_47_code, (Option.some Jvm.ClassFile.FieldType.boolean), 11, false),
  (⟨"LaidQuarrel", "bottleAt", "(I)LLaidQuarrel$Bottle;"⟩, prog_1_method_48_code, (Option.some (Jvm.ClassFile.FieldType.object "LaidQuarrel$Bottle")), 11, false),
  (⟨"LaidQuarrel", "madeOf", "(I)LLaidQuarrel$Bottle;"⟩, prog_1_method_49_code, (Option.some (Jvm.ClassFile.FieldType.object "LaidQuarrel$Bottle")), 11, false),
  (⟨"LaidQuarrel", "says", "(LLaidQuarrel$Bottle;LLaidQuarrel$Laid;)I"⟩, prog_1_method_50_code, (Option.some Jvm.ClassFile.FieldType.int), 11, false),
  (⟨"LaidQuarrel", "allSay", "(I)I"⟩, prog_1_method_51_code, (Option.some Jvm.ClassFile.FieldType.int), 11, false),
  (⟨"LaidQuarrel", "fullOnes", "()I"⟩, prog_1_method_52_code, (Option.some Jvm.ClassFile.FieldType.int), 11, false),
  (⟨"LaidQuarrel", "hearAll", "()V"⟩, prog_1_method_53_code, ((none : Option FieldType)), 11, false),
  (⟨"LaidQuarrel", "saidBy", "(I)I"⟩, prog_1_method_54_code, (Option.some Jvm.ClassFile.FieldType.int), 11, false),
  (⟨"LaidQuarrel", "lift", "(LLaidQuarrel$Shelf;II)I"⟩, prog_1_method_55_code, (Option.some Jvm.ClassFile.FieldType.int), 11, false),
  (⟨"LaidQuarrel", "calmDown", "(LLaidQuarrel$Shelf;I)V"⟩, prog_1_method_56_code, ((none : Option FieldType)), 11, false),
  (⟨"LaidQuarrel", "bestLine", "(LLaidQuarrel$Shelf;III)I"⟩, prog_1_method_57_code, (Option.some Jvm.ClassFile.FieldType.int), 11, false),
  (⟨"LaidQuarrel", "moodOf", "(I)I"⟩, prog_1_method_58_code, (Option.some Jvm.ClassFile.FieldType.int), 11, false),
  (⟨"LaidQuarrel", "countPairs", "(I)V"⟩, prog_1_method_59_code, ((none : Option FieldType)), 11, false),
  (⟨"LaidQuarrel", "makesPeace", "(II)Z"⟩, prog_1_method_60_code, (Option.some Jvm.ClassFile.FieldType.boolean), 11, false),
  (⟨"LaidQuarrel", "partnerOf", "(II)I"⟩, prog_1_method_61_code, (Option.some Jvm.ClassFile.FieldType.int), 11, false),
  (⟨"LaidQuarrel", "leastPartner", "(II)I"⟩, prog_1_method_62_code, (Option.some Jvm.ClassFile.FieldType.int), 11, false),
  (⟨"LaidQuarrel", "allSeenIsSo", "(III)Z"⟩, prog_1_method_63_code, (Option.some Jvm.ClassFile.FieldType.boolean), 11, false),
  (⟨"LaidQuarrel", "tryRow", "(ILLaidQuarrel$Bottle;I)V"⟩, prog_1_method_64_code, ((none : Option FieldType)), 11, false),
  (⟨"LaidQuarrel", "allSayAsTried", "()I"⟩, prog_1_method_65_code, (Option.some Jvm.ClassFile.FieldType.int), 11, false),
  (⟨"LaidQuarrelModel", "<init>", "()V"⟩, prog_13_method_1_code, ((none : Option FieldType)), 12, true),
  (⟨"LaidQuarrelModel", "in", "(III)Z"⟩, prog_13_method_3_code, (Option.some Jvm.ClassFile.FieldType.boolean), 12, false),
  (⟨"LaidQuarrelModel", "within", "(III)I"⟩, prog_13_method_4_code, (Option.some Jvm.ClassFile.FieldType.int), 12, false),
  (⟨"LaidQuarrelModel", "size", "(I)I"⟩, prog_13_method_5_code, (Option.some Jvm.ClassFile.FieldType.int), 12, false),
  (⟨"LaidQuarrelModel", "nearer", "(II)I"⟩, prog_13_method_6_code, (Option.some Jvm.ClassFile.FieldType.int), 12, false),
  (⟨"LaidQuarrelModel", "isBottle", "(I)Z"⟩, prog_13_method_7_code, (Option.some Jvm.ClassFile.FieldType.boolean), 12, false),
  (⟨"LaidQuarrelModel", "isGuest", "(I)Z"⟩, prog_13_method_8_code, (Option.some Jvm.ClassFile.FieldType.boolean), 12, false),
  (⟨"LaidQuarrelModel", "isMood", "(I)Z"⟩, prog_13_method_9_code, (Option.some Jvm.ClassFile.FieldType.boolean), 12, false),
  (⟨"LaidQuarrelModel", "isSaying", "(I)Z"⟩, prog_13_method_10_code, (Option.some Jvm.ClassFile.FieldType.boolean), 12, false),
  (⟨"LaidQuarrelModel", "keeps", "()V"⟩, prog_13_method_11_code, ((none : Option FieldType)), 12, false),
  (⟨"LaidQuarrelModel", "goesBack", "()V"⟩, prog_13_method_12_code, ((none : Option FieldType)), 12, false),
  (⟨"LaidQuarrelModel", "feed", "(I)I"⟩, prog_13_method_13_code, (Option.some Jvm.ClassFile.FieldType.int), 12, false),
  (⟨"LaidQuarrelModel", "here", "()I"⟩, prog_13_method_14_code, (Option.some Jvm.ClassFile.FieldType.int), 12, false),
  (⟨"LaidQuarrelModel", "must", "(I)V"⟩, prog_13_method_15_code, ((none : Option FieldType)), 12, false),
  (⟨"LaidQuarrelModel", "spells", "(Ljava/lang/String;)V"⟩, prog_13_method_16_code, ((none : Option FieldType)), 12, false),
  (⟨"LaidQuarrelModel", "figures", "()I"⟩, prog_13_method_17_code, (Option.some Jvm.ClassFile.FieldType.int), 12, false),
  (⟨"LaidQuarrelModel", "among", "(Ljava/lang/String;)I"⟩, prog_13_method_18_code, (Option.some Jvm.ClassFile.FieldType.int), 12, false),
  (⟨"LaidQuarrelModel", "emits", "(I)V"⟩, prog_13_method_19_code, ((none : Option FieldType)), 12, false),
  (⟨"LaidQuarrelModel", "factor", "()V"⟩, prog_13_method_20_code, ((none : Option FieldType)), 12, false),
  (⟨"LaidQuarrelModel", "every", "()V"⟩, prog_13_method_21_code, ((none : Option FieldType)), 12, false),
  (⟨"LaidQuarrelModel", "some", "()V"⟩, prog_13_method_22_code, ((none : Option FieldType)), 12, false),
  (⟨"LaidQuarrelModel", "much", "(ILjava/lang/String;)V"⟩, prog_13_method_23_code, ((none : Option FieldType)), 12, false),
  (⟨"LaidQuarrelModel", "tellsHere", "(ILjava/lang/String;)V"⟩, prog_13_method_24_code, ((none : Option FieldType)), 12, false),
  (⟨"LaidQuarrelModel", "wordOfS", "()V"⟩, prog_13_method_25_code, ((none : Option FieldType)), 12, false),
  (⟨"LaidQuarrelModel", "clauseHere", "()V"⟩, prog_13_method_26_code, ((none : Option FieldType)), 12, false),
  (⟨"LaidQuarrelModel", "cellar", "()I"⟩, prog_13_method_27_code, (Option.some Jvm.ClassFile.FieldType.int), 12, false),
  (⟨"LaidQuarrelModel", "tellsOf", "(II)I"⟩, prog_13_method_28_code, (Option.some Jvm.ClassFile.FieldType.int), 12, false),
  (⟨"LaidQuarrelModel", "looks", "(I)I"⟩, prog_13_method_29_code, (Option.some Jvm.ClassFile.FieldType.int), 12, false),
  (⟨"LaidQuarrelModel", "softOf", "(I)I"⟩, prog_13_method_30_code, (Option.some Jvm.ClassFile.FieldType.int), 12, false),
  (⟨"LaidQuarrelModel", "saysOf", "(I)I"⟩, prog_13_method_31_code, (Option.some Jvm.ClassFile.FieldType.int), 12, false),
  (⟨"LaidQuarrelModel", "bottle", "(III)I"⟩, prog_13_method_32_code, (Option.some Jvm.ClassFile.FieldType.int), 12, false),
  (⟨"LaidQuarrelModel", "guest", "(I)I"⟩, prog_13_method_33_code, (Option.some Jvm.ClassFile.FieldType.int), 12, false),
  (⟨"LaidQuarrelModel", "of", "(II)I"⟩, prog_13_method_34_code, (Option.some Jvm.ClassFile.FieldType.int), 12, false),
  (⟨"LaidQuarrelModel", "row", "(III)I"⟩, prog_13_method_35_code, (Option.some Jvm.ClassFile.FieldType.int), 12, false),
  (⟨"LaidQuarrelModel", "set", "(III)I"⟩, prog_13_method_36_code, (Option.some Jvm.ClassFile.FieldType.int), 12, false),
  (⟨"LaidQuarrelModel", "mood", "(I)I"⟩, prog_13_method_37_code, (Option.some Jvm.ClassFile.FieldType.int), 12, false),
  (⟨"LaidQuarrelModel", "fullOnes", "()I"⟩, prog_13_method_38_code, (Option.some Jvm.ClassFile.FieldType.int), 12, false),
  (⟨"LaidQuarrelModel", "allSay", "()I"⟩, prog_13_method_39_code, (Option.some Jvm.ClassFile.FieldType.int), 12, false),
  (⟨"LaidQuarrelModel", "allMoods", "()I"⟩, prog_13_method_40_code, (Option.some Jvm.ClassFile.FieldType.int), 12, false),
  (⟨"LaidQuarrelModel", "told", "(I)I"⟩, prog_13_method_41_code, (Option.some Jvm.ClassFile.FieldType.int), 12, false),
  (⟨"LaidQuarrelModel", "brings", "(II)V"⟩, prog_13_method_42_code, ((none : Option FieldType)), 12, false),
  (⟨"LaidQuarrelModel", "pours", "(II)V"⟩, prog_13_method_43_code, ((none : Option FieldType)), 12, false),
  (⟨"LaidQuarrelModel", "pour", "(II)I"⟩, prog_13_method_44_code, (Option.some Jvm.ClassFile.FieldType.int), 12, false),
  (⟨"LaidQuarrelModel", "both", "(III)I"⟩, prog_13_method_45_code, (Option.some Jvm.ClassFile.FieldType.int), 12, false),
  (⟨"LaidQuarrelModel", "goes", "()V"⟩, prog_13_method_46_code, ((none : Option FieldType)), 12, false),
  (⟨"LaidQuarrelModel", "goesOn", "(I)V"⟩, prog_13_method_47_code, ((none : Option FieldType)), 12, false),
  (⟨"LaidQuarrelModel", "pass", "(I)I"⟩, prog_13_method_48_code, (Option.some Jvm.ClassFile.FieldType.int), 12, false),
  (⟨"LaidQuarrelModel", "on", "(II)I"⟩, prog_13_method_49_code, (Option.some Jvm.ClassFile.FieldType.int), 12, false),
  (⟨"LaidQuarrelModel", "when", "(II)I"⟩, prog_13_method_50_code, (Option.some Jvm.ClassFile.FieldType.int), 12, false),
  (⟨"LaidQuarrelModel", "ripe", "(I)I"⟩, prog_13_method_51_code, (Option.some Jvm.ClassFile.FieldType.int), 12, false),
  (⟨"LaidQuarrelModel", "lies", "(I)I"⟩, prog_13_method_52_code, (Option.some Jvm.ClassFile.FieldType.int), 12, false),
  (⟨"LaidQuarrelModel", "looksForSayings", "()V"⟩, prog_13_method_53_code, ((none : Option FieldType)), 12, false),
  (⟨"LaidQuarrelModel", "countOf", "(I)I"⟩, prog_13_method_54_code, (Option.some Jvm.ClassFile.FieldType.int), 12, false),
  (⟨"LaidQuarrelModel", "sumOf", "(I)I"⟩, prog_13_method_55_code, (Option.some Jvm.ClassFile.FieldType.int), 12, false),
  (⟨"LaidQuarrelModel", "choose", "(II)I"⟩, prog_13_method_56_code, (Option.some Jvm.ClassFile.FieldType.int), 12, false),
  (⟨"LaidQuarrelModel", "ordersFrom", "(III)V"⟩, prog_13_method_57_code, ((none : Option FieldType)), 12, false),
  (⟨"LaidQuarrelModel", "line", "(II)I"⟩, prog_13_method_58_code, (Option.some Jvm.ClassFile.FieldType.int), 12, false),
  (⟨"LaidQuarrelModel", "pair", "()I"⟩, prog_13_method_59_code, (Option.some Jvm.ClassFile.FieldType.int), 12, false),
  (⟨"LaidQuarrelModel", "pairsFrom", "(II)V"⟩, prog_13_method_60_code, ((none : Option FieldType)), 12, false),
  (⟨"LaidQuarrelModel", "match", "(I)I"⟩, prog_13_method_61_code, (Option.some Jvm.ClassFile.FieldType.int), 12, false),
  (⟨"LaidQuarrelModel", "words", "(III)I"⟩, prog_13_method_62_code, (Option.some Jvm.ClassFile.FieldType.int), 12, false),
  (⟨"LaidQuarrelModel", "see", "(III)I"⟩, prog_13_method_63_code, (Option.some Jvm.ClassFile.FieldType.int), 12, false),
  (⟨"LaidQuarrelModel", "isAsSeen", "(I)Z"⟩, prog_13_method_64_code, (Option.some Jvm.ClassFile.FieldType.boolean), 12, false),
  (⟨"LaidQuarrelModel", "areAsSeen", "()Z"⟩, prog_13_method_65_code, (Option.some Jvm.ClassFile.FieldType.boolean), 12, false),
  (⟨"LaidQuarrelModel", "old", "(II)I"⟩, prog_13_method_66_code, (Option.some Jvm.ClassFile.FieldType.int), 12, false),
  (⟨"LaidQuarrelModel", "firm", "(II)I"⟩, prog_13_method_67_code, (Option.some Jvm.ClassFile.FieldType.int), 12, false),
  (⟨"LaidQuarrelModel", "whose", "(II)I"⟩, prog_13_method_68_code, (Option.some Jvm.ClassFile.FieldType.int), 12, false),
  (⟨"LaidQuarrelModel", "lowest", "(JJI)J"⟩, prog_13_method_69_code, (Option.some Jvm.ClassFile.FieldType.long), 12, false),
  (⟨"LaidQuarrelModel", "odds", "(III)J"⟩, prog_13_method_70_code, (Option.some Jvm.ClassFile.FieldType.long), 12, false),
  (⟨"LaidQuarrelModel", "mean", "(II)J"⟩, prog_13_method_71_code, (Option.some Jvm.ClassFile.FieldType.long), 12, false),
  (⟨"LaidQuarrelModel", "evening", "(III)I"⟩, prog_13_method_72_code, (Option.some Jvm.ClassFile.FieldType.int), 12, false),
  (⟨"LaidQuarrelModel", "does", "(III)V"⟩, prog_13_method_73_code, ((none : Option FieldType)), 12, false),
  (⟨"LaidQuarrelModel", "done", "(I)I"⟩, prog_13_method_74_code, (Option.some Jvm.ClassFile.FieldType.int), 12, false),
  (⟨"LaidQuarrelModel", "book", "(II)I"⟩, prog_13_method_75_code, (Option.some Jvm.ClassFile.FieldType.int), 12, false),
  (⟨"LaidQuarrelModel", "looked", "()I"⟩, prog_13_method_76_code, (Option.some Jvm.ClassFile.FieldType.int), 12, false),
  (⟨"LaidQuarrelModel", "ranBody", "(I)V"⟩, prog_13_method_77_code, ((none : Option FieldType)), 12, false),
  (⟨"LaidQuarrelModel", "isUnder", "(II)Z"⟩, prog_13_method_78_code, (Option.some Jvm.ClassFile.FieldType.boolean), 12, false),
  (⟨"LaidQuarrelModel", "plainUtters", "(I)I"⟩, prog_13_method_79_code, (Option.some Jvm.ClassFile.FieldType.int), 12, false),
  (⟨"LaidQuarrelModel", "uttersActs", "(I)I"⟩, prog_13_method_80_code, (Option.some Jvm.ClassFile.FieldType.int), 12, false),
  (⟨"LaidQuarrelModel", "plainKeeping", "(I)I"⟩, prog_13_method_81_code, (Option.some Jvm.ClassFile.FieldType.int), 12, false),
  (⟨"LaidQuarrelModel", "keepsActs", "(I)I"⟩, prog_13_method_82_code, (Option.some Jvm.ClassFile.FieldType.int), 12, false),
  (⟨"LaidQuarrelModel", "plainTelling", "(I)I"⟩, prog_13_method_83_code, (Option.some Jvm.ClassFile.FieldType.int), 12, false),
  (⟨"LaidQuarrelModel", "tellsActs", "(I)I"⟩, prog_13_method_84_code, (Option.some Jvm.ClassFile.FieldType.int), 12, false),
  (⟨"LaidQuarrelModel", "act", "(III)I"⟩, prog_13_method_85_code, (Option.some Jvm.ClassFile.FieldType.int), 12, false),
  (⟨"LaidQuarrelModel", "trace", "(I)I"⟩, prog_13_method_86_code, (Option.some Jvm.ClassFile.FieldType.int), 12, false),
  (⟨"LaidQuarrelModel", "as", "(II)I"⟩, prog_13_method_87_code, (Option.some Jvm.ClassFile.FieldType.int), 12, false),
  (⟨"LaidQuarrelModel", "image", "()I"⟩, prog_13_method_88_code, (Option.some Jvm.ClassFile.FieldType.int), 12, false),
  (⟨"LaidQuarrelModel", "undo", "()I"⟩, prog_13_method_89_code, (Option.some Jvm.ClassFile.FieldType.int), 12, false),
  (⟨"LaidQuarrelModel", "count", "(I)I"⟩, prog_13_method_90_code, (Option.some Jvm.ClassFile.FieldType.int), 12, false),
  (⟨"java/lang/Integer", "numberOfTrailingZeros", "(I)I"⟩, prog_18_method_48_code, (Option.some Jvm.ClassFile.FieldType.int), 13, false),
  (⟨"java/lang/Integer", "bitCount", "(I)I"⟩, prog_18_method_49_code, (Option.some Jvm.ClassFile.FieldType.int), 13, false),
  (⟨"java/lang/Math", "abs", "(I)I"⟩, prog_20_method_59_code, (Option.some Jvm.ClassFile.FieldType.int), 14, false),
  (⟨"java/lang/Math", "max", "(II)I"⟩, prog_20_method_65_code, (Option.some Jvm.ClassFile.FieldType.int), 14, false),
  (⟨"java/lang/Math", "min", "(II)I"⟩, prog_20_method_69_code, (Option.some Jvm.ClassFile.FieldType.int), 14, false),
  (⟨"java/util/Objects", "checkIndex", "(II)I"⟩, prog_33_method_17_code, (Option.some Jvm.ClassFile.FieldType.int), 15, false),
  (⟨"jdk/internal/util/Preconditions", "checkIndex", "(IILjava/util/function/BiFunction;)I"⟩, prog_37_method_11_code, (Option.some Jvm.ClassFile.FieldType.int), 16, false),
  (⟨"java/util/AbstractList", "<init>", "()V"⟩, prog_28_method_1_code, ((none : Option FieldType)), 17, true),
  (⟨"java/util/AbstractCollection", "<init>", "()V"⟩, prog_27_method_1_code, ((none : Option FieldType)), 18, true),
  (⟨"LaidQuarrelLaw", "law", "([I)Z"⟩, code, (some .boolean), 19, false)]
def xMi (k : Nat) : MethodName × ByteArray × Option FieldType × Nat × Bool := xMs.getD k (⟨"", "", ""⟩, ⟨#[]⟩, none, 0, false)
def xNm (k : Nat) : MethodName := (xMi k).1
def xBc (k : Nat) : ByteArray := (xMi k).2.1
def xRt (k : Nat) : Option FieldType := (xMi k).2.2.1
def xOw (k : Nat) : Nat := (xMi k).2.2.2.1
def xIni (k : Nat) : Bool := (xMi k).2.2.2.2
def xWs (k : Nat) : List Cond := Cond.code (xNm k) (xBc k) (mt k).2.1 (xRt k) :: BW
def xLMs : List ((Nat × Nat) × Nat) := [((0, 79), 230), ((0, 118), 232), ((1, 44), 113), ((2, 56), 230), ((2, 65), 29), ((2, 86), 229), ((2, 140), 37), ((2, 143), 111), ((5, 13), 113), ((6, 32), 66), ((6, 38), 231), ((8, 13), 230), ((8, 29), 66), ((9, 13), 113), ((11, 67), 111), ((11, 71), 116), ((11, 174), 117), ((11, 178), 127), ((11, 207), 228), ((11, 215), 129), ((11, 218), 130), ((11, 221), 229), ((11, 226), 112), ((11, 241), 114), ((11, 244), 118), ((11, 264), 115), ((11, 286), 231), ((11, 289), 230), ((11, 320), 113), ((11, 323), 227), ((12, 50), 141), ((12, 54), 139), ((12, 149), 142), ((12, 152), 145), ((12, 174), 140), ((12, 204), 190), ((12, 220), 146), ((12, 232), 205), ((12, 251), 214), ((15, 105), 233)]
def xLMo : List ((Nat × Nat) × Nat) := [((1, 1), 0), ((2, 3), 0), ((6, 3), 0), ((8, 1), 0), ((11, 3), 0), ((12, 3), 0), ((18, 1), 0)]
def xLMt : List ((Nat × Nat) × (Nat × Nat)) := [((2, 146), (0, 1)), ((2, 152), (1, 2)), ((12, 72), (0, 1)), ((12, 77), (1, 2))]
def xLMp : List ((Nat × Nat) × (Nat × Nat)) := [((0, 1), (0, 0)), ((1, 9), (6, 0)), ((2, 11), (12, 2)), ((3, 1), (31, 3)), ((3, 7), (32, 2)), ((3, 29), (34, 1)), ((4, 1), (35, 3)), ((4, 7), (36, 2)), ((4, 32), (38, 1)), ((5, 1), (40, 3)), ((5, 31), (42, 1)), ((7, 1), (43, 3)), ((7, 7), (44, 2)), ((7, 35), (46, 1)), ((9, 1), (47, 3)), ((9, 31), (49, 1)), ((10, 1), (50, 3)), ((10, 7), (51, 2)), ((10, 29), (54, 1)), ((11, 13), (55, 2)), ((11, 46), (56, 1)), ((11, 58), (57, 0)), ((11, 294), (98, 3)), ((11, 299), (99, 3)), ((11, 302), (100, 3)), ((11, 305), (101, 3)), ((11, 308), (102, 3)), ((11, 311), (103, 3)), ((11, 312), (104, 3)), ((17, 1), (151, 0)), ((19, 9), (152, 0)), ((19, 12), (153, 0))]
def xLMv : List ((Nat × Nat) × (Nat × Nat)) := [((0, 69), (1, 1)), ((0, 123), (2, 1)), ((0, 129), (3, 0)), ((0, 131), (4, 3)), ((0, 144), (5, 2)), ((1, 33), (7, 1)), ((1, 37), (8, 1)), ((1, 50), (9, 3)), ((1, 56), (10, 1)), ((1, 63), (11, 1)), ((2, 26), (13, 1)), ((2, 30), (14, 0)), ((2, 33), (15, 0)), ((2, 36), (16, 2)), ((2, 44), (17, 2)), ((2, 47), (18, 4)), ((2, 61), (19, 3)), ((2, 90), (20, 0)), ((2, 96), (21, 0)), ((2, 100), (22, 1)), ((2, 106), (23, 1)), ((2, 110), (24, 0)), ((2, 114), (25, 2)), ((2, 124), (26, 1)), ((2, 127), (27, 3)), ((2, 131), (28, 1)), ((2, 134), (29, 1)), ((2, 137), (30, 0)), ((3, 23), (33, 3)), ((4, 26), (37, 3)), ((4, 36), (39, 1)), ((5, 25), (41, 3)), ((7, 29), (45, 3)), ((9, 25), (48, 3)), ((10, 11), (52, 0)), ((10, 23), (53, 3)), ((11, 78), (58, 0)), ((11, 82), (59, 0)), ((11, 85), (60, 1)), ((11, 94), (62, 1)), ((11, 119), (64, 3)), ((11, 124), (65, 1)), ((11, 140), (66, 2)), ((11, 144), (67, 2)), ((11, 147), (68, 2)), ((11, 151), (69, 1)), ((11, 155), (70, 2)), ((11, 161), (71, 0)), ((11, 164), (72, 0)), ((11, 167), (73, 0)), ((11, 170), (74, 1)), ((11, 186), (76, 1)), ((11, 190), (77, 2)), ((11, 194), (78, 1)), ((11, 198), (79, 1)), ((11, 200), (80, 0)), ((11, 204), (81, 0)), ((11, 212), (82, 1)), ((11, 230), (83, 1)), ((11, 233), (84, 2)), ((11, 236), (85, 3)), ((11, 248), (86, 3)), ((11, 252), (87, 0)), ((11, 255), (88, 1)), ((11, 258), (89, 1)), ((11, 261), (90, 1)), ((11, 267), (91, 0)), ((11, 270), (92, 0)), ((11, 271), (93, 0)), ((11, 278), (94, 0)), ((11, 281), (95, 0)), ((11, 285), (97, 0)), ((11, 313), (105, 2)), ((11, 317), (106, 2)), ((11, 326), (107, 2)), ((11, 329), (108, 2)), ((12, 68), (109, 0)), ((12, 81), (110, 1)), ((12, 91), (111, 0)), ((12, 94), (112, 1)), ((12, 97), (113, 0)), ((12, 102), (114, 1)), ((12, 108), (115, 0)), ((12, 111), (116, 0)), ((12, 114), (117, 1)), ((12, 120), (118, 2)), ((12, 128), (119, 2)), ((12, 133), (120, 0)), ((12, 136), (121, 0)), ((12, 139), (122, 2)), ((12, 143), (123, 1)), ((12, 146), (124, 1)), ((12, 156), (125, 1)), ((12, 159), (126, 1)), ((12, 162), (127, 1)), ((12, 165), (128, 0)), ((12, 168), (129, 0)), ((12, 171), (130, 0)), ((12, 178), (131, 2)), ((12, 182), (132, 2)), ((12, 185), (133, 0)), ((12, 188), (134, 1)), ((12, 191), (135, 0)), ((12, 194), (136, 0)), ((12, 198), (137, 0)), ((12, 201), (138, 1)), ((12, 210), (139, 3)), ((12, 217), (140, 2)), ((12, 223), (141, 1)), ((12, 226), (142, 0)), ((12, 236), (143, 3)), ((12, 242), (144, 1)), ((12, 255), (145, 1)), ((12, 258), (146, 1)), ((12, 264), (147, 1)), ((12, 267), (148, 1)), ((12, 270), (149, 1)), ((12, 273), (150, 1)), ((19, 13), (154, 1)), ((19, 17), (155, 1)), ((19, 18), (156, 0)), ((19, 22), (157, 0)), ((19, 23), (158, 3)), ((19, 27), (159, 3)), ((19, 28), (160, 1)), ((19, 31), (161, 1)), ((19, 32), (162, 2)), ((19, 36), (163, 2)), ((19, 37), (164, 3)), ((19, 40), (165, 3)), ((19, 41), (166, 3)), ((19, 44), (167, 3)), ((19, 45), (168, 1)), ((19, 48), (169, 1)), ((19, 49), (170, 1)), ((19, 52), (171, 1)), ((19, 53), (172, 2)), ((19, 56), (173, 2)), ((19, 57), (174, 3)), ((19, 60), (175, 3)), ((19, 61), (176, 1)), ((19, 64), (177, 1)), ((19, 65), (178, 2)), ((19, 68), (179, 2)), ((19, 69), (180, 2)), ((19, 72), (181, 2)), ((19, 73), (182, 1)), ((19, 76), (183, 1)), ((19, 77), (184, 1)), ((19, 80), (185, 1)), ((19, 81), (186, 2)), ((19, 84), (187, 2)), ((19, 85), (188, 2)), ((19, 88), (189, 2)), ((19, 89), (190, 0)), ((19, 92), (191, 0)), ((19, 93), (192, 1)), ((19, 96), (193, 1)), ((19, 97), (194, 3)), ((19, 100), (195, 3)), ((19, 101), (196, 3)), ((19, 104), (197, 3)), ((19, 105), (198, 2)), ((19, 108), (199, 2)), ((19, 109), (200, 2)), ((19, 112), (201, 2)), ((19, 113), (202, 2)), ((19, 116), (203, 2)), ((19, 117), (204, 3)), ((19, 121), (205, 3)), ((19, 122), (206, 2)), ((19, 126), (207, 2)), ((19, 127), (208, 3)), ((19, 130), (209, 3)), ((19, 131), (210, 1)), ((19, 134), (211, 1)), ((19, 135), (212, 2)), ((19, 138), (213, 2)), ((19, 139), (214, 0)), ((19, 142), (215, 0)), ((19, 143), (216, 3)), ((19, 146), (217, 3)), ((19, 147), (218, 1)), ((19, 150), (219, 1)), ((19, 151), (220, 2)), ((19, 154), (221, 2)), ((19, 155), (222, 0)), ((19, 158), (223, 0)), ((19, 159), (224, 0)), ((19, 162), (225, 0)), ((19, 163), (226, 1)), ((19, 166), (227, 1))]
def xLMf : List ((Nat × Nat) × (Nat × Nat)) := [((11, 89), (61, 0)), ((11, 112), (63, 1)), ((11, 182), (75, 1)), ((11, 282), (96, 1))]
/-- the check of one entry of a table against the bytes -/
def xDecC (own rk : Nat) (rt : Option FieldType) (i : Instr) (op : Nat) (a b : Int) : Bool := match i with
  | .ireturn => op == 60 && (decide (rt = some .int) || (decide (rt = some .boolean) && rk == 3))
  | .areturn => op == 61 && (match rt with | some (.object _) => true | some (.array _) => true | _ => false)
  | .lreturn => op == 62 && decide (rt = some .long)
  | .return_ => op == 63 && decide (rt = none)
  | .invokestatic k => op == 50 && decide (xLMs.lookup (own, k) = some a.toNat)
  | .invokespecial k => (op == 51 && decide (xLMp.lookup (own, k) = some (a.toNat, b.toNat))) || (op == 53 && decide (xLMo.lookup (own, k) = some 0))
  | .invokevirtual k => (op == 51 && decide (xLMv.lookup (own, k) = some (a.toNat, b.toNat))) || (op == 52 && decide (xLMt.lookup (own, k) = some (a.toNat, b.toNat)))
  | .invokeinterface k _ => op == 51 && decide (xLMf.lookup (own, k) = some (a.toNat, b.toNat))
  | _ => false
def xChkE (own rk : Nat) (rt : Option FieldType) (ini : Bool) (cc : ByteArray) (e : ME) : Bool := e.2.2.1 == 99 || (match decode cc e.1 with
  | .ok (i, len) => e.2.1 == e.1 + len && (xLn i == 0 || len == xLn i) && (if e.2.2.1 < 50 then decide (xDec own ini e.1 i = some (e.2.2.1, e.2.2.2.1, e.2.2.2.2.1, e.2.2.2.2.2)) else xDecC own rk rt i e.2.2.1 e.2.2.2.1 e.2.2.2.2.1)
  | .error _ => false)
def xChk (k : Nat) : Bool := (mt k).1.all (xChkE (xOw k) (mt k).2.2.2 (xRt k) (xIni k) (xBc k))
theorem ck_Jx4a65c_init_da8c8 : xChk 0 = true := by decide +kernel
theorem ck_Jx4a65c_grow_92f84 : xChk 1 = true := by decide +kernel
theorem ck_Jx4a65c_grow_d5877 : xChk 2 = true := by decide +kernel
theorem ck_Jx4a65c_size_8abf5 : xChk 3 = true := by decide +kernel
theorem ck_Jx4a65c_elementData_915e3 : xChk 4 = true := by decide +kernel
theorem ck_Jx4a65c_get_915e3 : xChk 5 = true := by decide +kernel
theorem ck_Jx4a65c_add_72be8 : xChk 6 = true := by decide +kernel
theorem ck_Jx4a65c_add_9ea2d : xChk 7 = true := by decide +kernel
theorem ck_Jx4a65c_remove_915e3 : xChk 8 = true := by decide +kernel
theorem ck_Jx4a65c_fastRemove_b59b0 : xChk 9 = true := by decide +kernel
theorem ck_X0_init : xChk 10 = true := by decide +kernel
theorem ck_X0_keep : xChk 11 = true := by decide +kernel
theorem ck_X0_restore : xChk 12 = true := by decide +kernel
theorem ck_X0_tryNow : xChk 13 = true := by decide +kernel
theorem ck_X0_tryBehind : xChk 14 = true := by decide +kernel
theorem ck_X0_spoken : xChk 15 = true := by decide +kernel
theorem ck_X0_utters : xChk 16 = true := by decide +kernel
theorem ck_X0_keeps : xChk 17 = true := by decide +kernel
theorem ck_X0_tells : xChk 18 = true := by decide +kernel
theorem ck_X1_init : xChk 19 = true := by decide +kernel
theorem ck_X1_copyFrom : xChk 20 = true := by decide +kernel
theorem ck_X1_keep : xChk 21 = true := by decide +kernel
theorem ck_X1_restore : xChk 22 = true := by decide +kernel
theorem ck_X1_calm : xChk 23 = true := by decide +kernel
theorem ck_X1_peace : xChk 24 = true := by decide +kernel
theorem ck_X1_lastOf : xChk 25 = true := by decide +kernel
theorem ck_X1_softOf : xChk 26 = true := by decide +kernel
theorem ck_X1_holds : xChk 27 = true := by decide +kernel
theorem ck_X1_testHolds : xChk 28 = true := by decide +kernel
theorem ck_X1_factOf : xChk 29 = true := by decide +kernel
theorem ck_X1_readText : xChk 30 = true := by decide +kernel
theorem ck_X1_readClause : xChk 31 = true := by decide +kernel
theorem ck_X1_addClause : xChk 32 = true := by decide +kernel
theorem ck_X1_readEither : xChk 33 = true := by decide +kernel
theorem ck_X1_readFactor : xChk 34 = true := by decide +kernel
theorem ck_X1_readBracket : xChk 35 = true := by decide +kernel
theorem ck_X1_readTest : xChk 36 = true := by decide +kernel
theorem ck_X1_isLetter : xChk 37 = true := by decide +kernel
theorem ck_X1_readNumber : xChk 38 = true := by decide +kernel
theorem ck_X1_takes : xChk 39 = true := by decide +kernel
theorem ck_X1_takesAll : xChk 40 = true := by decide +kernel
theorem ck_X2_init : xChk 41 = true := by decide +kernel
theorem ck_X2_spoken : xChk 42 = true := by decide +kernel
theorem ck_X2_tells : xChk 43 = true := by decide +kernel
theorem ck_X3_init : xChk 44 = true := by decide +kernel
theorem ck_X3_spoken : xChk 45 = true := by decide +kernel
theorem ck_X3_tells : xChk 46 = true := by decide +kernel
theorem ck_X4_init : xChk 47 = true := by decide +kernel
theorem ck_X4_spoken : xChk 48 = true := by decide +kernel
theorem ck_X4_utters : xChk 49 = true := by decide +kernel
theorem ck_X5_init : xChk 50 = true := by decide +kernel
theorem ck_X5_copyFrom : xChk 51 = true := by decide +kernel
theorem ck_X5_age : xChk 52 = true := by decide +kernel
theorem ck_X5_tell : xChk 53 = true := by decide +kernel
theorem ck_X5_telling : xChk 54 = true := by decide +kernel
theorem ck_X6_init : xChk 55 = true := by decide +kernel
theorem ck_X6_spoken : xChk 56 = true := by decide +kernel
theorem ck_X6_utters : xChk 57 = true := by decide +kernel
theorem ck_X7_init : xChk 58 = true := by decide +kernel
theorem ck_X7_add : xChk 59 = true := by decide +kernel
theorem ck_X7_at : xChk 60 = true := by decide +kernel
theorem ck_X7_put : xChk 61 = true := by decide +kernel
theorem ck_X7_clear : xChk 62 = true := by decide +kernel
theorem ck_X7_copyFrom : xChk 63 = true := by decide +kernel
theorem ck_X7_keep : xChk 64 = true := by decide +kernel
theorem ck_X7_restore : xChk 65 = true := by decide +kernel
theorem ck_X7_copy : xChk 66 = true := by decide +kernel
theorem ck_X8_init : xChk 67 = true := by decide +kernel
theorem ck_X8_spoken : xChk 68 = true := by decide +kernel
theorem ck_X8_keeps : xChk 69 = true := by decide +kernel
theorem ck_X9_init : xChk 70 = true := by decide +kernel
theorem ck_X9_spoken : xChk 71 = true := by decide +kernel
theorem ck_X9_keeps : xChk 72 = true := by decide +kernel
theorem ck_X10_init : xChk 73 = true := by decide +kernel
theorem ck_X10_feed : xChk 74 = true := by decide +kernel
theorem ck_X10_cellar : xChk 75 = true := by decide +kernel
theorem ck_X10_bottle : xChk 76 = true := by decide +kernel
theorem ck_X10_guest : xChk 77 = true := by decide +kernel
theorem ck_X10_of : xChk 78 = true := by decide +kernel
theorem ck_X10_row : xChk 79 = true := by decide +kernel
theorem ck_X10_set : xChk 80 = true := by decide +kernel
theorem ck_X10_mood : xChk 81 = true := by decide +kernel
theorem ck_X10_told : xChk 82 = true := by decide +kernel
theorem ck_X10_pour : xChk 83 = true := by decide +kernel
theorem ck_X10_both : xChk 84 = true := by decide +kernel
theorem ck_X10_pass : xChk 85 = true := by decide +kernel
theorem ck_X10_on : xChk 86 = true := by decide +kernel
theorem ck_X10_when : xChk 87 = true := by decide +kernel
theorem ck_X10_ripe : xChk 88 = true := by decide +kernel
theorem ck_X10_lies : xChk 89 = true := by decide +kernel
theorem ck_X10_choose : xChk 90 = true := by decide +kernel
theorem ck_X10_line : xChk 91 = true := by decide +kernel
theorem ck_X10_pair : xChk 92 = true := by decide +kernel
theorem ck_X10_match : xChk 93 = true := by decide +kernel
theorem ck_X10_words : xChk 94 = true := by decide +kernel
theorem ck_X10_see : xChk 95 = true := by decide +kernel
theorem ck_X10_old : xChk 96 = true := by decide +kernel
theorem ck_X10_firm : xChk 97 = true := by decide +kernel
theorem ck_X10_whose : xChk 98 = true := by decide +kernel
theorem ck_X10_odds : xChk 99 = true := by decide +kernel
theorem ck_X10_mean : xChk 100 = true := by decide +kernel
theorem ck_X10_evening : xChk 101 = true := by decide +kernel
theorem ck_X10_done : xChk 102 = true := by decide +kernel
theorem ck_X10_book : xChk 103 = true := by decide +kernel
theorem ck_X10_looked : xChk 104 = true := by decide +kernel
theorem ck_X10_act : xChk 105 = true := by decide +kernel
theorem ck_X10_trace : xChk 106 = true := by decide +kernel
theorem ck_X10_as : xChk 107 = true := by decide +kernel
theorem ck_X10_image : xChk 108 = true := by decide +kernel
theorem ck_X10_undo : xChk 109 = true := by decide +kernel
theorem ck_X10_count : xChk 110 = true := by decide +kernel
theorem ck_X10_within : xChk 111 = true := by decide +kernel
theorem ck_X10_isIn : xChk 112 = true := by decide +kernel
theorem ck_X10_nearer : xChk 113 = true := by decide +kernel
theorem ck_X10_heldMood : xChk 114 = true := by decide +kernel
theorem ck_X10_kindAbove : xChk 115 = true := by decide +kernel
theorem ck_X10_added : xChk 116 = true := by decide +kernel
theorem ck_X10_sum : xChk 117 = true := by decide +kernel
theorem ck_X10_fraction : xChk 118 = true := by decide +kernel
theorem ck_X10_isGuest : xChk 119 = true := by decide +kernel
theorem ck_X10_bottleAt : xChk 120 = true := by decide +kernel
theorem ck_X10_madeOf : xChk 121 = true := by decide +kernel
theorem ck_X10_says : xChk 122 = true := by decide +kernel
theorem ck_X10_allSay : xChk 123 = true := by decide +kernel
theorem ck_X10_fullOnes : xChk 124 = true := by decide +kernel
theorem ck_X10_hearAll : xChk 125 = true := by decide +kernel
theorem ck_X10_saidBy : xChk 126 = true := by decide +kernel
theorem ck_X10_lift : xChk 127 = true := by decide +kernel
theorem ck_X10_calmDown : xChk 128 = true := by decide +kernel
theorem ck_X10_bestLine : xChk 129 = true := by decide +kernel
theorem ck_X10_moodOf : xChk 130 = true := by decide +kernel
theorem ck_X10_countPairs : xChk 131 = true := by decide +kernel
theorem ck_X10_makesPeace : xChk 132 = true := by decide +kernel
theorem ck_X10_partnerOf : xChk 133 = true := by decide +kernel
theorem ck_X10_leastPartner : xChk 134 = true := by decide +kernel
theorem ck_X10_allSeenIsSo : xChk 135 = true := by decide +kernel
theorem ck_X10_tryRow : xChk 136 = true := by decide +kernel
theorem ck_X10_allSayAsTried : xChk 137 = true := by decide +kernel
theorem ck_X11_init : xChk 138 = true := by decide +kernel
theorem ck_X11_in : xChk 139 = true := by decide +kernel
theorem ck_X11_within : xChk 140 = true := by decide +kernel
theorem ck_X11_size : xChk 141 = true := by decide +kernel
theorem ck_X11_nearer : xChk 142 = true := by decide +kernel
theorem ck_X11_isBottle : xChk 143 = true := by decide +kernel
theorem ck_X11_isGuest : xChk 144 = true := by decide +kernel
theorem ck_X11_isMood : xChk 145 = true := by decide +kernel
theorem ck_X11_isSaying : xChk 146 = true := by decide +kernel
theorem ck_X11_keeps : xChk 147 = true := by decide +kernel
theorem ck_X11_goesBack : xChk 148 = true := by decide +kernel
theorem ck_X11_feed : xChk 149 = true := by decide +kernel
theorem ck_X11_here : xChk 150 = true := by decide +kernel
theorem ck_X11_must : xChk 151 = true := by decide +kernel
theorem ck_X11_spells : xChk 152 = true := by decide +kernel
theorem ck_X11_figures : xChk 153 = true := by decide +kernel
theorem ck_X11_among : xChk 154 = true := by decide +kernel
theorem ck_X11_emits : xChk 155 = true := by decide +kernel
theorem ck_X11_factor : xChk 156 = true := by decide +kernel
theorem ck_X11_every : xChk 157 = true := by decide +kernel
theorem ck_X11_some : xChk 158 = true := by decide +kernel
theorem ck_X11_much : xChk 159 = true := by decide +kernel
theorem ck_X11_tellsHere : xChk 160 = true := by decide +kernel
theorem ck_X11_wordOfS : xChk 161 = true := by decide +kernel
theorem ck_X11_clauseHere : xChk 162 = true := by decide +kernel
theorem ck_X11_cellar : xChk 163 = true := by decide +kernel
theorem ck_X11_tellsOf : xChk 164 = true := by decide +kernel
theorem ck_X11_looks : xChk 165 = true := by decide +kernel
theorem ck_X11_softOf : xChk 166 = true := by decide +kernel
theorem ck_X11_saysOf : xChk 167 = true := by decide +kernel
theorem ck_X11_bottle : xChk 168 = true := by decide +kernel
theorem ck_X11_guest : xChk 169 = true := by decide +kernel
theorem ck_X11_of : xChk 170 = true := by decide +kernel
theorem ck_X11_row : xChk 171 = true := by decide +kernel
theorem ck_X11_set : xChk 172 = true := by decide +kernel
theorem ck_X11_mood : xChk 173 = true := by decide +kernel
theorem ck_X11_fullOnes : xChk 174 = true := by decide +kernel
theorem ck_X11_allSay : xChk 175 = true := by decide +kernel
theorem ck_X11_allMoods : xChk 176 = true := by decide +kernel
theorem ck_X11_told : xChk 177 = true := by decide +kernel
theorem ck_X11_brings : xChk 178 = true := by decide +kernel
theorem ck_X11_pours : xChk 179 = true := by decide +kernel
theorem ck_X11_pour : xChk 180 = true := by decide +kernel
theorem ck_X11_both : xChk 181 = true := by decide +kernel
theorem ck_X11_goes : xChk 182 = true := by decide +kernel
theorem ck_X11_goesOn : xChk 183 = true := by decide +kernel
theorem ck_X11_pass : xChk 184 = true := by decide +kernel
theorem ck_X11_on : xChk 185 = true := by decide +kernel
theorem ck_X11_when : xChk 186 = true := by decide +kernel
theorem ck_X11_ripe : xChk 187 = true := by decide +kernel
theorem ck_X11_lies : xChk 188 = true := by decide +kernel
theorem ck_X11_looksForSayings : xChk 189 = true := by decide +kernel
theorem ck_X11_countOf : xChk 190 = true := by decide +kernel
theorem ck_X11_sumOf : xChk 191 = true := by decide +kernel
theorem ck_X11_choose : xChk 192 = true := by decide +kernel
theorem ck_X11_ordersFrom : xChk 193 = true := by decide +kernel
theorem ck_X11_line : xChk 194 = true := by decide +kernel
theorem ck_X11_pair : xChk 195 = true := by decide +kernel
theorem ck_X11_pairsFrom : xChk 196 = true := by decide +kernel
theorem ck_X11_match : xChk 197 = true := by decide +kernel
theorem ck_X11_words : xChk 198 = true := by decide +kernel
theorem ck_X11_see : xChk 199 = true := by decide +kernel
theorem ck_X11_isAsSeen : xChk 200 = true := by decide +kernel
theorem ck_X11_areAsSeen : xChk 201 = true := by decide +kernel
theorem ck_X11_old : xChk 202 = true := by decide +kernel
theorem ck_X11_firm : xChk 203 = true := by decide +kernel
theorem ck_X11_whose : xChk 204 = true := by decide +kernel
theorem ck_X11_lowest : xChk 205 = true := by decide +kernel
theorem ck_X11_odds : xChk 206 = true := by decide +kernel
theorem ck_X11_mean : xChk 207 = true := by decide +kernel
theorem ck_X11_evening : xChk 208 = true := by decide +kernel
theorem ck_X11_does : xChk 209 = true := by decide +kernel
theorem ck_X11_done : xChk 210 = true := by decide +kernel
theorem ck_X11_book : xChk 211 = true := by decide +kernel
theorem ck_X11_looked : xChk 212 = true := by decide +kernel
theorem ck_X11_ranBody : xChk 213 = true := by decide +kernel
theorem ck_X11_isUnder : xChk 214 = true := by decide +kernel
theorem ck_X11_plainUtters : xChk 215 = true := by decide +kernel
theorem ck_X11_uttersActs : xChk 216 = true := by decide +kernel
theorem ck_X11_plainKeeping : xChk 217 = true := by decide +kernel
theorem ck_X11_keepsActs : xChk 218 = true := by decide +kernel
theorem ck_X11_plainTelling : xChk 219 = true := by decide +kernel
theorem ck_X11_tellsActs : xChk 220 = true := by decide +kernel
theorem ck_X11_act : xChk 221 = true := by decide +kernel
theorem ck_X11_trace : xChk 222 = true := by decide +kernel
theorem ck_X11_as : xChk 223 = true := by decide +kernel
theorem ck_X11_image : xChk 224 = true := by decide +kernel
theorem ck_X11_undo : xChk 225 = true := by decide +kernel
theorem ck_X11_count : xChk 226 = true := by decide +kernel
theorem ck_J6_numberOfTrailingZeros_0f7a4 : xChk 227 = true := by decide +kernel
theorem ck_J6_bitCount_0f7a4 : xChk 228 = true := by decide +kernel
theorem ck_J9_abs_0f7a4 : xChk 229 = true := by decide +kernel
theorem ck_J9_max_7cf53 : xChk 230 = true := by decide +kernel
theorem ck_J9_min_7cf53 : xChk 231 = true := by decide +kernel
theorem ck_J15_checkIndex_7cf53 : xChk 232 = true := by decide +kernel
theorem ck_J3_checkIndex_8e157 : xChk 233 = true := by decide +kernel
theorem ck_Jxc12de_init_da8c8 : xChk 234 = true := by decide +kernel
theorem ck_Jxa1e45_init_da8c8 : xChk 235 = true := by decide +kernel
end
section
/-! THE LAW's own table, held against its bytes in pieces -/
theorem all_cut {α : Type} {p : α → Bool} {l : List α} (n : Nat) (h1 : (l.take n).all p = true) (h2 : (l.drop n).all p = true) : l.all p = true := by
  rw [← List.take_append_drop n l, List.all_append, h1, h2]
  rfl
def pL : ME → Bool := xChkE (xOw 236) (mt 236).2.2.2 (xRt 236) (xIni 236) (xBc 236)
theorem ckL_0 : ((t_L_law.drop 0).take 40).all pL = true := by decide +kernel
theorem ckL_1 : ((t_L_law.drop 40).take 40).all pL = true := by decide +kernel
theorem ckL_2 : ((t_L_law.drop 80).take 40).all pL = true := by decide +kernel
theorem ckL_3 : ((t_L_law.drop 120).take 40).all pL = true := by decide +kernel
theorem ckL_4 : ((t_L_law.drop 160).take 40).all pL = true := by decide +kernel
theorem ckL_5 : ((t_L_law.drop 200).take 40).all pL = true := by decide +kernel
theorem ckL_6 : ((t_L_law.drop 240).take 40).all pL = true := by decide +kernel
theorem ckL_7 : ((t_L_law.drop 280).take 40).all pL = true := by decide +kernel
theorem ckL_8 : ((t_L_law.drop 320).take 40).all pL = true := by decide +kernel
theorem ckL_9 : ((t_L_law.drop 360).take 40).all pL = true := by decide +kernel
theorem ckL_10 : ((t_L_law.drop 400).take 40).all pL = true := by decide +kernel
theorem ckL_11 : ((t_L_law.drop 440).take 40).all pL = true := by decide +kernel
theorem ckL_12 : ((t_L_law.drop 480).take 40).all pL = true := by decide +kernel
theorem ckL_13 : ((t_L_law.drop 520).take 40).all pL = true := by decide +kernel
theorem ckL_14 : ((t_L_law.drop 560).take 40).all pL = true := by decide +kernel
theorem ckL_15 : ((t_L_law.drop 600).take 40).all pL = true := by decide +kernel
theorem ckL_16 : ((t_L_law.drop 640).take 40).all pL = true := by decide +kernel
theorem ckL_17 : ((t_L_law.drop 680).take 40).all pL = true := by decide +kernel
theorem ckL_18 : ((t_L_law.drop 720).take 40).all pL = true := by decide +kernel
theorem ckL_19 : ((t_L_law.drop 760).take 40).all pL = true := by decide +kernel
theorem ckL_20 : ((t_L_law.drop 800).take 40).all pL = true := by decide +kernel
theorem ckL_21 : ((t_L_law.drop 840).take 40).all pL = true := by decide +kernel
theorem ckL_22 : ((t_L_law.drop 880).take 40).all pL = true := by decide +kernel
theorem ckL_end : (t_L_law.drop 920).all pL = true := by decide +kernel
theorem ckd_23 : (t_L_law.drop 920).all pL = true := ckL_end
theorem ckd_22 : (t_L_law.drop 880).all pL = true := all_cut 40 ckL_22 (by rw [List.drop_drop]; exact ckd_23)
theorem ckd_21 : (t_L_law.drop 840).all pL = true := all_cut 40 ckL_21 (by rw [List.drop_drop]; exact ckd_22)
theorem ckd_20 : (t_L_law.drop 800).all pL = true := all_cut 40 ckL_20 (by rw [List.drop_drop]; exact ckd_21)
theorem ckd_19 : (t_L_law.drop 760).all pL = true := all_cut 40 ckL_19 (by rw [List.drop_drop]; exact ckd_20)
theorem ckd_18 : (t_L_law.drop 720).all pL = true := all_cut 40 ckL_18 (by rw [List.drop_drop]; exact ckd_19)
theorem ckd_17 : (t_L_law.drop 680).all pL = true := all_cut 40 ckL_17 (by rw [List.drop_drop]; exact ckd_18)
theorem ckd_16 : (t_L_law.drop 640).all pL = true := all_cut 40 ckL_16 (by rw [List.drop_drop]; exact ckd_17)
theorem ckd_15 : (t_L_law.drop 600).all pL = true := all_cut 40 ckL_15 (by rw [List.drop_drop]; exact ckd_16)
theorem ckd_14 : (t_L_law.drop 560).all pL = true := all_cut 40 ckL_14 (by rw [List.drop_drop]; exact ckd_15)
theorem ckd_13 : (t_L_law.drop 520).all pL = true := all_cut 40 ckL_13 (by rw [List.drop_drop]; exact ckd_14)
theorem ckd_12 : (t_L_law.drop 480).all pL = true := all_cut 40 ckL_12 (by rw [List.drop_drop]; exact ckd_13)
theorem ckd_11 : (t_L_law.drop 440).all pL = true := all_cut 40 ckL_11 (by rw [List.drop_drop]; exact ckd_12)
theorem ckd_10 : (t_L_law.drop 400).all pL = true := all_cut 40 ckL_10 (by rw [List.drop_drop]; exact ckd_11)
theorem ckd_9 : (t_L_law.drop 360).all pL = true := all_cut 40 ckL_9 (by rw [List.drop_drop]; exact ckd_10)
theorem ckd_8 : (t_L_law.drop 320).all pL = true := all_cut 40 ckL_8 (by rw [List.drop_drop]; exact ckd_9)
theorem ckd_7 : (t_L_law.drop 280).all pL = true := all_cut 40 ckL_7 (by rw [List.drop_drop]; exact ckd_8)
theorem ckd_6 : (t_L_law.drop 240).all pL = true := all_cut 40 ckL_6 (by rw [List.drop_drop]; exact ckd_7)
theorem ckd_5 : (t_L_law.drop 200).all pL = true := all_cut 40 ckL_5 (by rw [List.drop_drop]; exact ckd_6)
theorem ckd_4 : (t_L_law.drop 160).all pL = true := all_cut 40 ckL_4 (by rw [List.drop_drop]; exact ckd_5)
theorem ckd_3 : (t_L_law.drop 120).all pL = true := all_cut 40 ckL_3 (by rw [List.drop_drop]; exact ckd_4)
theorem ckd_2 : (t_L_law.drop 80).all pL = true := all_cut 40 ckL_2 (by rw [List.drop_drop]; exact ckd_3)
theorem ckd_1 : (t_L_law.drop 40).all pL = true := all_cut 40 ckL_1 (by rw [List.drop_drop]; exact ckd_2)
theorem ckd_0 : (t_L_law.drop 0).all pL = true := all_cut 40 ckL_0 (by rw [List.drop_drop]; exact ckd_1)
theorem ck_L_law : xChk 236 = true := ckd_0
theorem xChk_all (k : Nat) : xChk k = true := by
  match k with
  | 0 => exact ck_Jx4a65c_init_da8c8
  | 1 => exact ck_Jx4a65c_grow_92f84
  | 2 => exact ck_Jx4a65c_grow_d5877
  | 3 => exact ck_Jx4a65c_size_8abf5
  | 4 => exact ck_Jx4a65c_elementData_915e3
  | 5 => exact ck_Jx4a65c_get_915e3
  | 6 => exact ck_Jx4a65c_add_72be8
  | 7 => exact ck_Jx4a65c_add_9ea2d
  | 8 => exact ck_Jx4a65c_remove_915e3
  | 9 => exact ck_Jx4a65c_fastRemove_b59b0
  | 10 => exact ck_X0_init
  | 11 => exact ck_X0_keep
  | 12 => exact ck_X0_restore
  | 13 => exact ck_X0_tryNow
  | 14 => exact ck_X0_tryBehind
  | 15 => exact ck_X0_spoken
  | 16 => exact ck_X0_utters
  | 17 => exact ck_X0_keeps
  | 18 => exact ck_X0_tells
  | 19 => exact ck_X1_init
  | 20 => exact ck_X1_copyFrom
  | 21 => exact ck_X1_keep
  | 22 => exact ck_X1_restore
  | 23 => exact ck_X1_calm
  | 24 => exact ck_X1_peace
  | 25 => exact ck_X1_lastOf
  | 26 => exact ck_X1_softOf
  | 27 => exact ck_X1_holds
  | 28 => exact ck_X1_testHolds
  | 29 => exact ck_X1_factOf
  | 30 => exact ck_X1_readText
  | 31 => exact ck_X1_readClause
  | 32 => exact ck_X1_addClause
  | 33 => exact ck_X1_readEither
  | 34 => exact ck_X1_readFactor
  | 35 => exact ck_X1_readBracket
  | 36 => exact ck_X1_readTest
  | 37 => exact ck_X1_isLetter
  | 38 => exact ck_X1_readNumber
  | 39 => exact ck_X1_takes
  | 40 => exact ck_X1_takesAll
  | 41 => exact ck_X2_init
  | 42 => exact ck_X2_spoken
  | 43 => exact ck_X2_tells
  | 44 => exact ck_X3_init
  | 45 => exact ck_X3_spoken
  | 46 => exact ck_X3_tells
  | 47 => exact ck_X4_init
  | 48 => exact ck_X4_spoken
  | 49 => exact ck_X4_utters
  | 50 => exact ck_X5_init
  | 51 => exact ck_X5_copyFrom
  | 52 => exact ck_X5_age
  | 53 => exact ck_X5_tell
  | 54 => exact ck_X5_telling
  | 55 => exact ck_X6_init
  | 56 => exact ck_X6_spoken
  | 57 => exact ck_X6_utters
  | 58 => exact ck_X7_init
  | 59 => exact ck_X7_add
  | 60 => exact ck_X7_at
  | 61 => exact ck_X7_put
  | 62 => exact ck_X7_clear
  | 63 => exact ck_X7_copyFrom
  | 64 => exact ck_X7_keep
  | 65 => exact ck_X7_restore
  | 66 => exact ck_X7_copy
  | 67 => exact ck_X8_init
  | 68 => exact ck_X8_spoken
  | 69 => exact ck_X8_keeps
  | 70 => exact ck_X9_init
  | 71 => exact ck_X9_spoken
  | 72 => exact ck_X9_keeps
  | 73 => exact ck_X10_init
  | 74 => exact ck_X10_feed
  | 75 => exact ck_X10_cellar
  | 76 => exact ck_X10_bottle
  | 77 => exact ck_X10_guest
  | 78 => exact ck_X10_of
  | 79 => exact ck_X10_row
  | 80 => exact ck_X10_set
  | 81 => exact ck_X10_mood
  | 82 => exact ck_X10_told
  | 83 => exact ck_X10_pour
  | 84 => exact ck_X10_both
  | 85 => exact ck_X10_pass
  | 86 => exact ck_X10_on
  | 87 => exact ck_X10_when
  | 88 => exact ck_X10_ripe
  | 89 => exact ck_X10_lies
  | 90 => exact ck_X10_choose
  | 91 => exact ck_X10_line
  | 92 => exact ck_X10_pair
  | 93 => exact ck_X10_match
  | 94 => exact ck_X10_words
  | 95 => exact ck_X10_see
  | 96 => exact ck_X10_old
  | 97 => exact ck_X10_firm
  | 98 => exact ck_X10_whose
  | 99 => exact ck_X10_odds
  | 100 => exact ck_X10_mean
  | 101 => exact ck_X10_evening
  | 102 => exact ck_X10_done
  | 103 => exact ck_X10_book
  | 104 => exact ck_X10_looked
  | 105 => exact ck_X10_act
  | 106 => exact ck_X10_trace
  | 107 => exact ck_X10_as
  | 108 => exact ck_X10_image
  | 109 => exact ck_X10_undo
  | 110 => exact ck_X10_count
  | 111 => exact ck_X10_within
  | 112 => exact ck_X10_isIn
  | 113 => exact ck_X10_nearer
  | 114 => exact ck_X10_heldMood
  | 115 => exact ck_X10_kindAbove
  | 116 => exact ck_X10_added
  | 117 => exact ck_X10_sum
  | 118 => exact ck_X10_fraction
  | 119 => exact ck_X10_isGuest
  | 120 => exact ck_X10_bottleAt
  | 121 => exact ck_X10_madeOf
  | 122 => exact ck_X10_says
  | 123 => exact ck_X10_allSay
  | 124 => exact ck_X10_fullOnes
  | 125 => exact ck_X10_hearAll
  | 126 => exact ck_X10_saidBy
  | 127 => exact ck_X10_lift
  | 128 => exact ck_X10_calmDown
  | 129 => exact ck_X10_bestLine
  | 130 => exact ck_X10_moodOf
  | 131 => exact ck_X10_countPairs
  | 132 => exact ck_X10_makesPeace
  | 133 => exact ck_X10_partnerOf
  | 134 => exact ck_X10_leastPartner
  | 135 => exact ck_X10_allSeenIsSo
  | 136 => exact ck_X10_tryRow
  | 137 => exact ck_X10_allSayAsTried
  | 138 => exact ck_X11_init
  | 139 => exact ck_X11_in
  | 140 => exact ck_X11_within
  | 141 => exact ck_X11_size
  | 142 => exact ck_X11_nearer
  | 143 => exact ck_X11_isBottle
  | 144 => exact ck_X11_isGuest
  | 145 => exact ck_X11_isMood
  | 146 => exact ck_X11_isSaying
  | 147 => exact ck_X11_keeps
  | 148 => exact ck_X11_goesBack
  | 149 => exact ck_X11_feed
  | 150 => exact ck_X11_here
  | 151 => exact ck_X11_must
  | 152 => exact ck_X11_spells
  | 153 => exact ck_X11_figures
  | 154 => exact ck_X11_among
  | 155 => exact ck_X11_emits
  | 156 => exact ck_X11_factor
  | 157 => exact ck_X11_every
  | 158 => exact ck_X11_some
  | 159 => exact ck_X11_much
  | 160 => exact ck_X11_tellsHere
  | 161 => exact ck_X11_wordOfS
  | 162 => exact ck_X11_clauseHere
  | 163 => exact ck_X11_cellar
  | 164 => exact ck_X11_tellsOf
  | 165 => exact ck_X11_looks
  | 166 => exact ck_X11_softOf
  | 167 => exact ck_X11_saysOf
  | 168 => exact ck_X11_bottle
  | 169 => exact ck_X11_guest
  | 170 => exact ck_X11_of
  | 171 => exact ck_X11_row
  | 172 => exact ck_X11_set
  | 173 => exact ck_X11_mood
  | 174 => exact ck_X11_fullOnes
  | 175 => exact ck_X11_allSay
  | 176 => exact ck_X11_allMoods
  | 177 => exact ck_X11_told
  | 178 => exact ck_X11_brings
  | 179 => exact ck_X11_pours
  | 180 => exact ck_X11_pour
  | 181 => exact ck_X11_both
  | 182 => exact ck_X11_goes
  | 183 => exact ck_X11_goesOn
  | 184 => exact ck_X11_pass
  | 185 => exact ck_X11_on
  | 186 => exact ck_X11_when
  | 187 => exact ck_X11_ripe
  | 188 => exact ck_X11_lies
  | 189 => exact ck_X11_looksForSayings
  | 190 => exact ck_X11_countOf
  | 191 => exact ck_X11_sumOf
  | 192 => exact ck_X11_choose
  | 193 => exact ck_X11_ordersFrom
  | 194 => exact ck_X11_line
  | 195 => exact ck_X11_pair
  | 196 => exact ck_X11_pairsFrom
  | 197 => exact ck_X11_match
  | 198 => exact ck_X11_words
  | 199 => exact ck_X11_see
  | 200 => exact ck_X11_isAsSeen
  | 201 => exact ck_X11_areAsSeen
  | 202 => exact ck_X11_old
  | 203 => exact ck_X11_firm
  | 204 => exact ck_X11_whose
  | 205 => exact ck_X11_lowest
  | 206 => exact ck_X11_odds
  | 207 => exact ck_X11_mean
  | 208 => exact ck_X11_evening
  | 209 => exact ck_X11_does
  | 210 => exact ck_X11_done
  | 211 => exact ck_X11_book
  | 212 => exact ck_X11_looked
  | 213 => exact ck_X11_ranBody
  | 214 => exact ck_X11_isUnder
  | 215 => exact ck_X11_plainUtters
  | 216 => exact ck_X11_uttersActs
  | 217 => exact ck_X11_plainKeeping
  | 218 => exact ck_X11_keepsActs
  | 219 => exact ck_X11_plainTelling
  | 220 => exact ck_X11_tellsActs
  | 221 => exact ck_X11_act
  | 222 => exact ck_X11_trace
  | 223 => exact ck_X11_as
  | 224 => exact ck_X11_image
  | 225 => exact ck_X11_undo
  | 226 => exact ck_X11_count
  | 227 => exact ck_J6_numberOfTrailingZeros_0f7a4
  | 228 => exact ck_J6_bitCount_0f7a4
  | 229 => exact ck_J9_abs_0f7a4
  | 230 => exact ck_J9_max_7cf53
  | 231 => exact ck_J9_min_7cf53
  | 232 => exact ck_J15_checkIndex_7cf53
  | 233 => exact ck_J3_checkIndex_8e157
  | 234 => exact ck_Jxc12de_init_da8c8
  | 235 => exact ck_Jxa1e45_init_da8c8
  | 236 => exact ck_L_law
  | k + 237 => rfl
end
section
/-! WHAT A STATE TELLS AT EVERY CALL goes on telling; runs only grow the heap -/
theorem xFw_ok : ∀ q ∈ xFw, q.1.cls ≠ "java/lang/invoke/MethodHandle" ∧ q.1.cls ≠ "java/lang/invoke/VarHandle" := by decide +kernel
theorem xN.warm {z : Nat} {ex : Int → Nat} {aV : Nat → Nat} {s U : State} (hW : s.WarmedH U.vm) (hH : ∀ a : Nat, a < s.heap.size → ¬ xA z a → U.heap[a]? = s.heap[a]?) (h : xN z ex aV s) : xN z ex aV U := by
  obtain ⟨h1, h2, h3, h4, h5, h6, h7, h8, h9, h10, h11⟩ := h
  have hA := hW.alike
  exact ⟨fun q hq => va_Nw.warmM hW (h1 q hq), fun q hq => va_Nw.warmC hW (h2 q hq), fun q hq => va_Fw.moved (xFw_ok q hq) hA (h3 q hq), fun q hq => va_Nw.warmD hW (h4 q hq), va_AO.moved hA h5,
    (va_Z.moved hA h6).kept hH, (va_T.moved hA h7).kept hH, fun q hq => vk_R.warm hW (h8 q hq), (vk_S.moved hA h9).kept hH, (va_Z.moved hA h10).kept hH, (va_Zq.moved hA h11).kept hH⟩
theorem mStep_mono {sc : Option (Nat × (Nat → Int))} {op nx pc' : Nat} {a b : Int} {l : List (Int × Int)} {lv st lv' st' : List AV} {h h' : Hp} (hs : mStep sc op a b l nx lv st h = some (pc', lv', st', h')) : mN h ≤ mN h' ∧ mS h ≤ mS h' := by
  unfold mStep at hs
  split at hs
  all_goals (repeat' (split at hs))
  all_goals first
    | (cases hs; done)
    | (simp only [Option.some.injEq, Prod.mk.injEq] at hs
       obtain ⟨-, -, -, rfl⟩ := hs
       first | exact ⟨Nat.le_refl _, Nat.le_refl _⟩ | exact ⟨Nat.le_succ _, Nat.le_add_right _ _⟩)
theorem mRun_mono {mt : MT} {vt : Nat → List (Nat × Nat)} {txt : Nat → List Nat} : ∀ (f d : Nat) (sc : Option (Nat × (Nat → Int))) (tb : List ME) (rk pc : Nat) (lv st : List AV) (h : Hp) (r : Option AV) (hE : Hp), mRun mt vt txt f d sc tb rk pc lv st h = some (r, hE) → mN h ≤ mN hE ∧ mS h ≤ mS hE := by
  intro f
  induction f with
  | zero => intro d sc tb rk pc lv st h r hE e; cases e
  | succ f ih =>
    intro d sc tb rk pc lv st h r hE e
    have e : mBody mt vt txt (mRun mt vt txt f) d sc tb rk pc lv st h = some (r, hE) := e
    unfold mBody at e
    cases hat : mAt tb pc with
    | none => rw [hat] at e; cases e
    | some en =>
      obtain ⟨nx, op, a, b, l⟩ := en
      rw [hat] at e
      simp only at e
      by_cases hop : op < 50
      · rw [if_pos hop] at e
        cases hs : mStep sc op a b l nx lv st h with
        | none => rw [hs] at e; cases e
        | some q =>
          obtain ⟨pc', lv', st', h'⟩ := q
          rw [hs] at e
          have h1 := mStep_mono hs
          have h2 := ih _ _ _ _ _ _ _ _ _ _ e
          exact ⟨Nat.le_trans h1.1 h2.1, Nat.le_trans h1.2 h2.2⟩
      · rw [if_neg hop] at e
        cases hr : mRet op rk st with
        | some q =>
          rw [hr] at e
          cases e
          exact ⟨Nat.le_refl _, Nat.le_refl _⟩
        | none =>
          rw [hr] at e
          cases d with
          | zero => cases e
          | succ d =>
            simp only at e
            cases ht : mTgt mt vt op a.toNat b.toNat st h with
            | some q =>
              obtain ⟨y, n⟩ := q
              rw [ht] at e
              simp only at e
              cases hc : mRun mt vt txt f d none (mt y).1 (mt y).2.2.2 0 (mEnt (mt y).2.1 (st.take n).reverse) [] h with
              | none => rw [hc] at e; cases e
              | some q =>
                obtain ⟨r1, h1⟩ := q
                rw [hc] at e
                have g1 := ih _ _ _ _ _ _ _ _ _ _ hc
                have g2 := ih _ _ _ _ _ _ _ _ _ _ e
                exact ⟨Nat.le_trans g1.1 g2.1, Nat.le_trans g1.2 g2.2⟩
            | none =>
              rw [ht] at e
              simp only at e
              cases hp : mPri txt op a.toNat b.toNat st h with
              | none => rw [hp] at e; cases e
              | some st' =>
                rw [hp] at e
                exact ih _ _ _ _ _ _ _ _ _ _ e
end
section
/-! CALLS, by kind -/
def xRun (len : Nat) (p : Program) (l : Launch) (e : Env) (R : Room) (s : State) (m : MethodId) (args : Array Value) (below : List Frame) (meth : Method) (c : Code) (H : Heap) (locs : List Loc) (cells slots mc ms : Nat) (g : JFrame) (rest : List Value) (Qa : State → Outcome → State → Prop) (free : Addr → Prop) : Prop :=
  ∀ T : State, T.heap = H → Stand p l e R s m args below meth c T locs cells slots → ∃ (v : Option Value) (st₀ t T' : State) (L : List Loc), st₀.heap = H ∧ Stand p l e R s m args below meth c T' (locs ++ L) (cells + mc) (slots + ms) ∧ (∀ q ∈ L, free q.base) ∧ T'.heap = t.heap ∧ T'.vm = t.vm ∧ Qa st₀ (.returned v) t ∧
    Goes p e below T g T' { g with pc := g.pc + len, stack := v.toList ++ rest }
def xQc (D : va_G) (z : Nat) (ex : Int → Nat) (cA : Nat → ClassId) (HB : Heap) (r : Option AV) (hE : Hp) : Array Value → State → Outcome → State → Prop := fun _ st oc t => oc = .returned (r.map (xV z ex)) ∧ xP D z ex cA HB hE t.heap ∧ va_F (xA z) st t
def xPc (D : va_G) (z : Nat) (ex : Int → Nat) (aV : Nat → Nat) (cA : Nat → ClassId) (HB : Heap) (as : List AV) (h : Hp) : Array Value → State → Prop := fun v U => v = (as.map (xV z ex)).toArray ∧ xP D z ex cA HB h U.heap ∧ va_K D vwCl (xTy cA) U ∧ xN z ex aV U
def xRm (d mc ms : Nat) : Room := { frames := d, cells := mc, slots := ms, locals := 40 * d }
def MeOk (id n : Nat) : Prop := Cond.code (xNm id) (xBc id) (mt id).2.1 (xRt id) ∈ BW ∧ Cond.initialized (xNm id).cls ∈ BW ∧ ((xNm id).cls ≠ "java/lang/invoke/MethodHandle" ∧ (xNm id).cls ≠ "java/lang/invoke/VarHandle") ∧ (parseMethodDescriptor (xNm id).desc).map (fun d => d.parameters.length) = some n ∧ plainName (xNm id).cls = true ∧ (mt id).2.1 ≤ 21 ∧ xCn (xOw id) = (xNm id).cls ∧ (xIni id = true → (xNm id).name = "<init>")
def OkS (own idx id : Nat) : Prop := ∃ n, MeOk id n ∧ (mt id).2.2.1 = n ∧ Cond.static (xNm id) ∈ BW ∧ (Cond.methodLink (xCn own) idx (xNm id) ∈ BW ∨ ∃ host, (xCn own, idx, xNm id, host) ∈ xNest)
def OkP (own idx ci id : Nat) : Prop := ∃ n, MeOk id n ∧ (mt id).2.2.1 = n + 1 ∧ Cond.instanceMethod (xNm id) ∈ BW ∧
  (((xNm id).name = "<init>" ∧ xRt id = none ∧ (Cond.methodLink (xCn own) idx (xNm id) ∈ BW ∨ ∃ host, (xCn own, idx, xNm id, host) ∈ xNest)) ∨
   ((xNm id).name ≠ "<init>" ∧ ci < 13 ∧ ∃ sup, Cond.superclass (xCn own) sup ∈ BW ∧ (sup = (xNm id).cls ∨ Cond.superclass sup (xNm id).cls ∈ BW) ∧ Cond.methodLink (xCn own) idx ⟨sup, (xNm id).name, (xNm id).desc⟩ ∈ BW ∧ Cond.sameMethod sup (xNm id).cls (xNm id).name (xNm id).desc ∈ BW))
def OkV (own idx ci id : Nat) : Prop := ∃ n x, MeOk id n ∧ (mt id).2.2.1 = n + 1 ∧ Cond.instanceMethod (xNm id) ∈ BW ∧ Cond.methodLink (xCn own) idx x ∈ BW ∧ Cond.selects (xCn ci) x (xNm id) ∈ BW ∧ ci < 13 ∧
  (x = xNm id ∨ ∃ owner b0 m0 r0, Cond.sameMethod x.cls owner x.name x.desc ∈ BW ∧ Cond.instanceMethod ⟨owner, x.name, x.desc⟩ ∈ BW ∧ Cond.code ⟨owner, x.name, x.desc⟩ b0 m0 r0 ∈ BW ∧ (owner ≠ "java/lang/invoke/MethodHandle" ∧ owner ≠ "java/lang/invoke/VarHandle") ∧ (parseMethodDescriptor x.desc).map (fun d => d.parameters.length) = some n)
def OkF (own idx ci id : Nat) : Prop := ∃ n x, MeOk id n ∧ (mt id).2.2.1 = n + 1 ∧ ci = 0 ∧ Cond.instanceMethod (xNm id) ∈ BW ∧ Cond.methodLink (xCn own) idx x ∈ BW ∧ Cond.selects "java/util/ArrayList" x (xNm id) ∈ BW ∧ (x, xNm id) ∈ xFw ∧ (parseMethodDescriptor x.desc).map (fun d => d.parameters.length) = some n
theorem xLenN {d : String} {n : Nat} (h : (parseMethodDescriptor d).map (fun d => d.parameters.length) = some n) (sig : MethodDescriptor) (hs : parseMethodDescriptor d = some sig) : n = sig.parameters.length := by
  rw [hs] at h
  exact (Option.some.inj h).symm
section XCALLS
variable {p : Program} {l : Launch} {e : Env} {R : Room} {s : State} {m : MethodId} {args : Array Value} {below : List Frame} {meth : Method} {c : Code} {H : Heap} {locs : List Loc} {cells slots : Nat} {Q : State → Prop}
variable {cc : ByteArray} {nL own : Nat} {ini : Bool} {D : va_G} {z : Nat} {ex : Int → Nat} {aV : Nat → Nat} {cA : Nat → ClassId} {sc : Option (Nat × (Nat → Int))} {HB : Heap}
variable {pc : Nat} {h : Hp} {ls : Array Slot}
theorem xUse {len mc ms : Nat} {r : Option AV} {hE : Hp} {rest st0 : List Value} {a : Array Value} (hr : xRun len p l e R s m args below meth c H locs cells slots mc ms (F0 m pc ls st0) rest (xQc D z ex cA HB r hE a) (xA z)) (hS : va_S (xA z) s.heap H locs)
    (kk : ∀ H1 locs1, xP D z ex cA HB hE H1 → va_S (xA z) s.heap H1 locs1 → W p l e R s m args below meth c H1 locs1 (cells + mc) (slots + ms) Q (F0 m (pc + len) ls ((r.map (xV z ex)).toList ++ rest))) : W p l e R s m args below meth c H locs cells slots Q (F0 m pc ls st0) := by
  intro T hT X
  obtain ⟨v, st₀, t, T', L, h0, X', hL, e1, e2, ⟨hv, hp, hz, hk⟩, st⟩ := hr T hT X
  cases hv
  subst h0
  have hS' : va_S (xA z) s.heap t.heap (locs ++ L) := ⟨Nat.le_trans hS.1 hz, fun q h1 h2 => (hk q (Nat.lt_of_lt_of_le h1 hS.1) h2).trans (hS.2.1 q h1 h2), fun q hq => (List.mem_append.mp hq).elim (hS.2.2 q) (hL q)⟩
  obtain ⟨t2, a1, b1⟩ := kk t.heap (locs ++ L) hp hS' T' e1 X'
  exact ⟨t2, st t2 a1, b1⟩
theorem xBlind {as : List AV} : FrameBlind (xPc D z ex aV cA HB as h) := by
  intro a U g mk q
  obtain ⟨q1, q2, q3, q4⟩ := q
  exact ⟨q1, q2, va_K.moved (u := U) (U := U.calling g mk a) (Vm.Alike.refl U.vm) q3, xN.warm (s := U) (U := U.calling g mk a) (State.WarmedH.refl U) (fun _ _ _ => rfl) q4⟩
theorem xPre {as : List AV} (C : xCtx p m c s args meth cc nL own ini D z ex aV cA sc) (hP : xP D z ex cA HB h H) (hS : va_S (xA z) s.heap H locs) : PreS s H (xPc D z ex aV cA HB as h) (as.map (xV z ex)) := by
  obtain ⟨-, -, hK, hN, -⟩ := C
  exact ⟨xBlind, fun U hU hW => ⟨rfl, by rw [hU]; exact hP, va_K.moved hW.alike hK, xN.warm hW (fun a h1 h2 => by rw [hU]; exact hS.2.1 a h1 h2) hN⟩⟩
theorem xGood {id n : Nat} (me : MeOk id n) : GoodIn BW (xWs id) := by
  intro w hw
  rcases List.mem_cons.mp hw with rfl | hw
  · exact ⟨me.1, BW_good me.1⟩
  · exact ⟨hw, BW_good hw⟩
theorem xCB {idx id n d mc ms : Nat} (hts : ∀ w ∈ BW, w.before args s = true) (me : MeOk id n) (hl : Cond.methodLink (xCn own) idx (xNm id) ∈ BW) (h1 : d + 1 ≤ R.frames) (h2 : 40 * (d + 1) ≤ R.locals) : CallB R s args (xCn own) idx (xNm id) (xBc id) (mt id).2.1 (xRt id) (xWs id) (xRm d mc ms) mc ms n := by
  have g := me
  obtain ⟨m1, m2, m3, m4, m5, m6, -⟩ := me
  exact ⟨rfl, rfl, h1, by show 8 + ((mt id).2.1 + 11) + 40 * d ≤ R.locals; omega, pay_in hts (xGood g), List.mem_cons_self, hts _ m1, hts _ m2, m3, xLenN m4, hts _ hl⟩
theorem xCat {st : List AV} (h : mCats st ≤ 8) {g : JFrame} (hg : g.monitorRoom = 0) : 2 * g.monitorRoom + ((st.map (xV z ex)).map fun v => v.category).sum ≤ 8 := by
  rw [hg, xV_cats]
  unfold mCats at h
  omega
theorem xRunS {idx id d mc ms : Nat} {as rest : List AV} (C : xCtx p m c s args meth cc nL own ini D z ex aV cA sc) (hdec : decode cc pc = .ok (.invokestatic idx, 3)) (ok : OkS own idx id) (hlen : as.length = (mt id).2.2.1) {Qc : Array Value → State → Outcome → State → Prop}
    (hM : Met l (xNm id) (xWs id) (xRm d mc ms) (xPc D z ex aV cA HB as h) Qc mc ms (xA z)) (hP : xP D z ex cA HB h H) (hS : va_S (xA z) s.heap H locs) (hsize : ls.size = nL) (hc : mCats rest ≤ 8) (h1 : d + 1 ≤ R.frames) (h2 : 40 * (d + 1) ≤ R.locals) (hr1 : cells + mc ≤ R.cells) (hr2 : slots + ms ≤ R.slots) :
    xRun 3 p l e R s m args below meth c H locs cells slots mc ms (F0 m pc ls ((as.map (xV z ex)).reverse ++ rest.map (xV z ex))) (rest.map (xV z ex)) (Qc (as.map (xV z ex)).toArray) (xA z) := by
  have C' := C
  obtain ⟨⟨hx, hb, hml, hown, hts⟩, -, hK, hN, -⟩ := C'
  obtain ⟨n, me, hn, hst, hl⟩ := ok
  have g := me
  obtain ⟨m1, m2, m3, m4, m5, m6, -⟩ := g
  have hp := xPre (as := as) C hP hS
  rcases hl with hl | ⟨host, hl⟩
  · exact va_runS ⟨hx, hb, hml, hown, hts⟩ hM ⟨xCB hts me hl h1 h2, hts _ hst⟩ hp rfl (by rw [List.length_map, hlen, hn]) hsize rfl (xCat hc rfl) hdec ⟨hr1, hr2⟩
  · exact va_runSN ⟨hx, hb, hml, hown, hts⟩ hM ⟨⟨⟨rfl, rfl, h1, by show 8 + ((mt id).2.1 + 11) + 40 * d ≤ R.locals; omega, pay_in hts (xGood me), List.mem_cons_self⟩, hts _ m1, hts _ m2, m3, xLenN m4, va_Nw.use rfl (hN.1 _ hl)⟩, hts _ hst, trivial⟩ hp rfl (by rw [List.length_map, hlen, hn]) hsize rfl (xCat hc rfl) hdec ⟨hr1, hr2⟩
/-- super.m(..), where m may be inherited by the superclass itself -/
theorem xCallSU {T : State} (X : Stand p l e R s m args below meth c T locs cells slots) (hexec : p.tables.exec = Jvm.exec) {owN sup : String} {index : Nat} {y : MethodName} {bytes : ByteArray} {maxL : Nat} {ret : Option FieldType}
    (hown : s.vm.findClass owN = some m.cls) (hlink : (Cond.methodLink owN index ⟨sup, y.name, y.desc⟩).before args s = true) (hsame : (Cond.sameMethod sup y.cls y.name y.desc).before args s = true) (hsup : (Cond.superclass owN sup).before args s = true) (hup : sup = y.cls ∨ (Cond.superclass sup y.cls).before args s = true)
    (hinst : (Cond.instanceMethod y).before args s = true) (hcode : (Cond.code y bytes maxL ret).before args s = true) (hno : y.name ≠ "<init>")
    {Wd : Nat} {Pre : Pt → Array Value → Prop} {Post : Pt → Array Value → Option Value → Pt → Prop} (hK : Back l R p e below s args y 3 Wd Pre Post)
    {b : Addr} {cellB : Cell} {kB : Class} (hcell : T.heap[b]? = some cellB) (hobj : cellB.vm.isStatics = false) (hkB : s.vm.classes[cellB.cls]? = some kB)
    {g : JFrame} (hg : g.method = m) (hsize : g.locals.size = c.maxLocals) {argsL rest : List Value} (hlen : ∀ sig, parseMethodDescriptor y.desc = some sig → argsL.length = sig.parameters.length)
    (hstack : g.stack = argsL.reverse ++ .ref b :: rest) (hW : 2 * g.monitorRoom + (rest.map fun v => v.category).sum ≤ Wd) (hdg : decode c.code g.pc = .ok (.invokespecial index, 3))
    (hpre : ∀ vm₁, s.WarmedH vm₁ → Pre ⟨T.setVm vm₁, locs, cells, slots⟩ (Value.ref b :: argsL).toArray) :
    ∃ (v : Option Value) (vm₁ : Vm) (B : Pt), s.WarmedH vm₁ ∧ Stand p l e R s m args below meth c B.U B.locs B.cells B.slots ∧ Post ⟨T.setVm vm₁, locs, cells, slots⟩ (Value.ref b :: argsL).toArray v B ∧
      ∀ target, Steps p.tables e below (B.U.setTop { g with pc := g.pc + 3, stack := v.toList ++ rest }) target → Steps p.tables e below (T.setTop g) target := by
  obtain ⟨mk, methM, hnamed, hmethM, hstM, habM⟩ := Cond.instanceMethod_spec hinst
  obtain ⟨methM', cM, hmethM', -, -, -, -, -, -, hsigM⟩ := Cond.code_spec hnamed hcode
  cases hmethM.symm.trans hmethM'
  obtain ⟨ps, dk, kp, hps, hdk, hkp, hsuper, -, -, hnid⟩ := Cond.superclass_spec hown hsup
  have hn : s.methodNamed? ⟨y.cls, y.name, y.desc⟩ = some mk := hnamed
  have hcm := findClass_of_methodNamed hnamed
  have hsub : s.vm.isSubclass ps mk.cls = true := by
    rcases hup with rfl | hup
    · have hpm : ps = mk.cls := Option.some.inj (hps.symm.trans hcm)
      rw [hpm]; simp [Vm.isSubclass, Vm.isSubclassAux]
    · obtain ⟨pu, ku, kpu, hpu, hku, -, hsu, -⟩ := Cond.superclass_spec hps hup
      have hpm : pu = mk.cls := Option.some.inj (hpu.symm.trans hcm)
      subst hpm
      have hsz : 0 < s.vm.classes.size := Nat.lt_of_le_of_lt (Nat.zero_le _) (Array.getElem?_eq_some_iff.mp hku).1
      obtain ⟨k, hk⟩ : ∃ k, s.vm.classes.size = k + 1 := ⟨s.vm.classes.size - 1, by omega⟩
      simp [Vm.isSubclass, Vm.isSubclassAux, hk, hku, hsu]
  obtain ⟨vm₁, X₁, hstep₁⟩ := X.invokespecialUp hexec (x := ⟨sup, y.name, y.desc⟩) hown hlink hsame hn hmethM hstM habM hno hdk hnid hps hsuper hsub (a := b) (cell := cellB) hcell
    (fun z h => by rw [h] at hobj; cases hobj) hkB (g := g) hg (argsL := argsL) (rest := rest) (hlen _ hsigM) hstack hdg
  obtain ⟨v, B, X', hpost, hsteps⟩ := hK m meth c ⟨T.setVm vm₁, locs, cells, slots⟩ { g with stack := rest } (.invokespecial index) mk (Value.ref b :: argsL).toArray X₁ hg hsize hdg hW (X₁.named hnamed) (hpre vm₁ X₁.warmed)
  exact ⟨v, vm₁, B, X₁.warmed, X', hpost, fun target h => hstep₁ _ (by rw [doInvoke_state]; exact hsteps.trans h)⟩
theorem xName {ci : Nat} (h : ci < 13) : ∃ T N, vwCl[ci]? = some (xCn ci, T, N) := by
  match ci, h with
  | 0, _ => exact ⟨_, _, rfl⟩
  | 1, _ => exact ⟨_, _, rfl⟩
  | 2, _ => exact ⟨_, _, rfl⟩
  | 3, _ => exact ⟨_, _, rfl⟩
  | 4, _ => exact ⟨_, _, rfl⟩
  | 5, _ => exact ⟨_, _, rfl⟩
  | 6, _ => exact ⟨_, _, rfl⟩
  | 7, _ => exact ⟨_, _, rfl⟩
  | 8, _ => exact ⟨_, _, rfl⟩
  | 9, _ => exact ⟨_, _, rfl⟩
  | 10, _ => exact ⟨_, _, rfl⟩
  | 11, _ => exact ⟨_, _, rfl⟩
  | 12, _ => exact ⟨_, _, rfl⟩
  | k + 13, h => exact absurd h (by omega)
theorem xRecv {q ci : Nat} (C : xCtx p m c s args meth cc nL own ini D z ex aV cA sc) (hP : xP D z ex cA HB h H) (hq : q < mN h) (hci : mK h q = ci) (h13 : ci < 13) : ClassAt s (xCn ci) (D.1 ci) ∧ ∃ cell : Cell, H[z + q]? = some cell ∧ cell.vm.isStatics = false ∧ s.vm.findClass (xCn ci) = some cell.cls := by
  obtain ⟨-, -, hK, -⟩ := C
  obtain ⟨T, N, e1⟩ := xName h13
  have hat := hP.1 q hq
  subst hci
  rw [xC_obj h13] at hat
  exact ⟨(hK.1 _ _ e1).2, va_recv (q0 := 0) hK (va_P1 hat) e1 rfl⟩
theorem xRunP {idx id ci q d mc ms : Nat} {as rest : List AV} (C : xCtx p m c s args meth cc nL own ini D z ex aV cA sc) (hdec : decode cc pc = .ok (.invokespecial idx, 3)) (ok : OkP own idx ci id) (hlen : as.length + 1 = (mt id).2.2.1) {Qc : Array Value → State → Outcome → State → Prop} {v0 : AV} (hv0 : xV z ex v0 = .ref (z + q)) (hq : q < mN h) (hci : mK h q = ci)
    (hM : Met l (xNm id) (xWs id) (xRm d mc ms) (xPc D z ex aV cA HB (v0 :: as) h) Qc mc ms (xA z)) (hP : xP D z ex cA HB h H) (hS : va_S (xA z) s.heap H locs) (hsize : ls.size = nL) (hc : mCats rest ≤ 8) (h1 : d + 1 ≤ R.frames) (h2 : 40 * (d + 1) ≤ R.locals) (hr1 : cells + mc ≤ R.cells) (hr2 : slots + ms ≤ R.slots) :
    xRun 3 p l e R s m args below meth c H locs cells slots mc ms (F0 m pc ls ((as.map (xV z ex)).reverse ++ .ref (z + q) :: rest.map (xV z ex))) (rest.map (xV z ex)) (Qc (Value.ref (z + q) :: as.map (xV z ex)).toArray) (xA z) := by
  have C' := C
  obtain ⟨⟨hx, hb, hml, hown, hts⟩, -, hK, hN, -⟩ := C'
  obtain ⟨n, me, hn, hinst, hl⟩ := ok
  have g := me
  obtain ⟨m1, m2, m3, m4, m5, m6, -⟩ := g
  have hp := xPre (as := v0 :: as) C hP hS
  rw [List.map_cons, hv0] at hp
  have hlen' : (as.map (xV z ex)).length = n := by rw [List.length_map]; omega
  rcases hl with ⟨hi, hrt, hl⟩ | ⟨hi, h13, sup, s1, s2, s3, s4⟩
  · rcases hl with hl | ⟨host, hl⟩
    · have hcb := xCB (R := R) (s := s) (args := args) (own := own) (mc := mc) (ms := ms) hts me hl h1 h2
      rw [hrt] at hcb
      exact va_runI ⟨hx, hb, hml, hown, hts⟩ hM ⟨hcb, hi, hts _ hinst⟩ hp rfl hlen' hsize rfl (xCat hc rfl) hdec ⟨hr1, hr2⟩
    · have hcb : va_CN R s args (xCn own) idx (xNm id) host (xBc id) (mt id).2.1 (xRt id) (xWs id) (xRm d mc ms) mc ms n := ⟨⟨rfl, rfl, h1, by show 8 + ((mt id).2.1 + 11) + 40 * d ≤ R.locals; omega, pay_in hts (xGood me), List.mem_cons_self⟩, hts _ m1, hts _ m2, m3, xLenN m4, va_Nw.use rfl (hN.1 _ hl)⟩
      rw [hrt] at hcb
      exact va_runIN ⟨hx, hb, hml, hown, hts⟩ hM ⟨hcb, hi, hts _ hinst⟩ hp rfl hlen' hsize rfl (xCat hc rfl) hdec ⟨hr1, hr2⟩
  · obtain ⟨hat, cellB, hcB, hoB, hclB⟩ := xRecv C hP hq hci h13
    have hKb : Back l R p e below s args (xNm id) 3 8 (PreOf R mc ms (xPc D z ex aV cA HB (v0 :: as) h)) (PostOf Qc mc ms (xA z)) := back_of (bytes := xBc id) (maxL := (mt id).2.1) (ret := xRt id) hM xBlind rfl rfl h1 (by show 8 + ((mt id).2.1 + 11) + 40 * d ≤ R.locals; omega) (pay_in hts (xGood me)) List.mem_cons_self (fun a' U hW => word_at hW (Or.inl (by first | rfl | simp [Cond.onTables, Cond.keeps, Cond.steady])) (hts _ m2))
    obtain ⟨hfc, kB, hkB, -⟩ := hat
    cases hfc.symm.trans hclB
    intro T hT X
    obtain ⟨v, vm₁, ⟨U', l2, c2, s2'⟩, hW₁, X', ⟨g', mk, t, L, e1, e2, hq', k1, hL, k2, k3⟩, st⟩ := xCallSU X hx (bytes := xBc id) (maxL := (mt id).2.1) (ret := xRt id) hown (hts _ s3) (hts _ s4) (hts _ s1) (s2.imp (fun h => h) (hts _)) (hts _ hinst) (hts _ m1) hi hKb (by rw [hT]; exact hcB) hoB hkB (g := F0 m pc ls ((as.map (xV z ex)).reverse ++ .ref (z + q) :: rest.map (xV z ex))) rfl (hsize.trans hml.symm) (argsL := as.map (xV z ex)) (rest := rest.map (xV z ex)) (fun sig h => hlen'.trans (xLenN m4 sig h)) rfl (xCat hc rfl) (by rw [hb]; exact hdec)
      (fun vm₁ hW₁ => ⟨hr1, hr2, hp.2 (T.setVm vm₁) hT hW₁⟩)
    dsimp only [Pt.U, Pt.locs, Pt.cells, Pt.slots] at X' e1 e2 k1 k2 k3 st
    subst k1; subst k2; subst k3
    exact ⟨v, (T.setVm vm₁).calling g' mk (Value.ref (z + q) :: as.map (xV z ex)).toArray, t, U', L, hT, X', hL, e1, e2, hq', st⟩
theorem xRunV {idx id ci q d mc ms : Nat} {as rest : List AV} (C : xCtx p m c s args meth cc nL own ini D z ex aV cA sc) (hdec : decode cc pc = .ok (.invokevirtual idx, 3)) (ok : OkV own idx ci id) (hlen : as.length + 1 = (mt id).2.2.1) {Qc : Array Value → State → Outcome → State → Prop} {v0 : AV} (hv0 : xV z ex v0 = .ref (z + q)) (hq : q < mN h) (hci : mK h q = ci)
    (hM : Met l (xNm id) (xWs id) (xRm d mc ms) (xPc D z ex aV cA HB (v0 :: as) h) Qc mc ms (xA z)) (hP : xP D z ex cA HB h H) (hS : va_S (xA z) s.heap H locs) (hsize : ls.size = nL) (hc : mCats rest ≤ 8) (h1 : d + 1 ≤ R.frames) (h2 : 40 * (d + 1) ≤ R.locals) (hr1 : cells + mc ≤ R.cells) (hr2 : slots + ms ≤ R.slots) :
    xRun 3 p l e R s m args below meth c H locs cells slots mc ms (F0 m pc ls ((as.map (xV z ex)).reverse ++ .ref (z + q) :: rest.map (xV z ex))) (rest.map (xV z ex)) (Qc (Value.ref (z + q) :: as.map (xV z ex)).toArray) (xA z) := by
  have C' := C
  obtain ⟨⟨hx, hb, hml, hown, hts⟩, -, hK, hN, -⟩ := C'
  obtain ⟨n, x, me, hn, hinst, hl, hsel, h13, hx2⟩ := ok
  have g := me
  obtain ⟨m1, m2, m3, m4, m5, m6, -⟩ := g
  have hp := xPre (as := v0 :: as) C hP hS
  rw [List.map_cons, hv0] at hp
  have hlen' : (as.map (xV z ex)).length = n := by rw [List.length_map]; omega
  have hrec := (xRecv C hP hq hci h13).2
  rcases hx2 with rfl | ⟨owner, b0, m0, r0, o1, o2, o3, o4, o5⟩
  · exact va_runV (C := xCn ci) ⟨hx, hb, hml, hown, hts⟩ hM ⟨xCB hts me hl h1 h2, hts _ hinst, hts _ hsel⟩ ⟨hp.1, hrec, hp.2⟩ rfl hlen' hsize rfl (xCat hc rfl) hdec ⟨hr1, hr2⟩
  · have cw : va_CU R s args (xCn own) (xCn ci) owner idx x (xNm id) (xBc id) (mt id).2.1 (xRt id) (xWs id) (xRm d mc ms) mc ms n :=
      ⟨⟨rfl, rfl, h1, by show 8 + ((mt id).2.1 + 11) + 40 * d ≤ R.locals; omega, pay_in hts (xGood me), List.mem_cons_self⟩, hts _ m1, hts _ m2, o4, xLenN o5, hts _ hl, hts _ o1, va_Decl.of (hts _ o2) (hts _ o3), hts _ hsel, hts _ hinst⟩
    exact va_runU ⟨hx, hb, hml, hown, hts⟩ hM cw ⟨hp.1, hrec, hp.2⟩ rfl hlen' hsize rfl (xCat hc rfl) hdec ⟨hr1, hr2⟩
theorem xRunF {idx id ci q d mc ms count : Nat} {as rest : List AV} (C : xCtx p m c s args meth cc nL own ini D z ex aV cA sc) (hdec : decode cc pc = .ok (.invokeinterface idx count, 5)) (ok : OkF own idx ci id) (hlen : as.length + 1 = (mt id).2.2.1) {Qc : Array Value → State → Outcome → State → Prop} {v0 : AV} (hv0 : xV z ex v0 = .ref (z + q)) (hq : q < mN h) (hci : mK h q = ci)
    (hM : Met l (xNm id) (xWs id) (xRm d mc ms) (xPc D z ex aV cA HB (v0 :: as) h) Qc mc ms (xA z)) (hP : xP D z ex cA HB h H) (hS : va_S (xA z) s.heap H locs) (hsize : ls.size = nL) (hc : mCats rest ≤ 8) (h1 : d + 1 ≤ R.frames) (h2 : 40 * (d + 1) ≤ R.locals) (hr1 : cells + mc ≤ R.cells) (hr2 : slots + ms ≤ R.slots) :
    xRun 5 p l e R s m args below meth c H locs cells slots mc ms (F0 m pc ls ((as.map (xV z ex)).reverse ++ .ref (z + q) :: rest.map (xV z ex))) (rest.map (xV z ex)) (Qc (Value.ref (z + q) :: as.map (xV z ex)).toArray) (xA z) := by
  have C' := C
  obtain ⟨⟨hx, hb, hml, hown, hts⟩, -, hK, hN, -⟩ := C'
  obtain ⟨n, x, me, hn, rfl, hinst, hl, hsel, hF, hpx⟩ := ok
  have g := me
  obtain ⟨m1, m2, m3, m4, m5, m6, -⟩ := g
  have hp := xPre (as := v0 :: as) C hP hS
  rw [List.map_cons, hv0] at hp
  have hlen' : (as.map (xV z ex)).length = n := by rw [List.length_map]; omega
  obtain ⟨hat, hrec⟩ := xRecv C hP hq hci (by decide)
  obtain ⟨f1, f2, f3, f4, f5⟩ := hN.2.2.1 _ hF
  have use : ∀ {w : Cond}, w.onTables = true → w.before #[] s = true → w.before args s = true := fun hw h => va_Nw.use hw h
  have cw : va_CI R s args (xCn own) "java/util/ArrayList" idx x (xNm id) (xBc id) (mt id).2.1 (xRt id) (xWs id) (xRm d mc ms) mc ms n :=
    ⟨⟨rfl, rfl, h1, by show 8 + ((mt id).2.1 + 11) + 40 * d ≤ R.locals; omega, pay_in hts (xGood me), List.mem_cons_self⟩, hts _ hl, use rfl f1, use rfl f2, hts _ hsel, hts _ hinst, use rfl f3, use rfl f4, use rfl f5, hts _ m2, hts _ m1, xFw_ok _ hF, xLenN hpx⟩
  exact va_runF (C := "java/util/ArrayList") hat ⟨hx, hb, hml, hown, hts⟩ hM cw ⟨hp.1, hrec, hp.2⟩ rfl hlen' hsize rfl (xCat hc rfl) hdec ⟨hr1, hr2⟩
end XCALLS
end
