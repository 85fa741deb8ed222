/-! WHAT IS KNOWN of each method and of each call: printed by wip/whole/gen/gen_env.py -/
theorem sp_72 : Cond.selects "LaidQuarrelModel" ⟨"LaidQuarrelModel", "tellsActs", "(I)I"⟩ ⟨"LaidQuarrelModel", "tellsActs", "(I)I"⟩ ∈ lw_tbl := List.mem_append_left _ (List.mem_of_getElem? (i := 72) rfl)
theorem sp_73 : Cond.selects "LaidQuarrelModel" ⟨"LaidQuarrelModel", "plainTelling", "(I)I"⟩ ⟨"LaidQuarrelModel", "plainTelling", "(I)I"⟩ ∈ lw_tbl := List.mem_append_left _ (List.mem_of_getElem? (i := 73) rfl)
theorem sp_70 : Cond.selects "LaidQuarrelModel" ⟨"LaidQuarrelModel", "keepsActs", "(I)I"⟩ ⟨"LaidQuarrelModel", "keepsActs", "(I)I"⟩ ∈ lw_tbl := List.mem_append_left _ (List.mem_of_getElem? (i := 70) rfl)
theorem sp_71 : Cond.selects "LaidQuarrelModel" ⟨"LaidQuarrelModel", "plainKeeping", "(I)I"⟩ ⟨"LaidQuarrelModel", "plainKeeping", "(I)I"⟩ ∈ lw_tbl := List.mem_append_left _ (List.mem_of_getElem? (i := 71) rfl)
theorem sp_67 : Cond.selects "LaidQuarrelModel" ⟨"LaidQuarrelModel", "uttersActs", "(I)I"⟩ ⟨"LaidQuarrelModel", "uttersActs", "(I)I"⟩ ∈ lw_tbl := List.mem_append_left _ (List.mem_of_getElem? (i := 67) rfl)
theorem sp_69 : Cond.selects "LaidQuarrelModel" ⟨"LaidQuarrelModel", "plainUtters", "(I)I"⟩ ⟨"LaidQuarrelModel", "plainUtters", "(I)I"⟩ ∈ lw_tbl := List.mem_append_left _ (List.mem_of_getElem? (i := 69) rfl)
theorem sp_68 : Cond.selects "LaidQuarrelModel" ⟨"LaidQuarrelModel", "ranBody", "(I)V"⟩ ⟨"LaidQuarrelModel", "ranBody", "(I)V"⟩ ∈ lw_tbl := List.mem_append_left _ (List.mem_of_getElem? (i := 68) rfl)
theorem sp_66 : Cond.selects "LaidQuarrelModel" ⟨"LaidQuarrelModel", "does", "(III)V"⟩ ⟨"LaidQuarrelModel", "does", "(III)V"⟩ ∈ lw_tbl := List.mem_append_left _ (List.mem_of_getElem? (i := 66) rfl)
theorem sp_64 : Cond.selects "LaidQuarrelModel" ⟨"LaidQuarrelModel", "areAsSeen", "()Z"⟩ ⟨"LaidQuarrelModel", "areAsSeen", "()Z"⟩ ∈ lw_tbl := List.mem_append_left _ (List.mem_of_getElem? (i := 64) rfl)
theorem sp_65 : Cond.selects "LaidQuarrelModel" ⟨"LaidQuarrelModel", "isAsSeen", "(I)Z"⟩ ⟨"LaidQuarrelModel", "isAsSeen", "(I)Z"⟩ ∈ lw_tbl := List.mem_append_left _ (List.mem_of_getElem? (i := 65) rfl)
theorem sp_63 : Cond.selects "LaidQuarrelModel" ⟨"LaidQuarrelModel", "pairsFrom", "(II)V"⟩ ⟨"LaidQuarrelModel", "pairsFrom", "(II)V"⟩ ∈ lw_tbl := List.mem_append_left _ (List.mem_of_getElem? (i := 63) rfl)
theorem sp_62 : Cond.selects "LaidQuarrelModel" ⟨"LaidQuarrelModel", "ordersFrom", "(III)V"⟩ ⟨"LaidQuarrelModel", "ordersFrom", "(III)V"⟩ ∈ lw_tbl := List.mem_append_left _ (List.mem_of_getElem? (i := 62) rfl)
theorem sp_61 : Cond.selects "LaidQuarrelModel" ⟨"LaidQuarrelModel", "sumOf", "(I)I"⟩ ⟨"LaidQuarrelModel", "sumOf", "(I)I"⟩ ∈ lw_tbl := List.mem_append_left _ (List.mem_of_getElem? (i := 61) rfl)
theorem sp_60 : Cond.selects "LaidQuarrelModel" ⟨"LaidQuarrelModel", "looksForSayings", "()V"⟩ ⟨"LaidQuarrelModel", "looksForSayings", "()V"⟩ ∈ lw_tbl := List.mem_append_left _ (List.mem_of_getElem? (i := 60) rfl)
theorem sp_59 : Cond.selects "LaidQuarrelModel" ⟨"LaidQuarrelModel", "goesBack", "()V"⟩ ⟨"LaidQuarrelModel", "goesBack", "()V"⟩ ∈ lw_tbl := List.mem_append_left _ (List.mem_of_getElem? (i := 59) rfl)
theorem sp_58 : Cond.selects "LaidQuarrelModel" ⟨"LaidQuarrelModel", "keeps", "()V"⟩ ⟨"LaidQuarrelModel", "keeps", "()V"⟩ ∈ lw_tbl := List.mem_append_left _ (List.mem_of_getElem? (i := 58) rfl)
theorem sp_56 : Cond.selects "LaidQuarrelModel" ⟨"LaidQuarrelModel", "goesOn", "(I)V"⟩ ⟨"LaidQuarrelModel", "goesOn", "(I)V"⟩ ∈ lw_tbl := List.mem_append_left _ (List.mem_of_getElem? (i := 56) rfl)
theorem sp_57 : Cond.selects "LaidQuarrelModel" ⟨"LaidQuarrelModel", "goes", "()V"⟩ ⟨"LaidQuarrelModel", "goes", "()V"⟩ ∈ lw_tbl := List.mem_append_left _ (List.mem_of_getElem? (i := 57) rfl)
theorem sp_54 : Cond.selects "LaidQuarrelModel" ⟨"LaidQuarrelModel", "pours", "(II)V"⟩ ⟨"LaidQuarrelModel", "pours", "(II)V"⟩ ∈ lw_tbl := List.mem_append_left _ (List.mem_of_getElem? (i := 54) rfl)
theorem sp_55 : Cond.selects "LaidQuarrelModel" ⟨"LaidQuarrelModel", "brings", "(II)V"⟩ ⟨"LaidQuarrelModel", "brings", "(II)V"⟩ ∈ lw_tbl := List.mem_append_left _ (List.mem_of_getElem? (i := 55) rfl)
theorem sp_53 : Cond.selects "LaidQuarrelModel" ⟨"LaidQuarrelModel", "allMoods", "()I"⟩ ⟨"LaidQuarrelModel", "allMoods", "()I"⟩ ∈ lw_tbl := List.mem_append_left _ (List.mem_of_getElem? (i := 53) rfl)
theorem sp_52 : Cond.selects "LaidQuarrelModel" ⟨"LaidQuarrelModel", "allSay", "()I"⟩ ⟨"LaidQuarrelModel", "allSay", "()I"⟩ ∈ lw_tbl := List.mem_append_left _ (List.mem_of_getElem? (i := 52) rfl)
theorem sp_51 : Cond.selects "LaidQuarrelModel" ⟨"LaidQuarrelModel", "fullOnes", "()I"⟩ ⟨"LaidQuarrelModel", "fullOnes", "()I"⟩ ∈ lw_tbl := List.mem_append_left _ (List.mem_of_getElem? (i := 51) rfl)
theorem sp_50 : Cond.selects "LaidQuarrelModel" ⟨"LaidQuarrelModel", "isGuest", "(I)Z"⟩ ⟨"LaidQuarrelModel", "isGuest", "(I)Z"⟩ ∈ lw_tbl := List.mem_append_left _ (List.mem_of_getElem? (i := 50) rfl)
theorem sp_49 : Cond.selects "LaidQuarrelModel" ⟨"LaidQuarrelModel", "saysOf", "(I)I"⟩ ⟨"LaidQuarrelModel", "saysOf", "(I)I"⟩ ∈ lw_tbl := List.mem_append_left _ (List.mem_of_getElem? (i := 49) rfl)
theorem sp_45 : Cond.selects "LaidQuarrelModel" ⟨"LaidQuarrelModel", "isBottle", "(I)Z"⟩ ⟨"LaidQuarrelModel", "isBottle", "(I)Z"⟩ ∈ lw_tbl := List.mem_append_left _ (List.mem_of_getElem? (i := 45) rfl)
theorem sp_46 : Cond.selects "LaidQuarrelModel" ⟨"LaidQuarrelModel", "softOf", "(I)I"⟩ ⟨"LaidQuarrelModel", "softOf", "(I)I"⟩ ∈ lw_tbl := List.mem_append_left _ (List.mem_of_getElem? (i := 46) rfl)
theorem sp_47 : Cond.selects "LaidQuarrelModel" ⟨"LaidQuarrelModel", "looks", "(I)I"⟩ ⟨"LaidQuarrelModel", "looks", "(I)I"⟩ ∈ lw_tbl := List.mem_append_left _ (List.mem_of_getElem? (i := 47) rfl)
theorem sp_48 : Cond.selects "LaidQuarrelModel" ⟨"LaidQuarrelModel", "tellsOf", "(II)I"⟩ ⟨"LaidQuarrelModel", "tellsOf", "(II)I"⟩ ∈ lw_tbl := List.mem_append_left _ (List.mem_of_getElem? (i := 48) rfl)
theorem sp_32 : Cond.selects "LaidQuarrelModel" ⟨"LaidQuarrelModel", "clauseHere", "()V"⟩ ⟨"LaidQuarrelModel", "clauseHere", "()V"⟩ ∈ lw_tbl := List.mem_append_left _ (List.mem_of_getElem? (i := 32) rfl)
theorem sp_38 : Cond.selects "LaidQuarrelModel" ⟨"LaidQuarrelModel", "wordOfS", "()V"⟩ ⟨"LaidQuarrelModel", "wordOfS", "()V"⟩ ∈ lw_tbl := List.mem_append_left _ (List.mem_of_getElem? (i := 38) rfl)
theorem sp_34 : Cond.selects "LaidQuarrelModel" ⟨"LaidQuarrelModel", "tellsHere", "(ILjava/lang/String;)V"⟩ ⟨"LaidQuarrelModel", "tellsHere", "(ILjava/lang/String;)V"⟩ ∈ lw_tbl := List.mem_append_left _ (List.mem_of_getElem? (i := 34) rfl)
theorem sp_39 : Cond.selects "LaidQuarrelModel" ⟨"LaidQuarrelModel", "much", "(ILjava/lang/String;)V"⟩ ⟨"LaidQuarrelModel", "much", "(ILjava/lang/String;)V"⟩ ∈ lw_tbl := List.mem_append_left _ (List.mem_of_getElem? (i := 39) rfl)
theorem sp_35 : Cond.selects "LaidQuarrelModel" ⟨"LaidQuarrelModel", "spells", "(Ljava/lang/String;)V"⟩ ⟨"LaidQuarrelModel", "spells", "(Ljava/lang/String;)V"⟩ ∈ lw_tbl := List.mem_append_left _ (List.mem_of_getElem? (i := 35) rfl)
theorem sp_41 : Cond.selects "LaidQuarrelModel" ⟨"LaidQuarrelModel", "every", "()V"⟩ ⟨"LaidQuarrelModel", "every", "()V"⟩ ∈ lw_tbl := List.mem_append_left _ (List.mem_of_getElem? (i := 41) rfl)
theorem sp_37 : Cond.selects "LaidQuarrelModel" ⟨"LaidQuarrelModel", "figures", "()I"⟩ ⟨"LaidQuarrelModel", "figures", "()I"⟩ ∈ lw_tbl := List.mem_append_left _ (List.mem_of_getElem? (i := 37) rfl)
theorem sp_44 : Cond.selects "LaidQuarrelModel" ⟨"LaidQuarrelModel", "among", "(Ljava/lang/String;)I"⟩ ⟨"LaidQuarrelModel", "among", "(Ljava/lang/String;)I"⟩ ∈ lw_tbl := List.mem_append_left _ (List.mem_of_getElem? (i := 44) rfl)
theorem sp_40 : Cond.selects "LaidQuarrelModel" ⟨"LaidQuarrelModel", "some", "()V"⟩ ⟨"LaidQuarrelModel", "some", "()V"⟩ ∈ lw_tbl := List.mem_append_left _ (List.mem_of_getElem? (i := 40) rfl)
theorem sp_43 : Cond.selects "LaidQuarrelModel" ⟨"LaidQuarrelModel", "emits", "(I)V"⟩ ⟨"LaidQuarrelModel", "emits", "(I)V"⟩ ∈ lw_tbl := List.mem_append_left _ (List.mem_of_getElem? (i := 43) rfl)
theorem sp_42 : Cond.selects "LaidQuarrelModel" ⟨"LaidQuarrelModel", "factor", "()V"⟩ ⟨"LaidQuarrelModel", "factor", "()V"⟩ ∈ lw_tbl := List.mem_append_left _ (List.mem_of_getElem? (i := 42) rfl)
theorem sp_36 : Cond.selects "LaidQuarrelModel" ⟨"LaidQuarrelModel", "must", "(I)V"⟩ ⟨"LaidQuarrelModel", "must", "(I)V"⟩ ∈ lw_tbl := List.mem_append_left _ (List.mem_of_getElem? (i := 36) rfl)
theorem sp_33 : Cond.selects "LaidQuarrelModel" ⟨"LaidQuarrelModel", "here", "()I"⟩ ⟨"LaidQuarrelModel", "here", "()I"⟩ ∈ lw_tbl := List.mem_append_left _ (List.mem_of_getElem? (i := 33) rfl)
theorem sp_27 : Cond.selects "LaidQuarrel" ⟨"LaidQuarrel", "leastPartner", "(II)I"⟩ ⟨"LaidQuarrel", "leastPartner", "(II)I"⟩ ∈ lw_tbl := List.mem_append_left _ (List.mem_of_getElem? (i := 27) rfl)
theorem sp_25 : Cond.selects "LaidQuarrel" ⟨"LaidQuarrel", "makesPeace", "(II)Z"⟩ ⟨"LaidQuarrel", "makesPeace", "(II)Z"⟩ ∈ lw_tbl := List.mem_append_left _ (List.mem_of_getElem? (i := 25) rfl)
theorem sp_30 : Cond.selects "LaidQuarrel" ⟨"LaidQuarrel", "allSayAsTried", "()I"⟩ ⟨"LaidQuarrel", "allSayAsTried", "()I"⟩ ∈ lw_tbl := List.mem_append_left _ (List.mem_of_getElem? (i := 30) rfl)
theorem sp_29 : Cond.selects "LaidQuarrel" ⟨"LaidQuarrel", "tryRow", "(ILLaidQuarrel$Bottle;I)V"⟩ ⟨"LaidQuarrel", "tryRow", "(ILLaidQuarrel$Bottle;I)V"⟩ ∈ lw_tbl := List.mem_append_left _ (List.mem_of_getElem? (i := 29) rfl)
theorem sp_28 : Cond.selects "LaidQuarrel" ⟨"LaidQuarrel", "allSeenIsSo", "(III)Z"⟩ ⟨"LaidQuarrel", "allSeenIsSo", "(III)Z"⟩ ∈ lw_tbl := List.mem_append_left _ (List.mem_of_getElem? (i := 28) rfl)
theorem sp_26 : Cond.selects "LaidQuarrel" ⟨"LaidQuarrel", "partnerOf", "(II)I"⟩ ⟨"LaidQuarrel", "partnerOf", "(II)I"⟩ ∈ lw_tbl := List.mem_append_left _ (List.mem_of_getElem? (i := 26) rfl)
theorem sp_24 : Cond.selects "LaidQuarrel" ⟨"LaidQuarrel", "countPairs", "(I)V"⟩ ⟨"LaidQuarrel", "countPairs", "(I)V"⟩ ∈ lw_tbl := List.mem_append_left _ (List.mem_of_getElem? (i := 24) rfl)
theorem sp_23 : Cond.selects "LaidQuarrel" ⟨"LaidQuarrel", "saidBy", "(I)I"⟩ ⟨"LaidQuarrel", "saidBy", "(I)I"⟩ ∈ lw_tbl := List.mem_append_left _ (List.mem_of_getElem? (i := 23) rfl)
theorem sp_22 : Cond.selects "LaidQuarrel" ⟨"LaidQuarrel", "hearAll", "()V"⟩ ⟨"LaidQuarrel", "hearAll", "()V"⟩ ∈ lw_tbl := List.mem_append_left _ (List.mem_of_getElem? (i := 22) rfl)
theorem sp_21 : Cond.selects "LaidQuarrel" ⟨"LaidQuarrel", "calmDown", "(LLaidQuarrel$Shelf;I)V"⟩ ⟨"LaidQuarrel", "calmDown", "(LLaidQuarrel$Shelf;I)V"⟩ ∈ lw_tbl := List.mem_append_left _ (List.mem_of_getElem? (i := 21) rfl)
theorem sp_20 : Cond.selects "LaidQuarrel" ⟨"LaidQuarrel", "allSay", "(I)I"⟩ ⟨"LaidQuarrel", "allSay", "(I)I"⟩ ∈ lw_tbl := List.mem_append_left _ (List.mem_of_getElem? (i := 20) rfl)
theorem sp_19 : Cond.selects "LaidQuarrel" ⟨"LaidQuarrel", "fullOnes", "()I"⟩ ⟨"LaidQuarrel", "fullOnes", "()I"⟩ ∈ lw_tbl := List.mem_append_left _ (List.mem_of_getElem? (i := 19) rfl)
theorem sp_17 : Cond.selects "LaidQuarrel" ⟨"LaidQuarrel", "isGuest", "(I)Z"⟩ ⟨"LaidQuarrel", "isGuest", "(I)Z"⟩ ∈ lw_tbl := List.mem_append_left _ (List.mem_of_getElem? (i := 17) rfl)
theorem sp_16 : Cond.selects "LaidQuarrel" ⟨"LaidQuarrel", "says", "(LLaidQuarrel$Bottle;LLaidQuarrel$Laid;)I"⟩ ⟨"LaidQuarrel", "says", "(LLaidQuarrel$Bottle;LLaidQuarrel$Laid;)I"⟩ ∈ lw_tbl := List.mem_append_left _ (List.mem_of_getElem? (i := 16) rfl)
theorem sp_13 : Cond.selects "LaidQuarrel" ⟨"LaidQuarrel", "bottleAt", "(I)LLaidQuarrel$Bottle;"⟩ ⟨"LaidQuarrel", "bottleAt", "(I)LLaidQuarrel$Bottle;"⟩ ∈ lw_tbl := List.mem_append_left _ (List.mem_of_getElem? (i := 13) rfl)
theorem sp_9 : Cond.selects "LaidQuarrel" ⟨"LaidQuarrel", "madeOf", "(I)LLaidQuarrel$Bottle;"⟩ ⟨"LaidQuarrel", "madeOf", "(I)LLaidQuarrel$Bottle;"⟩ ∈ lw_tbl := List.mem_append_left _ (List.mem_of_getElem? (i := 9) rfl)
theorem sp_8 : Cond.selects "LaidQuarrel$Cellar" ⟨"LaidQuarrel$Cellar", "readTest", "()Z"⟩ ⟨"LaidQuarrel$Cellar", "readTest", "()Z"⟩ ∈ lw_tbl := List.mem_append_left _ (List.mem_of_getElem? (i := 8) rfl)
theorem sp_7 : Cond.selects "LaidQuarrel$Cellar" ⟨"LaidQuarrel$Cellar", "readBracket", "(I)Z"⟩ ⟨"LaidQuarrel$Cellar", "readBracket", "(I)Z"⟩ ∈ lw_tbl := List.mem_append_left _ (List.mem_of_getElem? (i := 7) rfl)
theorem sp_6 : Cond.selects "LaidQuarrel$Cellar" ⟨"LaidQuarrel$Cellar", "readFactor", "(I)Z"⟩ ⟨"LaidQuarrel$Cellar", "readFactor", "(I)Z"⟩ ∈ lw_tbl := List.mem_append_left _ (List.mem_of_getElem? (i := 6) rfl)
theorem sp_5 : Cond.selects "LaidQuarrel$Cellar" ⟨"LaidQuarrel$Cellar", "readEither", "(I)Z"⟩ ⟨"LaidQuarrel$Cellar", "readEither", "(I)Z"⟩ ∈ lw_tbl := List.mem_append_left _ (List.mem_of_getElem? (i := 5) rfl)
theorem sp_4 : Cond.selects "LaidQuarrel$Cellar" ⟨"LaidQuarrel$Cellar", "addClause", "(II)Z"⟩ ⟨"LaidQuarrel$Cellar", "addClause", "(II)Z"⟩ ∈ lw_tbl := List.mem_append_left _ (List.mem_of_getElem? (i := 4) rfl)
theorem sp_3 : Cond.selects "LaidQuarrel$Cellar" ⟨"LaidQuarrel$Cellar", "readNumber", "()Z"⟩ ⟨"LaidQuarrel$Cellar", "readNumber", "()Z"⟩ ∈ lw_tbl := List.mem_append_left _ (List.mem_of_getElem? (i := 3) rfl)
theorem sp_2 : Cond.selects "LaidQuarrel$Cellar" ⟨"LaidQuarrel$Cellar", "takesAll", "(Ljava/lang/String;)Z"⟩ ⟨"LaidQuarrel$Cellar", "takesAll", "(Ljava/lang/String;)Z"⟩ ∈ lw_tbl := List.mem_append_left _ (List.mem_of_getElem? (i := 2) rfl)
theorem sp_1 : Cond.selects "LaidQuarrel$Cellar" ⟨"LaidQuarrel$Cellar", "takes", "(I)Z"⟩ ⟨"LaidQuarrel$Cellar", "takes", "(I)Z"⟩ ∈ lw_tbl := List.mem_append_left _ (List.mem_of_getElem? (i := 1) rfl)
theorem sp_0 : Cond.selects "LaidQuarrel$Cellar" ⟨"LaidQuarrel$Cellar", "readClause", "()Z"⟩ ⟨"LaidQuarrel$Cellar", "readClause", "()Z"⟩ ∈ lw_tbl := List.mem_append_left _ (List.mem_of_getElem? (i := 0) rfl)
theorem sp_15 : Cond.selects "LaidQuarrel$Cellar" ⟨"LaidQuarrel$Cellar", "testHolds", "(ILLaidQuarrel$Bottle;LLaidQuarrel$Laid;)Z"⟩ ⟨"LaidQuarrel$Cellar", "testHolds", "(ILLaidQuarrel$Bottle;LLaidQuarrel$Laid;)Z"⟩ ∈ lw_tbl := List.mem_append_left _ (List.mem_of_getElem? (i := 15) rfl)
theorem sp_14 : Cond.selects "LaidQuarrel$Cellar" ⟨"LaidQuarrel$Cellar", "holds", "(IILLaidQuarrel$Bottle;LLaidQuarrel$Laid;)Z"⟩ ⟨"LaidQuarrel$Cellar", "holds", "(IILLaidQuarrel$Bottle;LLaidQuarrel$Laid;)Z"⟩ ∈ lw_tbl := List.mem_append_left _ (List.mem_of_getElem? (i := 14) rfl)
theorem sp_18 : Cond.selects "LaidQuarrel$Cellar" ⟨"LaidQuarrel$Cellar", "lastOf", "(II)I"⟩ ⟨"LaidQuarrel$Cellar", "lastOf", "(II)I"⟩ ∈ lw_tbl := List.mem_append_left _ (List.mem_of_getElem? (i := 18) rfl)
theorem sp_31 : Cond.selects "java/util/ArrayList" ⟨"java/util/ArrayList", "fastRemove", "([Ljava/lang/Object;I)V"⟩ ⟨"java/util/ArrayList", "fastRemove", "([Ljava/lang/Object;I)V"⟩ ∈ lw_tbl := List.mem_append_left _ (List.mem_of_getElem? (i := 31) rfl)
theorem sp_10 : Cond.selects "java/util/ArrayList" ⟨"java/util/ArrayList", "add", "(Ljava/lang/Object;[Ljava/lang/Object;I)V"⟩ ⟨"java/util/ArrayList", "add", "(Ljava/lang/Object;[Ljava/lang/Object;I)V"⟩ ∈ lw_tbl := List.mem_append_left _ (List.mem_of_getElem? (i := 10) rfl)
theorem sp_11 : Cond.selects "java/util/ArrayList" ⟨"java/util/ArrayList", "grow", "()[Ljava/lang/Object;"⟩ ⟨"java/util/ArrayList", "grow", "()[Ljava/lang/Object;"⟩ ∈ lw_tbl := List.mem_append_left _ (List.mem_of_getElem? (i := 11) rfl)
theorem sp_12 : Cond.selects "java/util/ArrayList" ⟨"java/util/ArrayList", "grow", "(I)[Ljava/lang/Object;"⟩ ⟨"java/util/ArrayList", "grow", "(I)[Ljava/lang/Object;"⟩ ∈ lw_tbl := List.mem_append_left _ (List.mem_of_getElem? (i := 12) rfl)
theorem me_Jx4a65c_init_da8c8 : MeOk 0 0 := ⟨(bw w_0_90 rfl), (bw w_0_7 rfl), ⟨by decide +kernel, by decide +kernel⟩, by decide +kernel, by decide +kernel, by decide +kernel, rfl, fun h => rfl⟩
theorem me_Jx4a65c_grow_92f84 : MeOk 1 1 := ⟨(bw w_2_28 rfl), (bw w_0_7 rfl), ⟨by decide +kernel, by decide +kernel⟩, by decide +kernel, by decide +kernel, by decide +kernel, rfl, fun h => absurd h (by decide)⟩
theorem me_Jx4a65c_grow_d5877 : MeOk 2 0 := ⟨(bw w_2_24 rfl), (bw w_0_7 rfl), ⟨by decide +kernel, by decide +kernel⟩, by decide +kernel, by decide +kernel, by decide +kernel, rfl, fun h => absurd h (by decide)⟩
theorem me_Jx4a65c_size_8abf5 : MeOk 3 0 := ⟨(bw w_1_73 rfl), (bw w_0_7 rfl), ⟨by decide +kernel, by decide +kernel⟩, by decide +kernel, by decide +kernel, by decide +kernel, rfl, fun h => absurd h (by decide)⟩
theorem me_Jx4a65c_elementData_915e3 : MeOk 4 1 := ⟨(bw w_2_99 rfl), (bw w_0_7 rfl), ⟨by decide +kernel, by decide +kernel⟩, by decide +kernel, by decide +kernel, by decide +kernel, rfl, fun h => absurd h (by decide)⟩
theorem me_Jx4a65c_get_915e3 : MeOk 5 1 := ⟨(bw w_2_91 rfl), (bw w_0_7 rfl), ⟨by decide +kernel, by decide +kernel⟩, by decide +kernel, by decide +kernel, by decide +kernel, rfl, fun h => absurd h (by decide)⟩
theorem me_Jx4a65c_add_72be8 : MeOk 6 3 := ⟨(bw w_2_20 rfl), (bw w_0_7 rfl), ⟨by decide +kernel, by decide +kernel⟩, by decide +kernel, by decide +kernel, by decide +kernel, rfl, fun h => absurd h (by decide)⟩
theorem me_Jx4a65c_add_9ea2d : MeOk 7 1 := ⟨(bw w_2_16 rfl), (bw w_0_7 rfl), ⟨by decide +kernel, by decide +kernel⟩, by decide +kernel, by decide +kernel, by decide +kernel, rfl, fun h => absurd h (by decide)⟩
theorem me_Jx4a65c_remove_915e3 : MeOk 8 1 := ⟨(bw w_4_56 rfl), (bw w_0_7 rfl), ⟨by decide +kernel, by decide +kernel⟩, by decide +kernel, by decide +kernel, by decide +kernel, rfl, fun h => absurd h (by decide)⟩
theorem me_Jx4a65c_fastRemove_b59b0 : MeOk 9 2 := ⟨(bw w_4_60 rfl), (bw w_0_7 rfl), ⟨by decide +kernel, by decide +kernel⟩, by decide +kernel, by decide +kernel, by decide +kernel, rfl, fun h => absurd h (by decide)⟩
theorem me_X0_init : MeOk 10 3 := ⟨(bw w_1_85 rfl), (bw w_0_13 rfl), ⟨by decide +kernel, by decide +kernel⟩, by decide +kernel, by decide +kernel, by decide +kernel, rfl, fun h => rfl⟩
theorem me_X0_keep : MeOk 11 0 := ⟨(bw w_4_34 rfl), (bw w_0_13 rfl), ⟨by decide +kernel, by decide +kernel⟩, by decide +kernel, by decide +kernel, by decide +kernel, rfl, fun h => absurd h (by decide)⟩
theorem me_X0_restore : MeOk 12 0 := ⟨(bw w_4_72 rfl), (bw w_0_13 rfl), ⟨by decide +kernel, by decide +kernel⟩, by decide +kernel, by decide +kernel, by decide +kernel, rfl, fun h => absurd h (by decide)⟩
theorem me_X0_tryNow : MeOk 13 0 := ⟨(bw w_3_45 rfl), (bw w_0_13 rfl), ⟨by decide +kernel, by decide +kernel⟩, by decide +kernel, by decide +kernel, by decide +kernel, rfl, fun h => absurd h (by decide)⟩
theorem me_X0_tryBehind : MeOk 14 1 := ⟨(bw w_2_216 rfl), (bw w_0_13 rfl), ⟨by decide +kernel, by decide +kernel⟩, by decide +kernel, by decide +kernel, by decide +kernel, rfl, fun h => absurd h (by decide)⟩
theorem me_X0_spoken : MeOk 15 2 := ⟨(bw w_2_159 rfl), (bw w_0_13 rfl), ⟨by decide +kernel, by decide +kernel⟩, by decide +kernel, by decide +kernel, by decide +kernel, rfl, fun h => absurd h (by decide)⟩
theorem me_X0_utters : MeOk 16 1 := ⟨(bw w_3_190 rfl), (bw w_0_13 rfl), ⟨by decide +kernel, by decide +kernel⟩, by decide +kernel, by decide +kernel, by decide +kernel, rfl, fun h => absurd h (by decide)⟩
theorem me_X0_keeps : MeOk 17 1 := ⟨(bw w_3_212 rfl), (bw w_0_13 rfl), ⟨by decide +kernel, by decide +kernel⟩, by decide +kernel, by decide +kernel, by decide +kernel, rfl, fun h => absurd h (by decide)⟩
theorem me_X0_tells : MeOk 18 1 := ⟨(bw w_3_238 rfl), (bw w_0_13 rfl), ⟨by decide +kernel, by decide +kernel⟩, by decide +kernel, by decide +kernel, by decide +kernel, rfl, fun h => absurd h (by decide)⟩
theorem me_X1_init : MeOk 19 1 := ⟨(bw w_0_66 rfl), (bw w_0_4 rfl), ⟨by decide +kernel, by decide +kernel⟩, by decide +kernel, by decide +kernel, by decide +kernel, rfl, fun h => rfl⟩
theorem me_X1_copyFrom : MeOk 20 1 := ⟨(bw w_1_51 rfl), (bw w_0_4 rfl), ⟨by decide +kernel, by decide +kernel⟩, by decide +kernel, by decide +kernel, by decide +kernel, rfl, fun h => absurd h (by decide)⟩
theorem me_X1_keep : MeOk 21 0 := ⟨(bw w_4_22 rfl), (bw w_0_4 rfl), ⟨by decide +kernel, by decide +kernel⟩, by decide +kernel, by decide +kernel, by decide +kernel, rfl, fun h => absurd h (by decide)⟩
theorem me_X1_restore : MeOk 22 0 := ⟨(bw w_4_46 rfl), (bw w_0_4 rfl), ⟨by decide +kernel, by decide +kernel⟩, by decide +kernel, by decide +kernel, by decide +kernel, rfl, fun h => absurd h (by decide)⟩
theorem me_X1_calm : MeOk 23 0 := ⟨(bw w_2_189 rfl), (bw w_0_4 rfl), ⟨by decide +kernel, by decide +kernel⟩, by decide +kernel, by decide +kernel, by decide +kernel, rfl, fun h => absurd h (by decide)⟩
theorem me_X1_peace : MeOk 24 0 := ⟨(bw w_2_197 rfl), (bw w_0_4 rfl), ⟨by decide +kernel, by decide +kernel⟩, by decide +kernel, by decide +kernel, by decide +kernel, rfl, fun h => absurd h (by decide)⟩
theorem me_X1_lastOf : MeOk 25 2 := ⟨(bw w_2_193 rfl), (bw w_0_4 rfl), ⟨by decide +kernel, by decide +kernel⟩, by decide +kernel, by decide +kernel, by decide +kernel, rfl, fun h => absurd h (by decide)⟩
theorem me_X1_softOf : MeOk 26 2 := ⟨(bw w_2_103 rfl), (bw w_0_4 rfl), ⟨by decide +kernel, by decide +kernel⟩, by decide +kernel, by decide +kernel, by decide +kernel, rfl, fun h => absurd h (by decide)⟩
theorem me_X1_holds : MeOk 27 4 := ⟨(bw w_2_107 rfl), (bw w_0_4 rfl), ⟨by decide +kernel, by decide +kernel⟩, by decide +kernel, by decide +kernel, by decide +kernel, rfl, fun h => absurd h (by decide)⟩
theorem me_X1_testHolds : MeOk 28 3 := ⟨(bw w_2_111 rfl), (bw w_0_4 rfl), ⟨by decide +kernel, by decide +kernel⟩, by decide +kernel, by decide +kernel, by decide +kernel, rfl, fun h => absurd h (by decide)⟩
theorem me_X1_factOf : MeOk 29 3 := ⟨(bw w_2_114 rfl), (bw w_0_4 rfl), ⟨by decide +kernel, by decide +kernel⟩, by decide +kernel, by decide +kernel, by decide +kernel, rfl, fun h => absurd h (by decide)⟩
theorem me_X1_readText : MeOk 30 0 := ⟨(bw w_0_185 rfl), (bw w_0_4 rfl), ⟨by decide +kernel, by decide +kernel⟩, by decide +kernel, by decide +kernel, by decide +kernel, rfl, fun h => absurd h (by decide)⟩
theorem me_X1_readClause : MeOk 31 0 := ⟨(bw w_0_193 rfl), (bw w_0_4 rfl), ⟨by decide +kernel, by decide +kernel⟩, by decide +kernel, by decide +kernel, by decide +kernel, rfl, fun h => absurd h (by decide)⟩
theorem me_X1_addClause : MeOk 32 2 := ⟨(bw w_1_23 rfl), (bw w_0_4 rfl), ⟨by decide +kernel, by decide +kernel⟩, by decide +kernel, by decide +kernel, by decide +kernel, rfl, fun h => absurd h (by decide)⟩
theorem me_X1_readEither : MeOk 33 1 := ⟨(bw w_1_31 rfl), (bw w_0_4 rfl), ⟨by decide +kernel, by decide +kernel⟩, by decide +kernel, by decide +kernel, by decide +kernel, rfl, fun h => absurd h (by decide)⟩
theorem me_X1_readFactor : MeOk 34 1 := ⟨(bw w_1_35 rfl), (bw w_0_4 rfl), ⟨by decide +kernel, by decide +kernel⟩, by decide +kernel, by decide +kernel, by decide +kernel, rfl, fun h => absurd h (by decide)⟩
theorem me_X1_readBracket : MeOk 35 1 := ⟨(bw w_1_39 rfl), (bw w_0_4 rfl), ⟨by decide +kernel, by decide +kernel⟩, by decide +kernel, by decide +kernel, by decide +kernel, rfl, fun h => absurd h (by decide)⟩
theorem me_X1_readTest : MeOk 36 0 := ⟨(bw w_1_43 rfl), (bw w_0_4 rfl), ⟨by decide +kernel, by decide +kernel⟩, by decide +kernel, by decide +kernel, by decide +kernel, rfl, fun h => absurd h (by decide)⟩
theorem me_X1_isLetter : MeOk 37 1 := ⟨(bw w_1_46 rfl), (bw w_0_4 rfl), ⟨by decide +kernel, by decide +kernel⟩, by decide +kernel, by decide +kernel, by decide +kernel, rfl, fun h => absurd h (by decide)⟩
theorem me_X1_readNumber : MeOk 38 0 := ⟨(bw w_1_18 rfl), (bw w_0_4 rfl), ⟨by decide +kernel, by decide +kernel⟩, by decide +kernel, by decide +kernel, by decide +kernel, rfl, fun h => absurd h (by decide)⟩
theorem me_X1_takes : MeOk 39 1 := ⟨(bw w_0_197 rfl), (bw w_0_4 rfl), ⟨by decide +kernel, by decide +kernel⟩, by decide +kernel, by decide +kernel, by decide +kernel, rfl, fun h => absurd h (by decide)⟩
theorem me_X1_takesAll : MeOk 40 1 := ⟨(bw w_0_206 rfl), (bw w_0_4 rfl), ⟨by decide +kernel, by decide +kernel⟩, by decide +kernel, by decide +kernel, by decide +kernel, rfl, fun h => absurd h (by decide)⟩
theorem me_X2_init : MeOk 41 3 := ⟨(bw w_1_190 rfl), (bw w_0_17 rfl), ⟨by decide +kernel, by decide +kernel⟩, by decide +kernel, by decide +kernel, by decide +kernel, rfl, fun h => rfl⟩
theorem me_X2_spoken : MeOk 42 2 := ⟨(bw w_2_129 rfl), (bw w_0_17 rfl), ⟨by decide +kernel, by decide +kernel⟩, by decide +kernel, by decide +kernel, by decide +kernel, rfl, fun h => absurd h (by decide)⟩
theorem me_X2_tells : MeOk 43 1 := ⟨(bw w_3_220 rfl), (bw w_0_17 rfl), ⟨by decide +kernel, by decide +kernel⟩, by decide +kernel, by decide +kernel, by decide +kernel, rfl, fun h => absurd h (by decide)⟩
theorem me_X3_init : MeOk 44 3 := ⟨(bw w_1_203 rfl), (bw w_0_18 rfl), ⟨by decide +kernel, by decide +kernel⟩, by decide +kernel, by decide +kernel, by decide +kernel, rfl, fun h => rfl⟩
theorem me_X3_spoken : MeOk 45 2 := ⟨(bw w_2_133 rfl), (bw w_0_18 rfl), ⟨by decide +kernel, by decide +kernel⟩, by decide +kernel, by decide +kernel, by decide +kernel, rfl, fun h => absurd h (by decide)⟩
theorem me_X3_tells : MeOk 46 1 := ⟨(bw w_3_225 rfl), (bw w_0_18 rfl), ⟨by decide +kernel, by decide +kernel⟩, by decide +kernel, by decide +kernel, by decide +kernel, rfl, fun h => absurd h (by decide)⟩
theorem me_X4_init : MeOk 47 3 := ⟨(bw w_1_82 rfl), (bw w_0_14 rfl), ⟨by decide +kernel, by decide +kernel⟩, by decide +kernel, by decide +kernel, by decide +kernel, rfl, fun h => rfl⟩
theorem me_X4_spoken : MeOk 48 2 := ⟨(bw w_2_136 rfl), (bw w_0_14 rfl), ⟨by decide +kernel, by decide +kernel⟩, by decide +kernel, by decide +kernel, by decide +kernel, rfl, fun h => absurd h (by decide)⟩
theorem me_X4_utters : MeOk 49 1 := ⟨(bw w_3_177 rfl), (bw w_0_14 rfl), ⟨by decide +kernel, by decide +kernel⟩, by decide +kernel, by decide +kernel, by decide +kernel, rfl, fun h => absurd h (by decide)⟩
theorem me_X5_init : MeOk 50 0 := ⟨(bw w_1_91 rfl), (bw w_0_15 rfl), ⟨by decide +kernel, by decide +kernel⟩, by decide +kernel, by decide +kernel, by decide +kernel, rfl, fun h => rfl⟩
theorem me_X5_copyFrom : MeOk 51 1 := ⟨(bw w_2_220 rfl), (bw w_0_15 rfl), ⟨by decide +kernel, by decide +kernel⟩, by decide +kernel, by decide +kernel, by decide +kernel, rfl, fun h => absurd h (by decide)⟩
theorem me_X5_age : MeOk 52 1 := ⟨(bw w_2_225 rfl), (bw w_0_15 rfl), ⟨by decide +kernel, by decide +kernel⟩, by decide +kernel, by decide +kernel, by decide +kernel, rfl, fun h => absurd h (by decide)⟩
theorem me_X5_tell : MeOk 53 2 := ⟨(bw w_2_168 rfl), (bw w_0_15 rfl), ⟨by decide +kernel, by decide +kernel⟩, by decide +kernel, by decide +kernel, by decide +kernel, rfl, fun h => absurd h (by decide)⟩
theorem me_X5_telling : MeOk 54 0 := ⟨(bw w_2_158 rfl), (bw w_0_15 rfl), ⟨by decide +kernel, by decide +kernel⟩, by decide +kernel, by decide +kernel, by decide +kernel, rfl, fun h => absurd h (by decide)⟩
theorem me_X6_init : MeOk 55 3 := ⟨(bw w_1_216 rfl), (bw w_0_19 rfl), ⟨by decide +kernel, by decide +kernel⟩, by decide +kernel, by decide +kernel, by decide +kernel, rfl, fun h => rfl⟩
theorem me_X6_spoken : MeOk 56 2 := ⟨(bw w_2_145 rfl), (bw w_0_19 rfl), ⟨by decide +kernel, by decide +kernel⟩, by decide +kernel, by decide +kernel, by decide +kernel, rfl, fun h => absurd h (by decide)⟩
theorem me_X6_utters : MeOk 57 1 := ⟨(bw w_3_183 rfl), (bw w_0_19 rfl), ⟨by decide +kernel, by decide +kernel⟩, by decide +kernel, by decide +kernel, by decide +kernel, rfl, fun h => absurd h (by decide)⟩
theorem me_X7_init : MeOk 58 2 := ⟨(bw w_0_38 rfl), (bw w_0_2 rfl), ⟨by decide +kernel, by decide +kernel⟩, by decide +kernel, by decide +kernel, by decide +kernel, rfl, fun h => rfl⟩
theorem me_X7_add : MeOk 59 3 := ⟨(bw w_0_177 rfl), (bw w_0_2 rfl), ⟨by decide +kernel, by decide +kernel⟩, by decide +kernel, by decide +kernel, by decide +kernel, rfl, fun h => absurd h (by decide)⟩
theorem me_X7_at : MeOk 60 2 := ⟨(bw w_0_201 rfl), (bw w_0_2 rfl), ⟨by decide +kernel, by decide +kernel⟩, by decide +kernel, by decide +kernel, by decide +kernel, rfl, fun h => absurd h (by decide)⟩
theorem me_X7_put : MeOk 61 2 := ⟨(bw w_3_3 rfl), (bw w_0_2 rfl), ⟨by decide +kernel, by decide +kernel⟩, by decide +kernel, by decide +kernel, by decide +kernel, rfl, fun h => absurd h (by decide)⟩
theorem me_X7_clear : MeOk 62 0 := ⟨(bw w_0_189 rfl), (bw w_0_2 rfl), ⟨by decide +kernel, by decide +kernel⟩, by decide +kernel, by decide +kernel, by decide +kernel, rfl, fun h => absurd h (by decide)⟩
theorem me_X7_copyFrom : MeOk 63 1 := ⟨(bw w_1_55 rfl), (bw w_0_2 rfl), ⟨by decide +kernel, by decide +kernel⟩, by decide +kernel, by decide +kernel, by decide +kernel, rfl, fun h => absurd h (by decide)⟩
theorem me_X7_keep : MeOk 64 0 := ⟨(bw w_4_18 rfl), (bw w_0_2 rfl), ⟨by decide +kernel, by decide +kernel⟩, by decide +kernel, by decide +kernel, by decide +kernel, rfl, fun h => absurd h (by decide)⟩
theorem me_X7_restore : MeOk 65 0 := ⟨(bw w_4_42 rfl), (bw w_0_2 rfl), ⟨by decide +kernel, by decide +kernel⟩, by decide +kernel, by decide +kernel, by decide +kernel, rfl, fun h => absurd h (by decide)⟩
theorem me_X7_copy : MeOk 66 2 := ⟨(bw w_1_58 rfl), (bw w_0_2 rfl), ⟨by decide +kernel, by decide +kernel⟩, by decide +kernel, by decide +kernel, by decide +kernel, rfl, fun h => absurd h (by decide)⟩
theorem me_X8_init : MeOk 67 3 := ⟨(bw w_1_177 rfl), (bw w_0_16 rfl), ⟨by decide +kernel, by decide +kernel⟩, by decide +kernel, by decide +kernel, by decide +kernel, rfl, fun h => rfl⟩
theorem me_X8_spoken : MeOk 68 2 := ⟨(bw w_2_148 rfl), (bw w_0_16 rfl), ⟨by decide +kernel, by decide +kernel⟩, by decide +kernel, by decide +kernel, by decide +kernel, rfl, fun h => absurd h (by decide)⟩
theorem me_X8_keeps : MeOk 69 1 := ⟨(bw w_3_201 rfl), (bw w_0_16 rfl), ⟨by decide +kernel, by decide +kernel⟩, by decide +kernel, by decide +kernel, by decide +kernel, rfl, fun h => absurd h (by decide)⟩
theorem me_X9_init : MeOk 70 3 := ⟨(bw w_1_229 rfl), (bw w_0_20 rfl), ⟨by decide +kernel, by decide +kernel⟩, by decide +kernel, by decide +kernel, by decide +kernel, rfl, fun h => rfl⟩
theorem me_X9_spoken : MeOk 71 2 := ⟨(bw w_2_153 rfl), (bw w_0_20 rfl), ⟨by decide +kernel, by decide +kernel⟩, by decide +kernel, by decide +kernel, by decide +kernel, rfl, fun h => absurd h (by decide)⟩
theorem me_X9_keeps : MeOk 72 1 := ⟨(bw w_3_207 rfl), (bw w_0_20 rfl), ⟨by decide +kernel, by decide +kernel⟩, by decide +kernel, by decide +kernel, by decide +kernel, rfl, fun h => absurd h (by decide)⟩
theorem me_X10_init : MeOk 73 0 := ⟨(bw w_0_30 rfl), (bw w_0_1 rfl), ⟨by decide +kernel, by decide +kernel⟩, by decide +kernel, by decide +kernel, by decide +kernel, rfl, fun h => rfl⟩
theorem me_X10_feed : MeOk 74 1 := ⟨(bw w_0_167 rfl), (bw w_0_1 rfl), ⟨by decide +kernel, by decide +kernel⟩, by decide +kernel, by decide +kernel, by decide +kernel, rfl, fun h => absurd h (by decide)⟩
theorem me_X10_cellar : MeOk 75 0 := ⟨(bw w_0_181 rfl), (bw w_0_1 rfl), ⟨by decide +kernel, by decide +kernel⟩, by decide +kernel, by decide +kernel, by decide +kernel, rfl, fun h => absurd h (by decide)⟩
theorem me_X10_bottle : MeOk 76 3 := ⟨(bw w_1_63 rfl), (bw w_0_1 rfl), ⟨by decide +kernel, by decide +kernel⟩, by decide +kernel, by decide +kernel, by decide +kernel, rfl, fun h => absurd h (by decide)⟩
theorem me_X10_guest : MeOk 77 1 := ⟨(bw w_2_74 rfl), (bw w_0_1 rfl), ⟨by decide +kernel, by decide +kernel⟩, by decide +kernel, by decide +kernel, by decide +kernel, rfl, fun h => absurd h (by decide)⟩
theorem me_X10_of : MeOk 78 2 := ⟨(bw w_2_78 rfl), (bw w_0_1 rfl), ⟨by decide +kernel, by decide +kernel⟩, by decide +kernel, by decide +kernel, by decide +kernel, rfl, fun h => absurd h (by decide)⟩
theorem me_X10_row : MeOk 79 3 := ⟨(bw w_2_164 rfl), (bw w_0_1 rfl), ⟨by decide +kernel, by decide +kernel⟩, by decide +kernel, by decide +kernel, by decide +kernel, rfl, fun h => absurd h (by decide)⟩
theorem me_X10_set : MeOk 80 3 := ⟨(bw w_2_172 rfl), (bw w_0_1 rfl), ⟨by decide +kernel, by decide +kernel⟩, by decide +kernel, by decide +kernel, by decide +kernel, rfl, fun h => absurd h (by decide)⟩
theorem me_X10_mood : MeOk 81 1 := ⟨(bw w_2_176 rfl), (bw w_0_1 rfl), ⟨by decide +kernel, by decide +kernel⟩, by decide +kernel, by decide +kernel, by decide +kernel, rfl, fun h => absurd h (by decide)⟩
theorem me_X10_told : MeOk 82 1 := ⟨(bw w_2_185 rfl), (bw w_0_1 rfl), ⟨by decide +kernel, by decide +kernel⟩, by decide +kernel, by decide +kernel, by decide +kernel, rfl, fun h => absurd h (by decide)⟩
theorem me_X10_pour : MeOk 83 2 := ⟨(bw w_2_233 rfl), (bw w_0_1 rfl), ⟨by decide +kernel, by decide +kernel⟩, by decide +kernel, by decide +kernel, by decide +kernel, rfl, fun h => absurd h (by decide)⟩
theorem me_X10_both : MeOk 84 3 := ⟨(bw w_3_7 rfl), (bw w_0_1 rfl), ⟨by decide +kernel, by decide +kernel⟩, by decide +kernel, by decide +kernel, by decide +kernel, rfl, fun h => absurd h (by decide)⟩
theorem me_X10_pass : MeOk 85 1 := ⟨(bw w_3_11 rfl), (bw w_0_1 rfl), ⟨by decide +kernel, by decide +kernel⟩, by decide +kernel, by decide +kernel, by decide +kernel, rfl, fun h => absurd h (by decide)⟩
theorem me_X10_on : MeOk 86 2 := ⟨(bw w_3_21 rfl), (bw w_0_1 rfl), ⟨by decide +kernel, by decide +kernel⟩, by decide +kernel, by decide +kernel, by decide +kernel, rfl, fun h => absurd h (by decide)⟩
theorem me_X10_when : MeOk 87 2 := ⟨(bw w_3_26 rfl), (bw w_0_1 rfl), ⟨by decide +kernel, by decide +kernel⟩, by decide +kernel, by decide +kernel, by decide +kernel, rfl, fun h => absurd h (by decide)⟩
theorem me_X10_ripe : MeOk 88 1 := ⟨(bw w_3_30 rfl), (bw w_0_1 rfl), ⟨by decide +kernel, by decide +kernel⟩, by decide +kernel, by decide +kernel, by decide +kernel, rfl, fun h => absurd h (by decide)⟩
theorem me_X10_lies : MeOk 89 1 := ⟨(bw w_3_34 rfl), (bw w_0_1 rfl), ⟨by decide +kernel, by decide +kernel⟩, by decide +kernel, by decide +kernel, by decide +kernel, rfl, fun h => absurd h (by decide)⟩
theorem me_X10_choose : MeOk 90 2 := ⟨(bw w_3_49 rfl), (bw w_0_1 rfl), ⟨by decide +kernel, by decide +kernel⟩, by decide +kernel, by decide +kernel, by decide +kernel, rfl, fun h => absurd h (by decide)⟩
theorem me_X10_line : MeOk 91 2 := ⟨(bw w_3_70 rfl), (bw w_0_1 rfl), ⟨by decide +kernel, by decide +kernel⟩, by decide +kernel, by decide +kernel, by decide +kernel, rfl, fun h => absurd h (by decide)⟩
theorem me_X10_pair : MeOk 92 0 := ⟨(bw w_3_80 rfl), (bw w_0_1 rfl), ⟨by decide +kernel, by decide +kernel⟩, by decide +kernel, by decide +kernel, by decide +kernel, rfl, fun h => absurd h (by decide)⟩
theorem me_X10_match : MeOk 93 1 := ⟨(bw w_3_85 rfl), (bw w_0_1 rfl), ⟨by decide +kernel, by decide +kernel⟩, by decide +kernel, by decide +kernel, by decide +kernel, rfl, fun h => absurd h (by decide)⟩
theorem me_X10_words : MeOk 94 3 := ⟨(bw w_3_109 rfl), (bw w_0_1 rfl), ⟨by decide +kernel, by decide +kernel⟩, by decide +kernel, by decide +kernel, by decide +kernel, rfl, fun h => absurd h (by decide)⟩
theorem me_X10_see : MeOk 95 3 := ⟨(bw w_3_113 rfl), (bw w_0_1 rfl), ⟨by decide +kernel, by decide +kernel⟩, by decide +kernel, by decide +kernel, by decide +kernel, rfl, fun h => absurd h (by decide)⟩
theorem me_X10_old : MeOk 96 2 := ⟨(bw w_3_117 rfl), (bw w_0_1 rfl), ⟨by decide +kernel, by decide +kernel⟩, by decide +kernel, by decide +kernel, by decide +kernel, rfl, fun h => absurd h (by decide)⟩
theorem me_X10_firm : MeOk 97 2 := ⟨(bw w_3_125 rfl), (bw w_0_1 rfl), ⟨by decide +kernel, by decide +kernel⟩, by decide +kernel, by decide +kernel, by decide +kernel, rfl, fun h => absurd h (by decide)⟩
theorem me_X10_whose : MeOk 98 2 := ⟨(bw w_3_129 rfl), (bw w_0_1 rfl), ⟨by decide +kernel, by decide +kernel⟩, by decide +kernel, by decide +kernel, by decide +kernel, rfl, fun h => absurd h (by decide)⟩
theorem me_X10_odds : MeOk 99 3 := ⟨(bw w_3_133 rfl), (bw w_0_1 rfl), ⟨by decide +kernel, by decide +kernel⟩, by decide +kernel, by decide +kernel, by decide +kernel, rfl, fun h => absurd h (by decide)⟩
theorem me_X10_mean : MeOk 100 2 := ⟨(bw w_3_141 rfl), (bw w_0_1 rfl), ⟨by decide +kernel, by decide +kernel⟩, by decide +kernel, by decide +kernel, by decide +kernel, rfl, fun h => absurd h (by decide)⟩
theorem me_X10_evening : MeOk 101 3 := ⟨(bw w_3_145 rfl), (bw w_0_1 rfl), ⟨by decide +kernel, by decide +kernel⟩, by decide +kernel, by decide +kernel, by decide +kernel, rfl, fun h => absurd h (by decide)⟩
theorem me_X10_done : MeOk 102 1 := ⟨(bw w_3_149 rfl), (bw w_0_1 rfl), ⟨by decide +kernel, by decide +kernel⟩, by decide +kernel, by decide +kernel, by decide +kernel, rfl, fun h => absurd h (by decide)⟩
theorem me_X10_book : MeOk 103 2 := ⟨(bw w_3_161 rfl), (bw w_0_1 rfl), ⟨by decide +kernel, by decide +kernel⟩, by decide +kernel, by decide +kernel, by decide +kernel, rfl, fun h => absurd h (by decide)⟩
theorem me_X10_looked : MeOk 104 0 := ⟨(bw w_3_165 rfl), (bw w_0_1 rfl), ⟨by decide +kernel, by decide +kernel⟩, by decide +kernel, by decide +kernel, by decide +kernel, rfl, fun h => absurd h (by decide)⟩
theorem me_X10_act : MeOk 105 3 := ⟨(bw w_3_169 rfl), (bw w_0_1 rfl), ⟨by decide +kernel, by decide +kernel⟩, by decide +kernel, by decide +kernel, by decide +kernel, rfl, fun h => absurd h (by decide)⟩
theorem me_X10_trace : MeOk 106 1 := ⟨(bw w_4_3 rfl), (bw w_0_1 rfl), ⟨by decide +kernel, by decide +kernel⟩, by decide +kernel, by decide +kernel, by decide +kernel, rfl, fun h => absurd h (by decide)⟩
theorem me_X10_as : MeOk 107 2 := ⟨(bw w_4_7 rfl), (bw w_0_1 rfl), ⟨by decide +kernel, by decide +kernel⟩, by decide +kernel, by decide +kernel, by decide +kernel, rfl, fun h => absurd h (by decide)⟩
theorem me_X10_image : MeOk 108 0 := ⟨(bw w_4_14 rfl), (bw w_0_1 rfl), ⟨by decide +kernel, by decide +kernel⟩, by decide +kernel, by decide +kernel, by decide +kernel, rfl, fun h => absurd h (by decide)⟩
theorem me_X10_undo : MeOk 109 0 := ⟨(bw w_4_38 rfl), (bw w_0_1 rfl), ⟨by decide +kernel, by decide +kernel⟩, by decide +kernel, by decide +kernel, by decide +kernel, rfl, fun h => absurd h (by decide)⟩
theorem me_X10_count : MeOk 110 1 := ⟨(bw w_4_76 rfl), (bw w_0_1 rfl), ⟨by decide +kernel, by decide +kernel⟩, by decide +kernel, by decide +kernel, by decide +kernel, rfl, fun h => absurd h (by decide)⟩
theorem me_X10_within : MeOk 111 3 := ⟨(bw w_0_170 rfl), (bw w_0_1 rfl), ⟨by decide +kernel, by decide +kernel⟩, by decide +kernel, by decide +kernel, by decide +kernel, rfl, fun h => absurd h (by decide)⟩
theorem me_X10_isIn : MeOk 112 2 := ⟨(bw w_3_66 rfl), (bw w_0_1 rfl), ⟨by decide +kernel, by decide +kernel⟩, by decide +kernel, by decide +kernel, by decide +kernel, rfl, fun h => absurd h (by decide)⟩
theorem me_X10_nearer : MeOk 113 2 := ⟨(bw w_2_139 rfl), (bw w_0_1 rfl), ⟨by decide +kernel, by decide +kernel⟩, by decide +kernel, by decide +kernel, by decide +kernel, rfl, fun h => absurd h (by decide)⟩
theorem me_X10_heldMood : MeOk 114 1 := ⟨(bw w_2_239 rfl), (bw w_0_1 rfl), ⟨by decide +kernel, by decide +kernel⟩, by decide +kernel, by decide +kernel, by decide +kernel, rfl, fun h => absurd h (by decide)⟩
theorem me_X10_kindAbove : MeOk 115 1 := ⟨(bw w_4_10 rfl), (bw w_0_1 rfl), ⟨by decide +kernel, by decide +kernel⟩, by decide +kernel, by decide +kernel, by decide +kernel, rfl, fun h => absurd h (by decide)⟩
theorem me_X10_added : MeOk 116 4 := ⟨(bw w_0_173 rfl), (bw w_0_1 rfl), ⟨by decide +kernel, by decide +kernel⟩, by decide +kernel, by decide +kernel, by decide +kernel, rfl, fun h => absurd h (by decide)⟩
theorem me_X10_sum : MeOk 117 1 := ⟨(bw w_2_229 rfl), (bw w_0_1 rfl), ⟨by decide +kernel, by decide +kernel⟩, by decide +kernel, by decide +kernel, by decide +kernel, rfl, fun h => absurd h (by decide)⟩
theorem me_X10_fraction : MeOk 118 3 := ⟨(bw w_3_137 rfl), (bw w_0_1 rfl), ⟨by decide +kernel, by decide +kernel⟩, by decide +kernel, by decide +kernel, by decide +kernel, rfl, fun h => absurd h (by decide)⟩
theorem me_X10_isGuest : MeOk 119 1 := ⟨(bw w_2_180 rfl), (bw w_0_1 rfl), ⟨by decide +kernel, by decide +kernel⟩, by decide +kernel, by decide +kernel, by decide +kernel, rfl, fun h => absurd h (by decide)⟩
theorem me_X10_bottleAt : MeOk 120 1 := ⟨(bw w_2_82 rfl), (bw w_0_1 rfl), ⟨by decide +kernel, by decide +kernel⟩, by decide +kernel, by decide +kernel, by decide +kernel, rfl, fun h => absurd h (by decide)⟩
theorem me_X10_madeOf : MeOk 121 1 := ⟨(bw w_1_77 rfl), (bw w_0_1 rfl), ⟨by decide +kernel, by decide +kernel⟩, by decide +kernel, by decide +kernel, by decide +kernel, rfl, fun h => absurd h (by decide)⟩
theorem me_X10_says : MeOk 122 2 := ⟨(bw w_2_122 rfl), (bw w_0_1 rfl), ⟨by decide +kernel, by decide +kernel⟩, by decide +kernel, by decide +kernel, by decide +kernel, rfl, fun h => absurd h (by decide)⟩
theorem me_X10_allSay : MeOk 123 1 := ⟨(bw w_2_205 rfl), (bw w_0_1 rfl), ⟨by decide +kernel, by decide +kernel⟩, by decide +kernel, by decide +kernel, by decide +kernel, rfl, fun h => absurd h (by decide)⟩
theorem me_X10_fullOnes : MeOk 124 0 := ⟨(bw w_2_201 rfl), (bw w_0_1 rfl), ⟨by decide +kernel, by decide +kernel⟩, by decide +kernel, by decide +kernel, by decide +kernel, rfl, fun h => absurd h (by decide)⟩
theorem me_X10_hearAll : MeOk 125 0 := ⟨(bw w_3_53 rfl), (bw w_0_1 rfl), ⟨by decide +kernel, by decide +kernel⟩, by decide +kernel, by decide +kernel, by decide +kernel, rfl, fun h => absurd h (by decide)⟩
theorem me_X10_saidBy : MeOk 126 1 := ⟨(bw w_3_63 rfl), (bw w_0_1 rfl), ⟨by decide +kernel, by decide +kernel⟩, by decide +kernel, by decide +kernel, by decide +kernel, rfl, fun h => absurd h (by decide)⟩
theorem me_X10_lift : MeOk 127 3 := ⟨(bw w_2_236 rfl), (bw w_0_1 rfl), ⟨by decide +kernel, by decide +kernel⟩, by decide +kernel, by decide +kernel, by decide +kernel, rfl, fun h => absurd h (by decide)⟩
theorem me_X10_calmDown : MeOk 128 2 := ⟨(bw w_3_16 rfl), (bw w_0_1 rfl), ⟨by decide +kernel, by decide +kernel⟩, by decide +kernel, by decide +kernel, by decide +kernel, rfl, fun h => absurd h (by decide)⟩
theorem me_X10_bestLine : MeOk 129 4 := ⟨(bw w_3_73 rfl), (bw w_0_1 rfl), ⟨by decide +kernel, by decide +kernel⟩, by decide +kernel, by decide +kernel, by decide +kernel, rfl, fun h => absurd h (by decide)⟩
theorem me_X10_moodOf : MeOk 130 1 := ⟨(bw w_3_76 rfl), (bw w_0_1 rfl), ⟨by decide +kernel, by decide +kernel⟩, by decide +kernel, by decide +kernel, by decide +kernel, rfl, fun h => absurd h (by decide)⟩
theorem me_X10_countPairs : MeOk 131 1 := ⟨(bw w_3_89 rfl), (bw w_0_1 rfl), ⟨by decide +kernel, by decide +kernel⟩, by decide +kernel, by decide +kernel, by decide +kernel, rfl, fun h => absurd h (by decide)⟩
theorem me_X10_makesPeace : MeOk 132 2 := ⟨(bw w_3_97 rfl), (bw w_0_1 rfl), ⟨by decide +kernel, by decide +kernel⟩, by decide +kernel, by decide +kernel, by decide +kernel, rfl, fun h => absurd h (by decide)⟩
theorem me_X10_partnerOf : MeOk 133 2 := ⟨(bw w_3_101 rfl), (bw w_0_1 rfl), ⟨by decide +kernel, by decide +kernel⟩, by decide +kernel, by decide +kernel, by decide +kernel, rfl, fun h => absurd h (by decide)⟩
theorem me_X10_leastPartner : MeOk 134 2 := ⟨(bw w_3_105 rfl), (bw w_0_1 rfl), ⟨by decide +kernel, by decide +kernel⟩, by decide +kernel, by decide +kernel, by decide +kernel, rfl, fun h => absurd h (by decide)⟩
theorem me_X10_allSeenIsSo : MeOk 135 3 := ⟨(bw w_3_121 rfl), (bw w_0_1 rfl), ⟨by decide +kernel, by decide +kernel⟩, by decide +kernel, by decide +kernel, by decide +kernel, rfl, fun h => absurd h (by decide)⟩
theorem me_X10_tryRow : MeOk 136 3 := ⟨(bw w_3_153 rfl), (bw w_0_1 rfl), ⟨by decide +kernel, by decide +kernel⟩, by decide +kernel, by decide +kernel, by decide +kernel, rfl, fun h => absurd h (by decide)⟩
theorem me_X10_allSayAsTried : MeOk 137 0 := ⟨(bw w_3_157 rfl), (bw w_0_1 rfl), ⟨by decide +kernel, by decide +kernel⟩, by decide +kernel, by decide +kernel, by decide +kernel, rfl, fun h => absurd h (by decide)⟩
theorem me_X11_init : MeOk 138 0 := ⟨(bw w_4_81 rfl), (bw w_0_8 rfl), ⟨by decide +kernel, by decide +kernel⟩, by decide +kernel, by decide +kernel, by decide +kernel, rfl, fun h => rfl⟩
theorem me_X11_in : MeOk 139 3 := ⟨(bw w_4_162 rfl), (bw w_0_8 rfl), ⟨by decide +kernel, by decide +kernel⟩, by decide +kernel, by decide +kernel, by decide +kernel, rfl, fun h => absurd h (by decide)⟩
theorem me_X11_within : MeOk 140 3 := ⟨(bw w_5_74 rfl), (bw w_0_8 rfl), ⟨by decide +kernel, by decide +kernel⟩, by decide +kernel, by decide +kernel, by decide +kernel, rfl, fun h => absurd h (by decide)⟩
theorem me_X11_size : MeOk 141 1 := ⟨(bw w_5_16 rfl), (bw w_0_8 rfl), ⟨by decide +kernel, by decide +kernel⟩, by decide +kernel, by decide +kernel, by decide +kernel, rfl, fun h => absurd h (by decide)⟩
theorem me_X11_nearer : MeOk 142 2 := ⟨(bw w_5_27 rfl), (bw w_0_8 rfl), ⟨by decide +kernel, by decide +kernel⟩, by decide +kernel, by decide +kernel, by decide +kernel, rfl, fun h => absurd h (by decide)⟩
theorem me_X11_isBottle : MeOk 143 1 := ⟨(bw w_5_5 rfl), (bw w_0_8 rfl), ⟨by decide +kernel, by decide +kernel⟩, by decide +kernel, by decide +kernel, by decide +kernel, rfl, fun h => absurd h (by decide)⟩
theorem me_X11_isGuest : MeOk 144 1 := ⟨(bw w_5_43 rfl), (bw w_0_8 rfl), ⟨by decide +kernel, by decide +kernel⟩, by decide +kernel, by decide +kernel, by decide +kernel, rfl, fun h => absurd h (by decide)⟩
theorem me_X11_isMood : MeOk 145 1 := ⟨(bw w_4_233 rfl), (bw w_0_8 rfl), ⟨by decide +kernel, by decide +kernel⟩, by decide +kernel, by decide +kernel, by decide +kernel, rfl, fun h => absurd h (by decide)⟩
theorem me_X11_isSaying : MeOk 146 1 := ⟨(bw w_5_157 rfl), (bw w_0_8 rfl), ⟨by decide +kernel, by decide +kernel⟩, by decide +kernel, by decide +kernel, by decide +kernel, rfl, fun h => absurd h (by decide)⟩
theorem me_X11_keeps : MeOk 147 0 := ⟨(bw w_5_98 rfl), (bw w_0_8 rfl), ⟨by decide +kernel, by decide +kernel⟩, by decide +kernel, by decide +kernel, by decide +kernel, rfl, fun h => absurd h (by decide)⟩
theorem me_X11_goesBack : MeOk 148 0 := ⟨(bw w_5_102 rfl), (bw w_0_8 rfl), ⟨by decide +kernel, by decide +kernel⟩, by decide +kernel, by decide +kernel, by decide +kernel, rfl, fun h => absurd h (by decide)⟩
theorem me_X11_feed : MeOk 149 1 := ⟨(bw w_4_159 rfl), (bw w_0_8 rfl), ⟨by decide +kernel, by decide +kernel⟩, by decide +kernel, by decide +kernel, by decide +kernel, rfl, fun h => absurd h (by decide)⟩
theorem me_X11_here : MeOk 150 0 := ⟨(bw w_4_174 rfl), (bw w_0_8 rfl), ⟨by decide +kernel, by decide +kernel⟩, by decide +kernel, by decide +kernel, by decide +kernel, rfl, fun h => absurd h (by decide)⟩
theorem me_X11_must : MeOk 151 1 := ⟨(bw w_4_189 rfl), (bw w_0_8 rfl), ⟨by decide +kernel, by decide +kernel⟩, by decide +kernel, by decide +kernel, by decide +kernel, rfl, fun h => absurd h (by decide)⟩
theorem me_X11_spells : MeOk 152 1 := ⟨(bw w_4_183 rfl), (bw w_0_8 rfl), ⟨by decide +kernel, by decide +kernel⟩, by decide +kernel, by decide +kernel, by decide +kernel, rfl, fun h => absurd h (by decide)⟩
theorem me_X11_figures : MeOk 153 0 := ⟨(bw w_4_193 rfl), (bw w_0_8 rfl), ⟨by decide +kernel, by decide +kernel⟩, by decide +kernel, by decide +kernel, by decide +kernel, rfl, fun h => absurd h (by decide)⟩
theorem me_X11_among : MeOk 154 1 := ⟨(bw w_4_224 rfl), (bw w_0_8 rfl), ⟨by decide +kernel, by decide +kernel⟩, by decide +kernel, by decide +kernel, by decide +kernel, rfl, fun h => absurd h (by decide)⟩
theorem me_X11_emits : MeOk 155 1 := ⟨(bw w_4_219 rfl), (bw w_0_8 rfl), ⟨by decide +kernel, by decide +kernel⟩, by decide +kernel, by decide +kernel, by decide +kernel, rfl, fun h => absurd h (by decide)⟩
theorem me_X11_factor : MeOk 156 0 := ⟨(bw w_4_215 rfl), (bw w_0_8 rfl), ⟨by decide +kernel, by decide +kernel⟩, by decide +kernel, by decide +kernel, by decide +kernel, rfl, fun h => absurd h (by decide)⟩
theorem me_X11_every : MeOk 157 0 := ⟨(bw w_4_211 rfl), (bw w_0_8 rfl), ⟨by decide +kernel, by decide +kernel⟩, by decide +kernel, by decide +kernel, by decide +kernel, rfl, fun h => absurd h (by decide)⟩
theorem me_X11_some : MeOk 158 0 := ⟨(bw w_4_207 rfl), (bw w_0_8 rfl), ⟨by decide +kernel, by decide +kernel⟩, by decide +kernel, by decide +kernel, by decide +kernel, rfl, fun h => absurd h (by decide)⟩
theorem me_X11_much : MeOk 159 2 := ⟨(bw w_4_203 rfl), (bw w_0_8 rfl), ⟨by decide +kernel, by decide +kernel⟩, by decide +kernel, by decide +kernel, by decide +kernel, rfl, fun h => absurd h (by decide)⟩
theorem me_X11_tellsHere : MeOk 160 2 := ⟨(bw w_4_179 rfl), (bw w_0_8 rfl), ⟨by decide +kernel, by decide +kernel⟩, by decide +kernel, by decide +kernel, by decide +kernel, rfl, fun h => absurd h (by decide)⟩
theorem me_X11_wordOfS : MeOk 161 0 := ⟨(bw w_4_198 rfl), (bw w_0_8 rfl), ⟨by decide +kernel, by decide +kernel⟩, by decide +kernel, by decide +kernel, by decide +kernel, rfl, fun h => absurd h (by decide)⟩
theorem me_X11_clauseHere : MeOk 162 0 := ⟨(bw w_4_170 rfl), (bw w_0_8 rfl), ⟨by decide +kernel, by decide +kernel⟩, by decide +kernel, by decide +kernel, by decide +kernel, rfl, fun h => absurd h (by decide)⟩
theorem me_X11_cellar : MeOk 163 0 := ⟨(bw w_4_166 rfl), (bw w_0_8 rfl), ⟨by decide +kernel, by decide +kernel⟩, by decide +kernel, by decide +kernel, by decide +kernel, rfl, fun h => absurd h (by decide)⟩
theorem me_X11_tellsOf : MeOk 164 2 := ⟨(bw w_5_20 rfl), (bw w_0_8 rfl), ⟨by decide +kernel, by decide +kernel⟩, by decide +kernel, by decide +kernel, by decide +kernel, rfl, fun h => absurd h (by decide)⟩
theorem me_X11_looks : MeOk 165 1 := ⟨(bw w_5_13 rfl), (bw w_0_8 rfl), ⟨by decide +kernel, by decide +kernel⟩, by decide +kernel, by decide +kernel, by decide +kernel, rfl, fun h => absurd h (by decide)⟩
theorem me_X11_softOf : MeOk 166 1 := ⟨(bw w_5_9 rfl), (bw w_0_8 rfl), ⟨by decide +kernel, by decide +kernel⟩, by decide +kernel, by decide +kernel, by decide +kernel, rfl, fun h => absurd h (by decide)⟩
theorem me_X11_saysOf : MeOk 167 1 := ⟨(bw w_5_24 rfl), (bw w_0_8 rfl), ⟨by decide +kernel, by decide +kernel⟩, by decide +kernel, by decide +kernel, by decide +kernel, rfl, fun h => absurd h (by decide)⟩
theorem me_X11_bottle : MeOk 168 3 := ⟨(bw w_4_230 rfl), (bw w_0_8 rfl), ⟨by decide +kernel, by decide +kernel⟩, by decide +kernel, by decide +kernel, by decide +kernel, rfl, fun h => absurd h (by decide)⟩
theorem me_X11_guest : MeOk 169 1 := ⟨(bw w_4_237 rfl), (bw w_0_8 rfl), ⟨by decide +kernel, by decide +kernel⟩, by decide +kernel, by decide +kernel, by decide +kernel, rfl, fun h => absurd h (by decide)⟩
theorem me_X11_of : MeOk 170 2 := ⟨(bw w_5_1 rfl), (bw w_0_8 rfl), ⟨by decide +kernel, by decide +kernel⟩, by decide +kernel, by decide +kernel, by decide +kernel, rfl, fun h => absurd h (by decide)⟩
theorem me_X11_row : MeOk 171 3 := ⟨(bw w_5_31 rfl), (bw w_0_8 rfl), ⟨by decide +kernel, by decide +kernel⟩, by decide +kernel, by decide +kernel, by decide +kernel, rfl, fun h => absurd h (by decide)⟩
theorem me_X11_set : MeOk 172 3 := ⟨(bw w_5_35 rfl), (bw w_0_8 rfl), ⟨by decide +kernel, by decide +kernel⟩, by decide +kernel, by decide +kernel, by decide +kernel, rfl, fun h => absurd h (by decide)⟩
theorem me_X11_mood : MeOk 173 1 := ⟨(bw w_5_39 rfl), (bw w_0_8 rfl), ⟨by decide +kernel, by decide +kernel⟩, by decide +kernel, by decide +kernel, by decide +kernel, rfl, fun h => absurd h (by decide)⟩
theorem me_X11_fullOnes : MeOk 174 0 := ⟨(bw w_5_51 rfl), (bw w_0_8 rfl), ⟨by decide +kernel, by decide +kernel⟩, by decide +kernel, by decide +kernel, by decide +kernel, rfl, fun h => absurd h (by decide)⟩
theorem me_X11_allSay : MeOk 175 0 := ⟨(bw w_5_55 rfl), (bw w_0_8 rfl), ⟨by decide +kernel, by decide +kernel⟩, by decide +kernel, by decide +kernel, by decide +kernel, rfl, fun h => absurd h (by decide)⟩
theorem me_X11_allMoods : MeOk 176 0 := ⟨(bw w_5_59 rfl), (bw w_0_8 rfl), ⟨by decide +kernel, by decide +kernel⟩, by decide +kernel, by decide +kernel, by decide +kernel, rfl, fun h => absurd h (by decide)⟩
theorem me_X11_told : MeOk 177 1 := ⟨(bw w_5_47 rfl), (bw w_0_8 rfl), ⟨by decide +kernel, by decide +kernel⟩, by decide +kernel, by decide +kernel, by decide +kernel, rfl, fun h => absurd h (by decide)⟩
theorem me_X11_brings : MeOk 178 2 := ⟨(bw w_5_71 rfl), (bw w_0_8 rfl), ⟨by decide +kernel, by decide +kernel⟩, by decide +kernel, by decide +kernel, by decide +kernel, rfl, fun h => absurd h (by decide)⟩
theorem me_X11_pours : MeOk 179 2 := ⟨(bw w_5_67 rfl), (bw w_0_8 rfl), ⟨by decide +kernel, by decide +kernel⟩, by decide +kernel, by decide +kernel, by decide +kernel, rfl, fun h => absurd h (by decide)⟩
theorem me_X11_pour : MeOk 180 2 := ⟨(bw w_5_63 rfl), (bw w_0_8 rfl), ⟨by decide +kernel, by decide +kernel⟩, by decide +kernel, by decide +kernel, by decide +kernel, rfl, fun h => absurd h (by decide)⟩
theorem me_X11_both : MeOk 181 3 := ⟨(bw w_5_78 rfl), (bw w_0_8 rfl), ⟨by decide +kernel, by decide +kernel⟩, by decide +kernel, by decide +kernel, by decide +kernel, rfl, fun h => absurd h (by decide)⟩
theorem me_X11_goes : MeOk 182 0 := ⟨(bw w_5_90 rfl), (bw w_0_8 rfl), ⟨by decide +kernel, by decide +kernel⟩, by decide +kernel, by decide +kernel, by decide +kernel, rfl, fun h => absurd h (by decide)⟩
theorem me_X11_goesOn : MeOk 183 1 := ⟨(bw w_5_86 rfl), (bw w_0_8 rfl), ⟨by decide +kernel, by decide +kernel⟩, by decide +kernel, by decide +kernel, by decide +kernel, rfl, fun h => absurd h (by decide)⟩
theorem me_X11_pass : MeOk 184 1 := ⟨(bw w_5_82 rfl), (bw w_0_8 rfl), ⟨by decide +kernel, by decide +kernel⟩, by decide +kernel, by decide +kernel, by decide +kernel, rfl, fun h => absurd h (by decide)⟩
theorem me_X11_on : MeOk 185 2 := ⟨(bw w_5_94 rfl), (bw w_0_8 rfl), ⟨by decide +kernel, by decide +kernel⟩, by decide +kernel, by decide +kernel, by decide +kernel, rfl, fun h => absurd h (by decide)⟩
theorem me_X11_when : MeOk 186 2 := ⟨(bw w_5_106 rfl), (bw w_0_8 rfl), ⟨by decide +kernel, by decide +kernel⟩, by decide +kernel, by decide +kernel, by decide +kernel, rfl, fun h => absurd h (by decide)⟩
theorem me_X11_ripe : MeOk 187 1 := ⟨(bw w_5_111 rfl), (bw w_0_8 rfl), ⟨by decide +kernel, by decide +kernel⟩, by decide +kernel, by decide +kernel, by decide +kernel, rfl, fun h => absurd h (by decide)⟩
theorem me_X11_lies : MeOk 188 1 := ⟨(bw w_5_115 rfl), (bw w_0_8 rfl), ⟨by decide +kernel, by decide +kernel⟩, by decide +kernel, by decide +kernel, by decide +kernel, rfl, fun h => absurd h (by decide)⟩
theorem me_X11_looksForSayings : MeOk 189 0 := ⟨(bw w_5_123 rfl), (bw w_0_8 rfl), ⟨by decide +kernel, by decide +kernel⟩, by decide +kernel, by decide +kernel, by decide +kernel, rfl, fun h => absurd h (by decide)⟩
theorem me_X11_countOf : MeOk 190 1 := ⟨(bw w_5_130 rfl), (bw w_0_8 rfl), ⟨by decide +kernel, by decide +kernel⟩, by decide +kernel, by decide +kernel, by decide +kernel, rfl, fun h => absurd h (by decide)⟩
theorem me_X11_sumOf : MeOk 191 1 := ⟨(bw w_5_127 rfl), (bw w_0_8 rfl), ⟨by decide +kernel, by decide +kernel⟩, by decide +kernel, by decide +kernel, by decide +kernel, rfl, fun h => absurd h (by decide)⟩
theorem me_X11_choose : MeOk 192 2 := ⟨(bw w_5_119 rfl), (bw w_0_8 rfl), ⟨by decide +kernel, by decide +kernel⟩, by decide +kernel, by decide +kernel, by decide +kernel, rfl, fun h => absurd h (by decide)⟩
theorem me_X11_ordersFrom : MeOk 193 3 := ⟨(bw w_5_138 rfl), (bw w_0_8 rfl), ⟨by decide +kernel, by decide +kernel⟩, by decide +kernel, by decide +kernel, by decide +kernel, rfl, fun h => absurd h (by decide)⟩
theorem me_X11_line : MeOk 194 2 := ⟨(bw w_5_134 rfl), (bw w_0_8 rfl), ⟨by decide +kernel, by decide +kernel⟩, by decide +kernel, by decide +kernel, by decide +kernel, rfl, fun h => absurd h (by decide)⟩
theorem me_X11_pair : MeOk 195 0 := ⟨(bw w_5_142 rfl), (bw w_0_8 rfl), ⟨by decide +kernel, by decide +kernel⟩, by decide +kernel, by decide +kernel, by decide +kernel, rfl, fun h => absurd h (by decide)⟩
theorem me_X11_pairsFrom : MeOk 196 2 := ⟨(bw w_5_150 rfl), (bw w_0_8 rfl), ⟨by decide +kernel, by decide +kernel⟩, by decide +kernel, by decide +kernel, by decide +kernel, rfl, fun h => absurd h (by decide)⟩
theorem me_X11_match : MeOk 197 1 := ⟨(bw w_5_146 rfl), (bw w_0_8 rfl), ⟨by decide +kernel, by decide +kernel⟩, by decide +kernel, by decide +kernel, by decide +kernel, rfl, fun h => absurd h (by decide)⟩
theorem me_X11_words : MeOk 198 3 := ⟨(bw w_5_154 rfl), (bw w_0_8 rfl), ⟨by decide +kernel, by decide +kernel⟩, by decide +kernel, by decide +kernel, by decide +kernel, rfl, fun h => absurd h (by decide)⟩
theorem me_X11_see : MeOk 199 3 := ⟨(bw w_5_161 rfl), (bw w_0_8 rfl), ⟨by decide +kernel, by decide +kernel⟩, by decide +kernel, by decide +kernel, by decide +kernel, rfl, fun h => absurd h (by decide)⟩
theorem me_X11_isAsSeen : MeOk 200 1 := ⟨(bw w_5_173 rfl), (bw w_0_8 rfl), ⟨by decide +kernel, by decide +kernel⟩, by decide +kernel, by decide +kernel, by decide +kernel, rfl, fun h => absurd h (by decide)⟩
theorem me_X11_areAsSeen : MeOk 201 0 := ⟨(bw w_5_169 rfl), (bw w_0_8 rfl), ⟨by decide +kernel, by decide +kernel⟩, by decide +kernel, by decide +kernel, by decide +kernel, rfl, fun h => absurd h (by decide)⟩
theorem me_X11_old : MeOk 202 2 := ⟨(bw w_5_165 rfl), (bw w_0_8 rfl), ⟨by decide +kernel, by decide +kernel⟩, by decide +kernel, by decide +kernel, by decide +kernel, rfl, fun h => absurd h (by decide)⟩
theorem me_X11_firm : MeOk 203 2 := ⟨(bw w_5_177 rfl), (bw w_0_8 rfl), ⟨by decide +kernel, by decide +kernel⟩, by decide +kernel, by decide +kernel, by decide +kernel, rfl, fun h => absurd h (by decide)⟩
theorem me_X11_whose : MeOk 204 2 := ⟨(bw w_5_181 rfl), (bw w_0_8 rfl), ⟨by decide +kernel, by decide +kernel⟩, by decide +kernel, by decide +kernel, by decide +kernel, rfl, fun h => absurd h (by decide)⟩
theorem me_X11_lowest : MeOk 205 3 := ⟨(bw w_5_189 rfl), (bw w_0_8 rfl), ⟨by decide +kernel, by decide +kernel⟩, by decide +kernel, by decide +kernel, by decide +kernel, rfl, fun h => absurd h (by decide)⟩
theorem me_X11_odds : MeOk 206 3 := ⟨(bw w_5_185 rfl), (bw w_0_8 rfl), ⟨by decide +kernel, by decide +kernel⟩, by decide +kernel, by decide +kernel, by decide +kernel, rfl, fun h => absurd h (by decide)⟩
theorem me_X11_mean : MeOk 207 2 := ⟨(bw w_5_193 rfl), (bw w_0_8 rfl), ⟨by decide +kernel, by decide +kernel⟩, by decide +kernel, by decide +kernel, by decide +kernel, rfl, fun h => absurd h (by decide)⟩
theorem me_X11_evening : MeOk 208 3 := ⟨(bw w_5_197 rfl), (bw w_0_8 rfl), ⟨by decide +kernel, by decide +kernel⟩, by decide +kernel, by decide +kernel, by decide +kernel, rfl, fun h => absurd h (by decide)⟩
theorem me_X11_does : MeOk 209 3 := ⟨(bw w_5_205 rfl), (bw w_0_8 rfl), ⟨by decide +kernel, by decide +kernel⟩, by decide +kernel, by decide +kernel, by decide +kernel, rfl, fun h => absurd h (by decide)⟩
theorem me_X11_done : MeOk 210 1 := ⟨(bw w_5_201 rfl), (bw w_0_8 rfl), ⟨by decide +kernel, by decide +kernel⟩, by decide +kernel, by decide +kernel, by decide +kernel, rfl, fun h => absurd h (by decide)⟩
theorem me_X11_book : MeOk 211 2 := ⟨(bw w_5_209 rfl), (bw w_0_8 rfl), ⟨by decide +kernel, by decide +kernel⟩, by decide +kernel, by decide +kernel, by decide +kernel, rfl, fun h => absurd h (by decide)⟩
theorem me_X11_looked : MeOk 212 0 := ⟨(bw w_5_213 rfl), (bw w_0_8 rfl), ⟨by decide +kernel, by decide +kernel⟩, by decide +kernel, by decide +kernel, by decide +kernel, rfl, fun h => absurd h (by decide)⟩
theorem me_X11_ranBody : MeOk 213 1 := ⟨(bw w_5_228 rfl), (bw w_0_8 rfl), ⟨by decide +kernel, by decide +kernel⟩, by decide +kernel, by decide +kernel, by decide +kernel, rfl, fun h => absurd h (by decide)⟩
theorem me_X11_isUnder : MeOk 214 2 := ⟨(bw w_5_224 rfl), (bw w_0_8 rfl), ⟨by decide +kernel, by decide +kernel⟩, by decide +kernel, by decide +kernel, by decide +kernel, rfl, fun h => absurd h (by decide)⟩
theorem me_X11_plainUtters : MeOk 215 1 := ⟨(bw w_5_232 rfl), (bw w_0_8 rfl), ⟨by decide +kernel, by decide +kernel⟩, by decide +kernel, by decide +kernel, by decide +kernel, rfl, fun h => absurd h (by decide)⟩
theorem me_X11_uttersActs : MeOk 216 1 := ⟨(bw w_5_221 rfl), (bw w_0_8 rfl), ⟨by decide +kernel, by decide +kernel⟩, by decide +kernel, by decide +kernel, by decide +kernel, rfl, fun h => absurd h (by decide)⟩
theorem me_X11_plainKeeping : MeOk 217 1 := ⟨(bw w_6_0 rfl), (bw w_0_8 rfl), ⟨by decide +kernel, by decide +kernel⟩, by decide +kernel, by decide +kernel, by decide +kernel, rfl, fun h => absurd h (by decide)⟩
theorem me_X11_keepsActs : MeOk 218 1 := ⟨(bw w_5_236 rfl), (bw w_0_8 rfl), ⟨by decide +kernel, by decide +kernel⟩, by decide +kernel, by decide +kernel, by decide +kernel, rfl, fun h => absurd h (by decide)⟩
theorem me_X11_plainTelling : MeOk 219 1 := ⟨(bw w_6_8 rfl), (bw w_0_8 rfl), ⟨by decide +kernel, by decide +kernel⟩, by decide +kernel, by decide +kernel, by decide +kernel, rfl, fun h => absurd h (by decide)⟩
theorem me_X11_tellsActs : MeOk 220 1 := ⟨(bw w_6_4 rfl), (bw w_0_8 rfl), ⟨by decide +kernel, by decide +kernel⟩, by decide +kernel, by decide +kernel, by decide +kernel, rfl, fun h => absurd h (by decide)⟩
theorem me_X11_act : MeOk 221 3 := ⟨(bw w_5_217 rfl), (bw w_0_8 rfl), ⟨by decide +kernel, by decide +kernel⟩, by decide +kernel, by decide +kernel, by decide +kernel, rfl, fun h => absurd h (by decide)⟩
theorem me_X11_trace : MeOk 222 1 := ⟨(bw w_6_12 rfl), (bw w_0_8 rfl), ⟨by decide +kernel, by decide +kernel⟩, by decide +kernel, by decide +kernel, by decide +kernel, rfl, fun h => absurd h (by decide)⟩
theorem me_X11_as : MeOk 223 2 := ⟨(bw w_6_16 rfl), (bw w_0_8 rfl), ⟨by decide +kernel, by decide +kernel⟩, by decide +kernel, by decide +kernel, by decide +kernel, rfl, fun h => absurd h (by decide)⟩
theorem me_X11_image : MeOk 224 0 := ⟨(bw w_6_20 rfl), (bw w_0_8 rfl), ⟨by decide +kernel, by decide +kernel⟩, by decide +kernel, by decide +kernel, by decide +kernel, rfl, fun h => absurd h (by decide)⟩
theorem me_X11_undo : MeOk 225 0 := ⟨(bw w_6_24 rfl), (bw w_0_8 rfl), ⟨by decide +kernel, by decide +kernel⟩, by decide +kernel, by decide +kernel, by decide +kernel, rfl, fun h => absurd h (by decide)⟩
theorem me_X11_count : MeOk 226 1 := ⟨(bw w_6_28 rfl), (bw w_0_8 rfl), ⟨by decide +kernel, by decide +kernel⟩, by decide +kernel, by decide +kernel, by decide +kernel, rfl, fun h => absurd h (by decide)⟩
theorem me_J6_numberOfTrailingZeros_0f7a4 : MeOk 227 1 := ⟨(bw w_3_92 rfl), (bw w_0_25 rfl), ⟨by decide +kernel, by decide +kernel⟩, by decide +kernel, by decide +kernel, by decide +kernel, rfl, fun h => absurd h (by decide)⟩
theorem me_J6_bitCount_0f7a4 : MeOk 228 1 := ⟨(bw w_3_56 rfl), (bw w_0_25 rfl), ⟨by decide +kernel, by decide +kernel⟩, by decide +kernel, by decide +kernel, by decide +kernel, rfl, fun h => absurd h (by decide)⟩
theorem me_J15_checkIndex_7cf53 : MeOk 229 2 := ⟨(bw w_2_94 rfl), (bw w_0_24 rfl), ⟨by decide +kernel, by decide +kernel⟩, by decide +kernel, by decide +kernel, by decide +kernel, rfl, fun h => absurd h (by decide)⟩
theorem me_J3_checkIndex_8e157 : MeOk 230 3 := ⟨(bw w_0_235 rfl), (bw w_0_11 rfl), ⟨by decide +kernel, by decide +kernel⟩, by decide +kernel, by decide +kernel, by decide +kernel, rfl, fun h => absurd h (by decide)⟩
theorem me_Jxc12de_init_da8c8 : MeOk 231 0 := ⟨(bw w_0_93 rfl), (bw w_0_6 rfl), ⟨by decide +kernel, by decide +kernel⟩, by decide +kernel, by decide +kernel, by decide +kernel, rfl, fun h => rfl⟩
theorem me_Jxa1e45_init_da8c8 : MeOk 232 0 := ⟨(bw w_0_96 rfl), (bw w_0_5 rfl), ⟨by decide +kernel, by decide +kernel⟩, by decide +kernel, by decide +kernel, by decide +kernel, rfl, fun h => rfl⟩
theorem cs_0_118 : OkS 0 118 229 := ⟨_, me_J15_checkIndex_7cf53, rfl, (bw w_2_93 rfl), Or.inl (bw w_2_92 rfl)⟩
theorem cs_1_44 : OkS 1 44 113 := ⟨_, me_X10_nearer, rfl, (bw w_2_138 rfl), Or.inr ⟨"LaidQuarrel", by decide +kernel⟩⟩
theorem cs_2_65 : OkS 2 65 29 := ⟨_, me_X1_factOf, rfl, (bw w_2_113 rfl), Or.inl (bw w_2_112 rfl)⟩
theorem cs_2_140 : OkS 2 140 37 := ⟨_, me_X1_isLetter, rfl, (bw w_1_45 rfl), Or.inl (bw w_1_44 rfl)⟩
theorem cs_2_143 : OkS 2 143 111 := ⟨_, me_X10_within, rfl, (bw w_0_169 rfl), Or.inr ⟨"LaidQuarrel", by decide +kernel⟩⟩
theorem cs_5_13 : OkS 5 13 113 := ⟨_, me_X10_nearer, rfl, (bw w_2_138 rfl), Or.inr ⟨"LaidQuarrel", by decide +kernel⟩⟩
theorem cs_6_32 : OkS 6 32 66 := ⟨_, me_X7_copy, rfl, (bw w_1_57 rfl), Or.inr ⟨"LaidQuarrel", by decide +kernel⟩⟩
theorem cs_8_29 : OkS 8 29 66 := ⟨_, me_X7_copy, rfl, (bw w_1_57 rfl), Or.inl (bw w_1_56 rfl)⟩
theorem cs_9_13 : OkS 9 13 113 := ⟨_, me_X10_nearer, rfl, (bw w_2_138 rfl), Or.inr ⟨"LaidQuarrel", by decide +kernel⟩⟩
theorem cs_11_67 : OkS 11 67 111 := ⟨_, me_X10_within, rfl, (bw w_0_169 rfl), Or.inl (bw w_0_168 rfl)⟩
theorem cs_11_71 : OkS 11 71 116 := ⟨_, me_X10_added, rfl, (bw w_0_172 rfl), Or.inl (bw w_0_171 rfl)⟩
theorem cs_11_174 : OkS 11 174 117 := ⟨_, me_X10_sum, rfl, (bw w_2_228 rfl), Or.inl (bw w_2_227 rfl)⟩
theorem cs_11_178 : OkS 11 178 127 := ⟨_, me_X10_lift, rfl, (bw w_2_235 rfl), Or.inl (bw w_2_234 rfl)⟩
theorem cs_11_207 : OkS 11 207 228 := ⟨_, me_J6_bitCount_0f7a4, rfl, (bw w_3_55 rfl), Or.inl (bw w_3_54 rfl)⟩
theorem cs_11_215 : OkS 11 215 129 := ⟨_, me_X10_bestLine, rfl, (bw w_3_72 rfl), Or.inl (bw w_3_71 rfl)⟩
theorem cs_11_218 : OkS 11 218 130 := ⟨_, me_X10_moodOf, rfl, (bw w_3_75 rfl), Or.inl (bw w_3_74 rfl)⟩
theorem cs_11_226 : OkS 11 226 112 := ⟨_, me_X10_isIn, rfl, (bw w_3_65 rfl), Or.inl (bw w_3_64 rfl)⟩
theorem cs_11_241 : OkS 11 241 114 := ⟨_, me_X10_heldMood, rfl, (bw w_2_238 rfl), Or.inl (bw w_2_237 rfl)⟩
theorem cs_11_244 : OkS 11 244 118 := ⟨_, me_X10_fraction, rfl, (bw w_3_136 rfl), Or.inl (bw w_3_135 rfl)⟩
theorem cs_11_264 : OkS 11 264 115 := ⟨_, me_X10_kindAbove, rfl, (bw w_4_9 rfl), Or.inl (bw w_4_8 rfl)⟩
theorem cs_11_320 : OkS 11 320 113 := ⟨_, me_X10_nearer, rfl, (bw w_2_138 rfl), Or.inl (bw w_3_17 rfl)⟩
theorem cs_11_323 : OkS 11 323 227 := ⟨_, me_J6_numberOfTrailingZeros_0f7a4, rfl, (bw w_3_91 rfl), Or.inl (bw w_3_90 rfl)⟩
theorem cs_12_50 : OkS 12 50 141 := ⟨_, me_X11_size, rfl, (bw w_5_15 rfl), Or.inl (bw w_5_14 rfl)⟩
theorem cs_12_54 : OkS 12 54 139 := ⟨_, me_X11_in, rfl, (bw w_4_161 rfl), Or.inl (bw w_4_160 rfl)⟩
theorem cs_12_149 : OkS 12 149 142 := ⟨_, me_X11_nearer, rfl, (bw w_5_26 rfl), Or.inl (bw w_5_25 rfl)⟩
theorem cs_12_152 : OkS 12 152 145 := ⟨_, me_X11_isMood, rfl, (bw w_4_232 rfl), Or.inl (bw w_4_231 rfl)⟩
theorem cs_12_174 : OkS 12 174 140 := ⟨_, me_X11_within, rfl, (bw w_5_73 rfl), Or.inl (bw w_5_72 rfl)⟩
theorem cs_12_204 : OkS 12 204 190 := ⟨_, me_X11_countOf, rfl, (bw w_5_129 rfl), Or.inl (bw w_5_128 rfl)⟩
theorem cs_12_220 : OkS 12 220 146 := ⟨_, me_X11_isSaying, rfl, (bw w_5_156 rfl), Or.inl (bw w_5_155 rfl)⟩
theorem cs_12_232 : OkS 12 232 205 := ⟨_, me_X11_lowest, rfl, (bw w_5_188 rfl), Or.inl (bw w_5_187 rfl)⟩
theorem cs_12_251 : OkS 12 251 214 := ⟨_, me_X11_isUnder, rfl, (bw w_5_223 rfl), Or.inl (bw w_5_222 rfl)⟩
theorem cs_15_105 : OkS 15 105 230 := ⟨_, me_J3_checkIndex_8e157, rfl, (bw w_0_234 rfl), Or.inl (bw w_2_95 rfl)⟩
theorem ci_0_1_0 : OkP 0 1 0 231 := ⟨_, me_Jxc12de_init_da8c8, rfl, (bw w_0_92 rfl), Or.inl ⟨rfl, rfl, Or.inl (bw w_0_91 rfl)⟩⟩
theorem cv_0_69_0 : OkV 0 69 0 1 := ⟨_, _, me_Jx4a65c_grow_92f84, rfl, (bw w_2_27 rfl), (bw w_2_25 rfl), (bw sp_12 rfl), by decide, Or.inl rfl⟩
theorem cv_0_123_0 : OkV 0 123 0 4 := ⟨_, _, me_Jx4a65c_elementData_915e3, rfl, (bw w_2_97 rfl), (bw w_2_96 rfl), (bw w_2_98 rfl), by decide, Or.inl rfl⟩
theorem cv_0_129_0 : OkV 0 129 0 2 := ⟨_, _, me_Jx4a65c_grow_d5877, rfl, (bw w_2_23 rfl), (bw w_2_21 rfl), (bw sp_11 rfl), by decide, Or.inl rfl⟩
theorem cv_0_131_0 : OkV 0 131 0 6 := ⟨_, _, me_Jx4a65c_add_72be8, rfl, (bw w_2_19 rfl), (bw w_2_17 rfl), (bw sp_10 rfl), by decide, Or.inl rfl⟩
theorem cv_0_144_0 : OkV 0 144 0 9 := ⟨_, _, me_Jx4a65c_fastRemove_b59b0, rfl, (bw w_4_59 rfl), (bw w_4_57 rfl), (bw sp_31 rfl), by decide, Or.inl rfl⟩
theorem ci_1_9_6 : OkP 1 9 6 50 := ⟨_, me_X5_init, rfl, (bw w_1_90 rfl), Or.inl ⟨rfl, rfl, Or.inr ⟨"LaidQuarrel", by decide +kernel⟩⟩⟩
theorem cv_1_33_6 : OkV 1 33 6 51 := ⟨_, _, me_X5_copyFrom, rfl, (bw w_2_218 rfl), (bw w_2_217 rfl), (bw w_2_219 rfl), by decide, Or.inl rfl⟩
theorem cv_1_37_6 : OkV 1 37 6 52 := ⟨_, _, me_X5_age, rfl, (bw w_2_223 rfl), (bw w_2_222 rfl), (bw w_2_224 rfl), by decide, Or.inl rfl⟩
theorem cv_1_50_8 : OkV 1 50 8 59 := ⟨_, _, me_X7_add, rfl, (bw w_0_175 rfl), (bw w_3_191 rfl), (bw w_0_176 rfl), by decide, Or.inl rfl⟩
theorem cv_1_56_1 : OkV 1 56 1 16 := ⟨_, _, me_X0_utters, rfl, (bw w_3_171 rfl), (bw w_3_213 rfl), (bw w_3_172 rfl), by decide, Or.inl rfl⟩
theorem cv_1_56_3 : OkV 1 56 3 16 := ⟨_, ⟨"LaidQuarrel$Bottle", "utters", "(I)I"⟩, me_X0_utters, rfl, (bw w_3_171 rfl), (bw w_3_213 rfl), (bw w_3_174 rfl), by decide, Or.inr ⟨"LaidQuarrel$Bottle", _, _, _, (bw w_3_173 rfl), (bw w_3_171 rfl), (bw w_3_190 rfl), ⟨by decide +kernel, by decide +kernel⟩, by decide +kernel⟩⟩
theorem cv_1_56_4 : OkV 1 56 4 49 := ⟨_, ⟨"LaidQuarrel$Bottle", "utters", "(I)I"⟩, me_X4_utters, rfl, (bw w_3_176 rfl), (bw w_3_213 rfl), (bw w_3_175 rfl), by decide, Or.inr ⟨"LaidQuarrel$Bottle", _, _, _, (bw w_3_173 rfl), (bw w_3_171 rfl), (bw w_3_190 rfl), ⟨by decide +kernel, by decide +kernel⟩, by decide +kernel⟩⟩
theorem cv_1_56_5 : OkV 1 56 5 49 := ⟨_, ⟨"LaidQuarrel$Bottle", "utters", "(I)I"⟩, me_X4_utters, rfl, (bw w_3_176 rfl), (bw w_3_213 rfl), (bw w_3_180 rfl), by decide, Or.inr ⟨"LaidQuarrel$Bottle", _, _, _, (bw w_3_173 rfl), (bw w_3_171 rfl), (bw w_3_190 rfl), ⟨by decide +kernel, by decide +kernel⟩, by decide +kernel⟩⟩
theorem cv_1_56_7 : OkV 1 56 7 57 := ⟨_, ⟨"LaidQuarrel$Bottle", "utters", "(I)I"⟩, me_X6_utters, rfl, (bw w_3_182 rfl), (bw w_3_213 rfl), (bw w_3_181 rfl), by decide, Or.inr ⟨"LaidQuarrel$Bottle", _, _, _, (bw w_3_173 rfl), (bw w_3_171 rfl), (bw w_3_190 rfl), ⟨by decide +kernel, by decide +kernel⟩, by decide +kernel⟩⟩
theorem cv_1_56_9 : OkV 1 56 9 16 := ⟨_, ⟨"LaidQuarrel$Bottle", "utters", "(I)I"⟩, me_X0_utters, rfl, (bw w_3_171 rfl), (bw w_3_213 rfl), (bw w_3_188 rfl), by decide, Or.inr ⟨"LaidQuarrel$Bottle", _, _, _, (bw w_3_173 rfl), (bw w_3_171 rfl), (bw w_3_190 rfl), ⟨by decide +kernel, by decide +kernel⟩, by decide +kernel⟩⟩
theorem cv_1_56_10 : OkV 1 56 10 16 := ⟨_, ⟨"LaidQuarrel$Bottle", "utters", "(I)I"⟩, me_X0_utters, rfl, (bw w_3_171 rfl), (bw w_3_213 rfl), (bw w_3_189 rfl), by decide, Or.inr ⟨"LaidQuarrel$Bottle", _, _, _, (bw w_3_173 rfl), (bw w_3_171 rfl), (bw w_3_190 rfl), ⟨by decide +kernel, by decide +kernel⟩, by decide +kernel⟩⟩
theorem cv_1_63_1 : OkV 1 63 1 17 := ⟨_, _, me_X0_keeps, rfl, (bw w_3_193 rfl), (bw w_3_239 rfl), (bw w_3_194 rfl), by decide, Or.inl rfl⟩
theorem cv_1_63_3 : OkV 1 63 3 17 := ⟨_, ⟨"LaidQuarrel$Bottle", "keeps", "(I)I"⟩, me_X0_keeps, rfl, (bw w_3_193 rfl), (bw w_3_239 rfl), (bw w_3_196 rfl), by decide, Or.inr ⟨"LaidQuarrel$Bottle", _, _, _, (bw w_3_195 rfl), (bw w_3_193 rfl), (bw w_3_212 rfl), ⟨by decide +kernel, by decide +kernel⟩, by decide +kernel⟩⟩
theorem cv_1_63_4 : OkV 1 63 4 17 := ⟨_, ⟨"LaidQuarrel$Bottle", "keeps", "(I)I"⟩, me_X0_keeps, rfl, (bw w_3_193 rfl), (bw w_3_239 rfl), (bw w_3_197 rfl), by decide, Or.inr ⟨"LaidQuarrel$Bottle", _, _, _, (bw w_3_195 rfl), (bw w_3_193 rfl), (bw w_3_212 rfl), ⟨by decide +kernel, by decide +kernel⟩, by decide +kernel⟩⟩
theorem cv_1_63_5 : OkV 1 63 5 17 := ⟨_, ⟨"LaidQuarrel$Bottle", "keeps", "(I)I"⟩, me_X0_keeps, rfl, (bw w_3_193 rfl), (bw w_3_239 rfl), (bw w_3_198 rfl), by decide, Or.inr ⟨"LaidQuarrel$Bottle", _, _, _, (bw w_3_195 rfl), (bw w_3_193 rfl), (bw w_3_212 rfl), ⟨by decide +kernel, by decide +kernel⟩, by decide +kernel⟩⟩
theorem cv_1_63_7 : OkV 1 63 7 69 := ⟨_, ⟨"LaidQuarrel$Bottle", "keeps", "(I)I"⟩, me_X8_keeps, rfl, (bw w_3_200 rfl), (bw w_3_239 rfl), (bw w_3_199 rfl), by decide, Or.inr ⟨"LaidQuarrel$Bottle", _, _, _, (bw w_3_195 rfl), (bw w_3_193 rfl), (bw w_3_212 rfl), ⟨by decide +kernel, by decide +kernel⟩, by decide +kernel⟩⟩
theorem cv_1_63_9 : OkV 1 63 9 69 := ⟨_, ⟨"LaidQuarrel$Bottle", "keeps", "(I)I"⟩, me_X8_keeps, rfl, (bw w_3_200 rfl), (bw w_3_239 rfl), (bw w_3_204 rfl), by decide, Or.inr ⟨"LaidQuarrel$Bottle", _, _, _, (bw w_3_195 rfl), (bw w_3_193 rfl), (bw w_3_212 rfl), ⟨by decide +kernel, by decide +kernel⟩, by decide +kernel⟩⟩
theorem cv_1_63_10 : OkV 1 63 10 72 := ⟨_, ⟨"LaidQuarrel$Bottle", "keeps", "(I)I"⟩, me_X9_keeps, rfl, (bw w_3_206 rfl), (bw w_3_239 rfl), (bw w_3_205 rfl), by decide, Or.inr ⟨"LaidQuarrel$Bottle", _, _, _, (bw w_3_195 rfl), (bw w_3_193 rfl), (bw w_3_212 rfl), ⟨by decide +kernel, by decide +kernel⟩, by decide +kernel⟩⟩
theorem ci_2_11_8 : OkP 2 11 8 58 := ⟨_, me_X7_init, rfl, (bw w_0_37 rfl), Or.inl ⟨rfl, rfl, Or.inl (bw w_0_69 rfl)⟩⟩
theorem cv_2_26_8 : OkV 2 26 8 63 := ⟨_, _, me_X7_copyFrom, rfl, (bw w_1_53 rfl), (bw w_1_52 rfl), (bw w_1_54 rfl), by decide, Or.inl rfl⟩
theorem cv_2_30_8 : OkV 2 30 8 64 := ⟨_, _, me_X7_keep, rfl, (bw w_4_16 rfl), (bw w_4_23 rfl), (bw w_4_17 rfl), by decide, Or.inl rfl⟩
theorem cv_2_33_8 : OkV 2 33 8 65 := ⟨_, _, me_X7_restore, rfl, (bw w_4_40 rfl), (bw w_4_47 rfl), (bw w_4_41 rfl), by decide, Or.inl rfl⟩
theorem cv_2_36_2 : OkV 2 36 2 25 := ⟨_, _, me_X1_lastOf, rfl, (bw w_2_192 rfl), (bw w_2_190 rfl), (bw sp_18 rfl), by decide, Or.inl rfl⟩
theorem cv_2_44_8 : OkV 2 44 8 60 := ⟨_, _, me_X7_at, rfl, (bw w_0_199 rfl), (bw w_0_198 rfl), (bw w_0_200 rfl), by decide, Or.inl rfl⟩
theorem cv_2_47_2 : OkV 2 47 2 27 := ⟨_, _, me_X1_holds, rfl, (bw w_2_106 rfl), (bw w_2_104 rfl), (bw sp_14 rfl), by decide, Or.inl rfl⟩
theorem cv_2_61_2 : OkV 2 61 2 28 := ⟨_, _, me_X1_testHolds, rfl, (bw w_2_110 rfl), (bw w_2_108 rfl), (bw sp_15 rfl), by decide, Or.inl rfl⟩
theorem cv_2_90_8 : OkV 2 90 8 62 := ⟨_, _, me_X7_clear, rfl, (bw w_0_187 rfl), (bw w_0_186 rfl), (bw w_0_188 rfl), by decide, Or.inl rfl⟩
theorem cv_2_96_2 : OkV 2 96 2 31 := ⟨_, _, me_X1_readClause, rfl, (bw w_0_192 rfl), (bw w_0_190 rfl), (bw sp_0 rfl), by decide, Or.inl rfl⟩
theorem cv_2_100_2 : OkV 2 100 2 39 := ⟨_, _, me_X1_takes, rfl, (bw w_0_196 rfl), (bw w_0_194 rfl), (bw sp_1 rfl), by decide, Or.inl rfl⟩
theorem cv_2_106_2 : OkV 2 106 2 40 := ⟨_, _, me_X1_takesAll, rfl, (bw w_0_205 rfl), (bw w_0_203 rfl), (bw sp_2 rfl), by decide, Or.inl rfl⟩
theorem cv_2_110_2 : OkV 2 110 2 38 := ⟨_, _, me_X1_readNumber, rfl, (bw w_1_17 rfl), (bw w_1_15 rfl), (bw sp_3 rfl), by decide, Or.inl rfl⟩
theorem cv_2_114_2 : OkV 2 114 2 32 := ⟨_, _, me_X1_addClause, rfl, (bw w_1_22 rfl), (bw w_1_20 rfl), (bw sp_4 rfl), by decide, Or.inl rfl⟩
theorem cv_2_124_2 : OkV 2 124 2 33 := ⟨_, _, me_X1_readEither, rfl, (bw w_1_30 rfl), (bw w_1_28 rfl), (bw sp_5 rfl), by decide, Or.inl rfl⟩
theorem cv_2_127_8 : OkV 2 127 8 59 := ⟨_, _, me_X7_add, rfl, (bw w_0_175 rfl), (bw w_1_24 rfl), (bw w_0_176 rfl), by decide, Or.inl rfl⟩
theorem cv_2_131_2 : OkV 2 131 2 34 := ⟨_, _, me_X1_readFactor, rfl, (bw w_1_34 rfl), (bw w_1_32 rfl), (bw sp_6 rfl), by decide, Or.inl rfl⟩
theorem cv_2_134_2 : OkV 2 134 2 35 := ⟨_, _, me_X1_readBracket, rfl, (bw w_1_38 rfl), (bw w_1_36 rfl), (bw sp_7 rfl), by decide, Or.inl rfl⟩
theorem cv_2_137_2 : OkV 2 137 2 36 := ⟨_, _, me_X1_readTest, rfl, (bw w_1_42 rfl), (bw w_1_40 rfl), (bw sp_8 rfl), by decide, Or.inl rfl⟩
theorem ci_3_1_1 : OkP 3 1 1 10 := ⟨_, me_X0_init, rfl, (bw w_1_84 rfl), Or.inl ⟨rfl, rfl, Or.inl (bw w_1_191 rfl)⟩⟩
theorem ci_3_1_3 : OkP 3 1 3 10 := ⟨_, me_X0_init, rfl, (bw w_1_84 rfl), Or.inl ⟨rfl, rfl, Or.inl (bw w_1_191 rfl)⟩⟩
theorem ci_3_1_4 : OkP 3 1 4 10 := ⟨_, me_X0_init, rfl, (bw w_1_84 rfl), Or.inl ⟨rfl, rfl, Or.inl (bw w_1_191 rfl)⟩⟩
theorem ci_3_1_5 : OkP 3 1 5 10 := ⟨_, me_X0_init, rfl, (bw w_1_84 rfl), Or.inl ⟨rfl, rfl, Or.inl (bw w_1_191 rfl)⟩⟩
theorem ci_3_1_7 : OkP 3 1 7 10 := ⟨_, me_X0_init, rfl, (bw w_1_84 rfl), Or.inl ⟨rfl, rfl, Or.inl (bw w_1_191 rfl)⟩⟩
theorem ci_3_1_9 : OkP 3 1 9 10 := ⟨_, me_X0_init, rfl, (bw w_1_84 rfl), Or.inl ⟨rfl, rfl, Or.inl (bw w_1_191 rfl)⟩⟩
theorem ci_3_1_10 : OkP 3 1 10 10 := ⟨_, me_X0_init, rfl, (bw w_1_84 rfl), Or.inl ⟨rfl, rfl, Or.inl (bw w_1_191 rfl)⟩⟩
theorem cp_3_7_3 : OkP 3 7 3 15 := ⟨_, me_X0_spoken, rfl, (bw w_2_124 rfl), Or.inr ⟨by decide +kernel, by decide, "LaidQuarrel$Bottle", (bw w_1_198 rfl), Or.inl rfl, (bw w_2_130 rfl), (bw w_2_126 rfl)⟩⟩
theorem cp_3_7_10 : OkP 3 7 10 15 := ⟨_, me_X0_spoken, rfl, (bw w_2_124 rfl), Or.inr ⟨by decide +kernel, by decide, "LaidQuarrel$Bottle", (bw w_1_198 rfl), Or.inl rfl, (bw w_2_130 rfl), (bw w_2_126 rfl)⟩⟩
theorem cv_3_23_8 : OkV 3 23 8 59 := ⟨_, _, me_X7_add, rfl, (bw w_0_175 rfl), (bw w_3_221 rfl), (bw w_0_176 rfl), by decide, Or.inl rfl⟩
theorem cp_3_29_3 : OkP 3 29 3 18 := ⟨_, me_X0_tells, rfl, (bw w_3_215 rfl), Or.inr ⟨by decide +kernel, by decide, "LaidQuarrel$Bottle", (bw w_1_198 rfl), Or.inl rfl, (bw w_3_222 rfl), (bw w_3_217 rfl)⟩⟩
theorem cp_3_29_10 : OkP 3 29 10 18 := ⟨_, me_X0_tells, rfl, (bw w_3_215 rfl), Or.inr ⟨by decide +kernel, by decide, "LaidQuarrel$Bottle", (bw w_1_198 rfl), Or.inl rfl, (bw w_3_222 rfl), (bw w_3_217 rfl)⟩⟩
theorem ci_4_1_5 : OkP 4 1 5 47 := ⟨_, me_X4_init, rfl, (bw w_1_81 rfl), Or.inl ⟨rfl, rfl, Or.inl (bw w_1_204 rfl)⟩⟩
theorem ci_4_1_4 : OkP 4 1 4 47 := ⟨_, me_X4_init, rfl, (bw w_1_81 rfl), Or.inl ⟨rfl, rfl, Or.inl (bw w_1_204 rfl)⟩⟩
theorem cp_4_7_4 : OkP 4 7 4 48 := ⟨_, me_X4_spoken, rfl, (bw w_2_135 rfl), Or.inr ⟨by decide +kernel, by decide, "LaidQuarrel$Hard", (bw w_1_211 rfl), Or.inl rfl, (bw w_2_134 rfl), (bw w_6_29 rfl)⟩⟩
theorem cv_4_26_8 : OkV 4 26 8 59 := ⟨_, _, me_X7_add, rfl, (bw w_0_175 rfl), (bw w_3_226 rfl), (bw w_0_176 rfl), by decide, Or.inl rfl⟩
theorem cp_4_32_4 : OkP 4 32 4 18 := ⟨_, me_X0_tells, rfl, (bw w_3_215 rfl), Or.inr ⟨by decide +kernel, by decide, "LaidQuarrel$Hard", (bw w_1_211 rfl), Or.inr (bw w_1_172 rfl), (bw w_3_227 rfl), (bw w_3_228 rfl)⟩⟩
theorem cv_4_36_4 : OkV 4 36 4 49 := ⟨_, ⟨"LaidQuarrel$Feud", "utters", "(I)I"⟩, me_X4_utters, rfl, (bw w_3_176 rfl), (bw w_3_230 rfl), (bw w_3_233 rfl), by decide, Or.inr ⟨"LaidQuarrel$Hard", _, _, _, (bw w_3_231 rfl), (bw w_3_176 rfl), (bw w_3_177 rfl), ⟨by decide +kernel, by decide +kernel⟩, by decide +kernel⟩⟩
theorem ci_5_1_1 : OkP 5 1 1 10 := ⟨_, me_X0_init, rfl, (bw w_1_84 rfl), Or.inl ⟨rfl, rfl, Or.inl (bw w_1_83 rfl)⟩⟩
theorem ci_5_1_3 : OkP 5 1 3 10 := ⟨_, me_X0_init, rfl, (bw w_1_84 rfl), Or.inl ⟨rfl, rfl, Or.inl (bw w_1_83 rfl)⟩⟩
theorem ci_5_1_4 : OkP 5 1 4 10 := ⟨_, me_X0_init, rfl, (bw w_1_84 rfl), Or.inl ⟨rfl, rfl, Or.inl (bw w_1_83 rfl)⟩⟩
theorem ci_5_1_5 : OkP 5 1 5 10 := ⟨_, me_X0_init, rfl, (bw w_1_84 rfl), Or.inl ⟨rfl, rfl, Or.inl (bw w_1_83 rfl)⟩⟩
theorem ci_5_1_7 : OkP 5 1 7 10 := ⟨_, me_X0_init, rfl, (bw w_1_84 rfl), Or.inl ⟨rfl, rfl, Or.inl (bw w_1_83 rfl)⟩⟩
theorem ci_5_1_9 : OkP 5 1 9 10 := ⟨_, me_X0_init, rfl, (bw w_1_84 rfl), Or.inl ⟨rfl, rfl, Or.inl (bw w_1_83 rfl)⟩⟩
theorem ci_5_1_10 : OkP 5 1 10 10 := ⟨_, me_X0_init, rfl, (bw w_1_84 rfl), Or.inl ⟨rfl, rfl, Or.inl (bw w_1_83 rfl)⟩⟩
theorem cv_5_25_8 : OkV 5 25 8 59 := ⟨_, _, me_X7_add, rfl, (bw w_0_175 rfl), (bw w_3_178 rfl), (bw w_0_176 rfl), by decide, Or.inl rfl⟩
theorem cp_5_31_5 : OkP 5 31 5 16 := ⟨_, me_X0_utters, rfl, (bw w_3_171 rfl), Or.inr ⟨by decide +kernel, by decide, "LaidQuarrel$Bottle", (bw w_1_172 rfl), Or.inl rfl, (bw w_3_179 rfl), (bw w_3_173 rfl)⟩⟩
theorem cp_5_31_4 : OkP 5 31 4 16 := ⟨_, me_X0_utters, rfl, (bw w_3_171 rfl), Or.inr ⟨by decide +kernel, by decide, "LaidQuarrel$Bottle", (bw w_1_172 rfl), Or.inl rfl, (bw w_3_179 rfl), (bw w_3_173 rfl)⟩⟩
theorem ci_7_1_9 : OkP 7 1 9 67 := ⟨_, me_X8_init, rfl, (bw w_1_176 rfl), Or.inl ⟨rfl, rfl, Or.inl (bw w_1_217 rfl)⟩⟩
theorem ci_7_1_7 : OkP 7 1 7 67 := ⟨_, me_X8_init, rfl, (bw w_1_176 rfl), Or.inl ⟨rfl, rfl, Or.inl (bw w_1_217 rfl)⟩⟩
theorem cp_7_7_7 : OkP 7 7 7 68 := ⟨_, me_X8_spoken, rfl, (bw w_2_147 rfl), Or.inr ⟨by decide +kernel, by decide, "LaidQuarrel$Sweet", (bw w_1_224 rfl), Or.inl rfl, (bw w_2_146 rfl), (bw w_6_30 rfl)⟩⟩
theorem cv_7_29_8 : OkV 7 29 8 59 := ⟨_, _, me_X7_add, rfl, (bw w_0_175 rfl), (bw w_3_184 rfl), (bw w_0_176 rfl), by decide, Or.inl rfl⟩
theorem cp_7_35_7 : OkP 7 35 7 16 := ⟨_, me_X0_utters, rfl, (bw w_3_171 rfl), Or.inr ⟨by decide +kernel, by decide, "LaidQuarrel$Sweet", (bw w_1_224 rfl), Or.inr (bw w_1_185 rfl), (bw w_3_185 rfl), (bw w_3_186 rfl)⟩⟩
theorem ci_9_1_1 : OkP 9 1 1 10 := ⟨_, me_X0_init, rfl, (bw w_1_84 rfl), Or.inl ⟨rfl, rfl, Or.inl (bw w_1_178 rfl)⟩⟩
theorem ci_9_1_3 : OkP 9 1 3 10 := ⟨_, me_X0_init, rfl, (bw w_1_84 rfl), Or.inl ⟨rfl, rfl, Or.inl (bw w_1_178 rfl)⟩⟩
theorem ci_9_1_4 : OkP 9 1 4 10 := ⟨_, me_X0_init, rfl, (bw w_1_84 rfl), Or.inl ⟨rfl, rfl, Or.inl (bw w_1_178 rfl)⟩⟩
theorem ci_9_1_5 : OkP 9 1 5 10 := ⟨_, me_X0_init, rfl, (bw w_1_84 rfl), Or.inl ⟨rfl, rfl, Or.inl (bw w_1_178 rfl)⟩⟩
theorem ci_9_1_7 : OkP 9 1 7 10 := ⟨_, me_X0_init, rfl, (bw w_1_84 rfl), Or.inl ⟨rfl, rfl, Or.inl (bw w_1_178 rfl)⟩⟩
theorem ci_9_1_9 : OkP 9 1 9 10 := ⟨_, me_X0_init, rfl, (bw w_1_84 rfl), Or.inl ⟨rfl, rfl, Or.inl (bw w_1_178 rfl)⟩⟩
theorem ci_9_1_10 : OkP 9 1 10 10 := ⟨_, me_X0_init, rfl, (bw w_1_84 rfl), Or.inl ⟨rfl, rfl, Or.inl (bw w_1_178 rfl)⟩⟩
theorem cv_9_25_8 : OkV 9 25 8 59 := ⟨_, _, me_X7_add, rfl, (bw w_0_175 rfl), (bw w_3_202 rfl), (bw w_0_176 rfl), by decide, Or.inl rfl⟩
theorem cp_9_31_9 : OkP 9 31 9 17 := ⟨_, me_X0_keeps, rfl, (bw w_3_193 rfl), Or.inr ⟨by decide +kernel, by decide, "LaidQuarrel$Bottle", (bw w_1_185 rfl), Or.inl rfl, (bw w_3_203 rfl), (bw w_3_195 rfl)⟩⟩
theorem cp_9_31_7 : OkP 9 31 7 17 := ⟨_, me_X0_keeps, rfl, (bw w_3_193 rfl), Or.inr ⟨by decide +kernel, by decide, "LaidQuarrel$Bottle", (bw w_1_185 rfl), Or.inl rfl, (bw w_3_203 rfl), (bw w_3_195 rfl)⟩⟩
theorem ci_10_1_3 : OkP 10 1 3 41 := ⟨_, me_X2_init, rfl, (bw w_1_189 rfl), Or.inl ⟨rfl, rfl, Or.inl (bw w_1_230 rfl)⟩⟩
theorem ci_10_1_10 : OkP 10 1 10 41 := ⟨_, me_X2_init, rfl, (bw w_1_189 rfl), Or.inl ⟨rfl, rfl, Or.inl (bw w_1_230 rfl)⟩⟩
theorem cp_10_7_10 : OkP 10 7 10 42 := ⟨_, me_X2_spoken, rfl, (bw w_2_128 rfl), Or.inr ⟨by decide +kernel, by decide, "LaidQuarrel$Corked", (bw w_1_237 rfl), Or.inl rfl, (bw w_2_154 rfl), (bw w_6_31 rfl)⟩⟩
theorem cv_10_11_6 : OkV 10 11 6 54 := ⟨_, _, me_X5_telling, rfl, (bw w_2_156 rfl), (bw w_2_155 rfl), (bw w_2_157 rfl), by decide, Or.inl rfl⟩
theorem cv_10_23_8 : OkV 10 23 8 59 := ⟨_, _, me_X7_add, rfl, (bw w_0_175 rfl), (bw w_3_208 rfl), (bw w_0_176 rfl), by decide, Or.inl rfl⟩
theorem cp_10_29_10 : OkP 10 29 10 17 := ⟨_, me_X0_keeps, rfl, (bw w_3_193 rfl), Or.inr ⟨by decide +kernel, by decide, "LaidQuarrel$Corked", (bw w_1_237 rfl), Or.inr (bw w_1_198 rfl), (bw w_3_209 rfl), (bw w_3_210 rfl)⟩⟩
theorem ci_11_13_8 : OkP 11 13 8 58 := ⟨_, me_X7_init, rfl, (bw w_0_37 rfl), Or.inl ⟨rfl, rfl, Or.inl (bw w_0_36 rfl)⟩⟩
theorem ci_11_46_2 : OkP 11 46 2 19 := ⟨_, me_X1_init, rfl, (bw w_0_65 rfl), Or.inl ⟨rfl, rfl, Or.inl (bw w_0_64 rfl)⟩⟩
theorem ci_11_58_0 : OkP 11 58 0 0 := ⟨_, me_Jx4a65c_init_da8c8, rfl, (bw w_0_89 rfl), Or.inl ⟨rfl, rfl, Or.inl (bw w_0_88 rfl)⟩⟩
theorem cv_11_78_2 : OkV 11 78 2 30 := ⟨_, _, me_X1_readText, rfl, (bw w_0_183 rfl), (bw w_0_182 rfl), (bw w_0_184 rfl), by decide, Or.inl rfl⟩
theorem cv_11_82_8 : OkV 11 82 8 62 := ⟨_, _, me_X7_clear, rfl, (bw w_0_187 rfl), (bw w_1_47 rfl), (bw w_0_188 rfl), by decide, Or.inl rfl⟩
theorem cv_11_85_2 : OkV 11 85 2 20 := ⟨_, _, me_X1_copyFrom, rfl, (bw w_1_49 rfl), (bw w_1_48 rfl), (bw w_1_50 rfl), by decide, Or.inl rfl⟩
theorem cf_11_89_0 : OkF 11 89 0 3 := ⟨_, ⟨"java/util/List", "size", "()I"⟩, me_Jx4a65c_size_8abf5, rfl, rfl, (bw w_1_71 rfl), (bw w_1_65 rfl), (bw w_1_69 rfl), by decide +kernel, by decide +kernel⟩
theorem cv_11_94_11 : OkV 11 94 11 121 := ⟨_, _, me_X10_madeOf, rfl, (bw w_1_76 rfl), (bw w_1_74 rfl), (bw sp_9 rfl), by decide, Or.inl rfl⟩
theorem cf_11_112_0 : OkF 11 112 0 7 := ⟨_, ⟨"java/util/List", "add", "(Ljava/lang/Object;)Z"⟩, me_Jx4a65c_add_9ea2d, rfl, rfl, (bw w_2_14 rfl), (bw w_2_9 rfl), (bw w_2_12 rfl), by decide +kernel, by decide +kernel⟩
theorem cv_11_119_8 : OkV 11 119 8 59 := ⟨_, _, me_X7_add, rfl, (bw w_0_175 rfl), (bw w_0_174 rfl), (bw w_0_176 rfl), by decide, Or.inl rfl⟩
theorem cv_11_124_11 : OkV 11 124 11 120 := ⟨_, _, me_X10_bottleAt, rfl, (bw w_2_81 rfl), (bw w_2_79 rfl), (bw sp_13 rfl), by decide, Or.inl rfl⟩
theorem cv_11_140_2 : OkV 11 140 2 26 := ⟨_, _, me_X1_softOf, rfl, (bw w_2_101 rfl), (bw w_2_100 rfl), (bw w_2_102 rfl), by decide, Or.inl rfl⟩
theorem cv_11_144_11 : OkV 11 144 11 122 := ⟨_, _, me_X10_says, rfl, (bw w_2_121 rfl), (bw w_2_119 rfl), (bw sp_16 rfl), by decide, Or.inl rfl⟩
theorem cv_11_147_6 : OkV 11 147 6 53 := ⟨_, _, me_X5_tell, rfl, (bw w_2_166 rfl), (bw w_2_165 rfl), (bw w_2_167 rfl), by decide, Or.inl rfl⟩
theorem cv_11_151_11 : OkV 11 151 11 119 := ⟨_, _, me_X10_isGuest, rfl, (bw w_2_179 rfl), (bw w_2_177 rfl), (bw sp_17 rfl), by decide, Or.inl rfl⟩
theorem cv_11_155_8 : OkV 11 155 8 60 := ⟨_, _, me_X7_at, rfl, (bw w_0_199 rfl), (bw w_2_181 rfl), (bw w_0_200 rfl), by decide, Or.inl rfl⟩
theorem cv_11_161_2 : OkV 11 161 2 23 := ⟨_, _, me_X1_calm, rfl, (bw w_2_187 rfl), (bw w_2_186 rfl), (bw w_2_188 rfl), by decide, Or.inl rfl⟩
theorem cv_11_164_2 : OkV 11 164 2 24 := ⟨_, _, me_X1_peace, rfl, (bw w_2_195 rfl), (bw w_2_194 rfl), (bw w_2_196 rfl), by decide, Or.inl rfl⟩
theorem cv_11_167_11 : OkV 11 167 11 124 := ⟨_, _, me_X10_fullOnes, rfl, (bw w_2_200 rfl), (bw w_2_198 rfl), (bw sp_19 rfl), by decide, Or.inl rfl⟩
theorem cv_11_170_11 : OkV 11 170 11 123 := ⟨_, _, me_X10_allSay, rfl, (bw w_2_204 rfl), (bw w_2_202 rfl), (bw sp_20 rfl), by decide, Or.inl rfl⟩
theorem cf_11_182_0 : OkF 11 182 0 5 := ⟨_, ⟨"java/util/List", "get", "(I)Ljava/lang/Object;"⟩, me_Jx4a65c_get_915e3, rfl, rfl, (bw w_2_89 rfl), (bw w_2_84 rfl), (bw w_2_87 rfl), by decide +kernel, by decide +kernel⟩
theorem cv_11_186_6 : OkV 11 186 6 52 := ⟨_, _, me_X5_age, rfl, (bw w_2_223 rfl), (bw w_3_12 rfl), (bw w_2_224 rfl), by decide, Or.inl rfl⟩
theorem cv_11_190_11 : OkV 11 190 11 128 := ⟨_, _, me_X10_calmDown, rfl, (bw w_3_15 rfl), (bw w_3_13 rfl), (bw sp_21 rfl), by decide, Or.inl rfl⟩
theorem cv_11_194_1 : OkV 11 194 1 14 := ⟨_, _, me_X0_tryBehind, rfl, (bw w_2_207 rfl), (bw w_2_206 rfl), (bw w_2_208 rfl), by decide, Or.inl rfl⟩
theorem cv_11_194_3 : OkV 11 194 3 14 := ⟨_, ⟨"LaidQuarrel$Bottle", "tryBehind", "(I)LLaidQuarrel$Laid;"⟩, me_X0_tryBehind, rfl, (bw w_2_207 rfl), (bw w_2_206 rfl), (bw w_2_210 rfl), by decide, Or.inr ⟨"LaidQuarrel$Bottle", _, _, _, (bw w_2_209 rfl), (bw w_2_207 rfl), (bw w_2_216 rfl), ⟨by decide +kernel, by decide +kernel⟩, by decide +kernel⟩⟩
theorem cv_11_194_4 : OkV 11 194 4 14 := ⟨_, ⟨"LaidQuarrel$Bottle", "tryBehind", "(I)LLaidQuarrel$Laid;"⟩, me_X0_tryBehind, rfl, (bw w_2_207 rfl), (bw w_2_206 rfl), (bw w_2_211 rfl), by decide, Or.inr ⟨"LaidQuarrel$Bottle", _, _, _, (bw w_2_209 rfl), (bw w_2_207 rfl), (bw w_2_216 rfl), ⟨by decide +kernel, by decide +kernel⟩, by decide +kernel⟩⟩
theorem cv_11_194_5 : OkV 11 194 5 14 := ⟨_, ⟨"LaidQuarrel$Bottle", "tryBehind", "(I)LLaidQuarrel$Laid;"⟩, me_X0_tryBehind, rfl, (bw w_2_207 rfl), (bw w_2_206 rfl), (bw w_2_212 rfl), by decide, Or.inr ⟨"LaidQuarrel$Bottle", _, _, _, (bw w_2_209 rfl), (bw w_2_207 rfl), (bw w_2_216 rfl), ⟨by decide +kernel, by decide +kernel⟩, by decide +kernel⟩⟩
theorem cv_11_194_7 : OkV 11 194 7 14 := ⟨_, ⟨"LaidQuarrel$Bottle", "tryBehind", "(I)LLaidQuarrel$Laid;"⟩, me_X0_tryBehind, rfl, (bw w_2_207 rfl), (bw w_2_206 rfl), (bw w_2_213 rfl), by decide, Or.inr ⟨"LaidQuarrel$Bottle", _, _, _, (bw w_2_209 rfl), (bw w_2_207 rfl), (bw w_2_216 rfl), ⟨by decide +kernel, by decide +kernel⟩, by decide +kernel⟩⟩
theorem cv_11_194_9 : OkV 11 194 9 14 := ⟨_, ⟨"LaidQuarrel$Bottle", "tryBehind", "(I)LLaidQuarrel$Laid;"⟩, me_X0_tryBehind, rfl, (bw w_2_207 rfl), (bw w_2_206 rfl), (bw w_2_214 rfl), by decide, Or.inr ⟨"LaidQuarrel$Bottle", _, _, _, (bw w_2_209 rfl), (bw w_2_207 rfl), (bw w_2_216 rfl), ⟨by decide +kernel, by decide +kernel⟩, by decide +kernel⟩⟩
theorem cv_11_194_10 : OkV 11 194 10 14 := ⟨_, ⟨"LaidQuarrel$Bottle", "tryBehind", "(I)LLaidQuarrel$Laid;"⟩, me_X0_tryBehind, rfl, (bw w_2_207 rfl), (bw w_2_206 rfl), (bw w_2_215 rfl), by decide, Or.inr ⟨"LaidQuarrel$Bottle", _, _, _, (bw w_2_209 rfl), (bw w_2_207 rfl), (bw w_2_216 rfl), ⟨by decide +kernel, by decide +kernel⟩, by decide +kernel⟩⟩
theorem cv_11_198_8 : OkV 11 198 8 63 := ⟨_, _, me_X7_copyFrom, rfl, (bw w_1_53 rfl), (bw w_3_22 rfl), (bw w_1_54 rfl), by decide, Or.inl rfl⟩
theorem cv_11_200_1 : OkV 11 200 1 13 := ⟨_, _, me_X0_tryNow, rfl, (bw w_3_36 rfl), (bw w_3_35 rfl), (bw w_3_37 rfl), by decide, Or.inl rfl⟩
theorem cv_11_200_3 : OkV 11 200 3 13 := ⟨_, ⟨"LaidQuarrel$Bottle", "tryNow", "()LLaidQuarrel$Laid;"⟩, me_X0_tryNow, rfl, (bw w_3_36 rfl), (bw w_3_35 rfl), (bw w_3_39 rfl), by decide, Or.inr ⟨"LaidQuarrel$Bottle", _, _, _, (bw w_3_38 rfl), (bw w_3_36 rfl), (bw w_3_45 rfl), ⟨by decide +kernel, by decide +kernel⟩, by decide +kernel⟩⟩
theorem cv_11_200_4 : OkV 11 200 4 13 := ⟨_, ⟨"LaidQuarrel$Bottle", "tryNow", "()LLaidQuarrel$Laid;"⟩, me_X0_tryNow, rfl, (bw w_3_36 rfl), (bw w_3_35 rfl), (bw w_3_40 rfl), by decide, Or.inr ⟨"LaidQuarrel$Bottle", _, _, _, (bw w_3_38 rfl), (bw w_3_36 rfl), (bw w_3_45 rfl), ⟨by decide +kernel, by decide +kernel⟩, by decide +kernel⟩⟩
theorem cv_11_200_5 : OkV 11 200 5 13 := ⟨_, ⟨"LaidQuarrel$Bottle", "tryNow", "()LLaidQuarrel$Laid;"⟩, me_X0_tryNow, rfl, (bw w_3_36 rfl), (bw w_3_35 rfl), (bw w_3_41 rfl), by decide, Or.inr ⟨"LaidQuarrel$Bottle", _, _, _, (bw w_3_38 rfl), (bw w_3_36 rfl), (bw w_3_45 rfl), ⟨by decide +kernel, by decide +kernel⟩, by decide +kernel⟩⟩
theorem cv_11_200_7 : OkV 11 200 7 13 := ⟨_, ⟨"LaidQuarrel$Bottle", "tryNow", "()LLaidQuarrel$Laid;"⟩, me_X0_tryNow, rfl, (bw w_3_36 rfl), (bw w_3_35 rfl), (bw w_3_42 rfl), by decide, Or.inr ⟨"LaidQuarrel$Bottle", _, _, _, (bw w_3_38 rfl), (bw w_3_36 rfl), (bw w_3_45 rfl), ⟨by decide +kernel, by decide +kernel⟩, by decide +kernel⟩⟩
theorem cv_11_200_9 : OkV 11 200 9 13 := ⟨_, ⟨"LaidQuarrel$Bottle", "tryNow", "()LLaidQuarrel$Laid;"⟩, me_X0_tryNow, rfl, (bw w_3_36 rfl), (bw w_3_35 rfl), (bw w_3_43 rfl), by decide, Or.inr ⟨"LaidQuarrel$Bottle", _, _, _, (bw w_3_38 rfl), (bw w_3_36 rfl), (bw w_3_45 rfl), ⟨by decide +kernel, by decide +kernel⟩, by decide +kernel⟩⟩
theorem cv_11_200_10 : OkV 11 200 10 13 := ⟨_, ⟨"LaidQuarrel$Bottle", "tryNow", "()LLaidQuarrel$Laid;"⟩, me_X0_tryNow, rfl, (bw w_3_36 rfl), (bw w_3_35 rfl), (bw w_3_44 rfl), by decide, Or.inr ⟨"LaidQuarrel$Bottle", _, _, _, (bw w_3_38 rfl), (bw w_3_36 rfl), (bw w_3_45 rfl), ⟨by decide +kernel, by decide +kernel⟩, by decide +kernel⟩⟩
theorem cv_11_204_11 : OkV 11 204 11 125 := ⟨_, _, me_X10_hearAll, rfl, (bw w_3_52 rfl), (bw w_3_50 rfl), (bw sp_22 rfl), by decide, Or.inl rfl⟩
theorem cv_11_212_11 : OkV 11 212 11 126 := ⟨_, _, me_X10_saidBy, rfl, (bw w_3_62 rfl), (bw w_3_60 rfl), (bw sp_23 rfl), by decide, Or.inl rfl⟩
theorem cv_11_230_11 : OkV 11 230 11 131 := ⟨_, _, me_X10_countPairs, rfl, (bw w_3_88 rfl), (bw w_3_86 rfl), (bw sp_24 rfl), by decide, Or.inl rfl⟩
theorem cv_11_233_11 : OkV 11 233 11 133 := ⟨_, _, me_X10_partnerOf, rfl, (bw w_3_100 rfl), (bw w_3_98 rfl), (bw sp_26 rfl), by decide, Or.inl rfl⟩
theorem cv_11_236_11 : OkV 11 236 11 135 := ⟨_, _, me_X10_allSeenIsSo, rfl, (bw w_3_120 rfl), (bw w_3_118 rfl), (bw sp_28 rfl), by decide, Or.inl rfl⟩
theorem cv_11_248_11 : OkV 11 248 11 136 := ⟨_, _, me_X10_tryRow, rfl, (bw w_3_152 rfl), (bw w_3_150 rfl), (bw sp_29 rfl), by decide, Or.inl rfl⟩
theorem cv_11_252_11 : OkV 11 252 11 137 := ⟨_, _, me_X10_allSayAsTried, rfl, (bw w_3_156 rfl), (bw w_3_154 rfl), (bw sp_30 rfl), by decide, Or.inl rfl⟩
theorem cv_11_255_1 : OkV 11 255 1 16 := ⟨_, _, me_X0_utters, rfl, (bw w_3_171 rfl), (bw w_3_170 rfl), (bw w_3_172 rfl), by decide, Or.inl rfl⟩
theorem cv_11_255_3 : OkV 11 255 3 16 := ⟨_, ⟨"LaidQuarrel$Bottle", "utters", "(I)I"⟩, me_X0_utters, rfl, (bw w_3_171 rfl), (bw w_3_170 rfl), (bw w_3_174 rfl), by decide, Or.inr ⟨"LaidQuarrel$Bottle", _, _, _, (bw w_3_173 rfl), (bw w_3_171 rfl), (bw w_3_190 rfl), ⟨by decide +kernel, by decide +kernel⟩, by decide +kernel⟩⟩
theorem cv_11_255_4 : OkV 11 255 4 49 := ⟨_, ⟨"LaidQuarrel$Bottle", "utters", "(I)I"⟩, me_X4_utters, rfl, (bw w_3_176 rfl), (bw w_3_170 rfl), (bw w_3_175 rfl), by decide, Or.inr ⟨"LaidQuarrel$Bottle", _, _, _, (bw w_3_173 rfl), (bw w_3_171 rfl), (bw w_3_190 rfl), ⟨by decide +kernel, by decide +kernel⟩, by decide +kernel⟩⟩
theorem cv_11_255_5 : OkV 11 255 5 49 := ⟨_, ⟨"LaidQuarrel$Bottle", "utters", "(I)I"⟩, me_X4_utters, rfl, (bw w_3_176 rfl), (bw w_3_170 rfl), (bw w_3_180 rfl), by decide, Or.inr ⟨"LaidQuarrel$Bottle", _, _, _, (bw w_3_173 rfl), (bw w_3_171 rfl), (bw w_3_190 rfl), ⟨by decide +kernel, by decide +kernel⟩, by decide +kernel⟩⟩
theorem cv_11_255_7 : OkV 11 255 7 57 := ⟨_, ⟨"LaidQuarrel$Bottle", "utters", "(I)I"⟩, me_X6_utters, rfl, (bw w_3_182 rfl), (bw w_3_170 rfl), (bw w_3_181 rfl), by decide, Or.inr ⟨"LaidQuarrel$Bottle", _, _, _, (bw w_3_173 rfl), (bw w_3_171 rfl), (bw w_3_190 rfl), ⟨by decide +kernel, by decide +kernel⟩, by decide +kernel⟩⟩
theorem cv_11_255_9 : OkV 11 255 9 16 := ⟨_, ⟨"LaidQuarrel$Bottle", "utters", "(I)I"⟩, me_X0_utters, rfl, (bw w_3_171 rfl), (bw w_3_170 rfl), (bw w_3_188 rfl), by decide, Or.inr ⟨"LaidQuarrel$Bottle", _, _, _, (bw w_3_173 rfl), (bw w_3_171 rfl), (bw w_3_190 rfl), ⟨by decide +kernel, by decide +kernel⟩, by decide +kernel⟩⟩
theorem cv_11_255_10 : OkV 11 255 10 16 := ⟨_, ⟨"LaidQuarrel$Bottle", "utters", "(I)I"⟩, me_X0_utters, rfl, (bw w_3_171 rfl), (bw w_3_170 rfl), (bw w_3_189 rfl), by decide, Or.inr ⟨"LaidQuarrel$Bottle", _, _, _, (bw w_3_173 rfl), (bw w_3_171 rfl), (bw w_3_190 rfl), ⟨by decide +kernel, by decide +kernel⟩, by decide +kernel⟩⟩
theorem cv_11_258_1 : OkV 11 258 1 17 := ⟨_, _, me_X0_keeps, rfl, (bw w_3_193 rfl), (bw w_3_192 rfl), (bw w_3_194 rfl), by decide, Or.inl rfl⟩
theorem cv_11_258_3 : OkV 11 258 3 17 := ⟨_, ⟨"LaidQuarrel$Bottle", "keeps", "(I)I"⟩, me_X0_keeps, rfl, (bw w_3_193 rfl), (bw w_3_192 rfl), (bw w_3_196 rfl), by decide, Or.inr ⟨"LaidQuarrel$Bottle", _, _, _, (bw w_3_195 rfl), (bw w_3_193 rfl), (bw w_3_212 rfl), ⟨by decide +kernel, by decide +kernel⟩, by decide +kernel⟩⟩
theorem cv_11_258_4 : OkV 11 258 4 17 := ⟨_, ⟨"LaidQuarrel$Bottle", "keeps", "(I)I"⟩, me_X0_keeps, rfl, (bw w_3_193 rfl), (bw w_3_192 rfl), (bw w_3_197 rfl), by decide, Or.inr ⟨"LaidQuarrel$Bottle", _, _, _, (bw w_3_195 rfl), (bw w_3_193 rfl), (bw w_3_212 rfl), ⟨by decide +kernel, by decide +kernel⟩, by decide +kernel⟩⟩
theorem cv_11_258_5 : OkV 11 258 5 17 := ⟨_, ⟨"LaidQuarrel$Bottle", "keeps", "(I)I"⟩, me_X0_keeps, rfl, (bw w_3_193 rfl), (bw w_3_192 rfl), (bw w_3_198 rfl), by decide, Or.inr ⟨"LaidQuarrel$Bottle", _, _, _, (bw w_3_195 rfl), (bw w_3_193 rfl), (bw w_3_212 rfl), ⟨by decide +kernel, by decide +kernel⟩, by decide +kernel⟩⟩
theorem cv_11_258_7 : OkV 11 258 7 69 := ⟨_, ⟨"LaidQuarrel$Bottle", "keeps", "(I)I"⟩, me_X8_keeps, rfl, (bw w_3_200 rfl), (bw w_3_192 rfl), (bw w_3_199 rfl), by decide, Or.inr ⟨"LaidQuarrel$Bottle", _, _, _, (bw w_3_195 rfl), (bw w_3_193 rfl), (bw w_3_212 rfl), ⟨by decide +kernel, by decide +kernel⟩, by decide +kernel⟩⟩
theorem cv_11_258_9 : OkV 11 258 9 69 := ⟨_, ⟨"LaidQuarrel$Bottle", "keeps", "(I)I"⟩, me_X8_keeps, rfl, (bw w_3_200 rfl), (bw w_3_192 rfl), (bw w_3_204 rfl), by decide, Or.inr ⟨"LaidQuarrel$Bottle", _, _, _, (bw w_3_195 rfl), (bw w_3_193 rfl), (bw w_3_212 rfl), ⟨by decide +kernel, by decide +kernel⟩, by decide +kernel⟩⟩
theorem cv_11_258_10 : OkV 11 258 10 72 := ⟨_, ⟨"LaidQuarrel$Bottle", "keeps", "(I)I"⟩, me_X9_keeps, rfl, (bw w_3_206 rfl), (bw w_3_192 rfl), (bw w_3_205 rfl), by decide, Or.inr ⟨"LaidQuarrel$Bottle", _, _, _, (bw w_3_195 rfl), (bw w_3_193 rfl), (bw w_3_212 rfl), ⟨by decide +kernel, by decide +kernel⟩, by decide +kernel⟩⟩
theorem cv_11_261_1 : OkV 11 261 1 18 := ⟨_, _, me_X0_tells, rfl, (bw w_3_215 rfl), (bw w_3_214 rfl), (bw w_3_216 rfl), by decide, Or.inl rfl⟩
theorem cv_11_261_3 : OkV 11 261 3 43 := ⟨_, ⟨"LaidQuarrel$Bottle", "tells", "(I)I"⟩, me_X2_tells, rfl, (bw w_3_219 rfl), (bw w_3_214 rfl), (bw w_3_218 rfl), by decide, Or.inr ⟨"LaidQuarrel$Bottle", _, _, _, (bw w_3_217 rfl), (bw w_3_215 rfl), (bw w_3_238 rfl), ⟨by decide +kernel, by decide +kernel⟩, by decide +kernel⟩⟩
theorem cv_11_261_4 : OkV 11 261 4 46 := ⟨_, ⟨"LaidQuarrel$Bottle", "tells", "(I)I"⟩, me_X3_tells, rfl, (bw w_3_224 rfl), (bw w_3_214 rfl), (bw w_3_223 rfl), by decide, Or.inr ⟨"LaidQuarrel$Bottle", _, _, _, (bw w_3_217 rfl), (bw w_3_215 rfl), (bw w_3_238 rfl), ⟨by decide +kernel, by decide +kernel⟩, by decide +kernel⟩⟩
theorem cv_11_261_5 : OkV 11 261 5 18 := ⟨_, ⟨"LaidQuarrel$Bottle", "tells", "(I)I"⟩, me_X0_tells, rfl, (bw w_3_215 rfl), (bw w_3_214 rfl), (bw w_3_234 rfl), by decide, Or.inr ⟨"LaidQuarrel$Bottle", _, _, _, (bw w_3_217 rfl), (bw w_3_215 rfl), (bw w_3_238 rfl), ⟨by decide +kernel, by decide +kernel⟩, by decide +kernel⟩⟩
theorem cv_11_261_7 : OkV 11 261 7 18 := ⟨_, ⟨"LaidQuarrel$Bottle", "tells", "(I)I"⟩, me_X0_tells, rfl, (bw w_3_215 rfl), (bw w_3_214 rfl), (bw w_3_235 rfl), by decide, Or.inr ⟨"LaidQuarrel$Bottle", _, _, _, (bw w_3_217 rfl), (bw w_3_215 rfl), (bw w_3_238 rfl), ⟨by decide +kernel, by decide +kernel⟩, by decide +kernel⟩⟩
theorem cv_11_261_9 : OkV 11 261 9 18 := ⟨_, ⟨"LaidQuarrel$Bottle", "tells", "(I)I"⟩, me_X0_tells, rfl, (bw w_3_215 rfl), (bw w_3_214 rfl), (bw w_3_236 rfl), by decide, Or.inr ⟨"LaidQuarrel$Bottle", _, _, _, (bw w_3_217 rfl), (bw w_3_215 rfl), (bw w_3_238 rfl), ⟨by decide +kernel, by decide +kernel⟩, by decide +kernel⟩⟩
theorem cv_11_261_10 : OkV 11 261 10 43 := ⟨_, ⟨"LaidQuarrel$Bottle", "tells", "(I)I"⟩, me_X2_tells, rfl, (bw w_3_219 rfl), (bw w_3_214 rfl), (bw w_3_237 rfl), by decide, Or.inr ⟨"LaidQuarrel$Bottle", _, _, _, (bw w_3_217 rfl), (bw w_3_215 rfl), (bw w_3_238 rfl), ⟨by decide +kernel, by decide +kernel⟩, by decide +kernel⟩⟩
theorem cv_11_267_8 : OkV 11 267 8 64 := ⟨_, _, me_X7_keep, rfl, (bw w_4_16 rfl), (bw w_4_15 rfl), (bw w_4_17 rfl), by decide, Or.inl rfl⟩
theorem cv_11_270_2 : OkV 11 270 2 21 := ⟨_, _, me_X1_keep, rfl, (bw w_4_20 rfl), (bw w_4_19 rfl), (bw w_4_21 rfl), by decide, Or.inl rfl⟩
theorem cv_11_271_1 : OkV 11 271 1 11 := ⟨_, _, me_X0_keep, rfl, (bw w_4_25 rfl), (bw w_4_24 rfl), (bw w_4_26 rfl), by decide, Or.inl rfl⟩
theorem cv_11_271_3 : OkV 11 271 3 11 := ⟨_, ⟨"LaidQuarrel$Bottle", "keep", "()V"⟩, me_X0_keep, rfl, (bw w_4_25 rfl), (bw w_4_24 rfl), (bw w_4_28 rfl), by decide, Or.inr ⟨"LaidQuarrel$Bottle", _, _, _, (bw w_4_27 rfl), (bw w_4_25 rfl), (bw w_4_34 rfl), ⟨by decide +kernel, by decide +kernel⟩, by decide +kernel⟩⟩
theorem cv_11_271_4 : OkV 11 271 4 11 := ⟨_, ⟨"LaidQuarrel$Bottle", "keep", "()V"⟩, me_X0_keep, rfl, (bw w_4_25 rfl), (bw w_4_24 rfl), (bw w_4_29 rfl), by decide, Or.inr ⟨"LaidQuarrel$Bottle", _, _, _, (bw w_4_27 rfl), (bw w_4_25 rfl), (bw w_4_34 rfl), ⟨by decide +kernel, by decide +kernel⟩, by decide +kernel⟩⟩
theorem cv_11_271_5 : OkV 11 271 5 11 := ⟨_, ⟨"LaidQuarrel$Bottle", "keep", "()V"⟩, me_X0_keep, rfl, (bw w_4_25 rfl), (bw w_4_24 rfl), (bw w_4_30 rfl), by decide, Or.inr ⟨"LaidQuarrel$Bottle", _, _, _, (bw w_4_27 rfl), (bw w_4_25 rfl), (bw w_4_34 rfl), ⟨by decide +kernel, by decide +kernel⟩, by decide +kernel⟩⟩
theorem cv_11_271_7 : OkV 11 271 7 11 := ⟨_, ⟨"LaidQuarrel$Bottle", "keep", "()V"⟩, me_X0_keep, rfl, (bw w_4_25 rfl), (bw w_4_24 rfl), (bw w_4_31 rfl), by decide, Or.inr ⟨"LaidQuarrel$Bottle", _, _, _, (bw w_4_27 rfl), (bw w_4_25 rfl), (bw w_4_34 rfl), ⟨by decide +kernel, by decide +kernel⟩, by decide +kernel⟩⟩
theorem cv_11_271_9 : OkV 11 271 9 11 := ⟨_, ⟨"LaidQuarrel$Bottle", "keep", "()V"⟩, me_X0_keep, rfl, (bw w_4_25 rfl), (bw w_4_24 rfl), (bw w_4_32 rfl), by decide, Or.inr ⟨"LaidQuarrel$Bottle", _, _, _, (bw w_4_27 rfl), (bw w_4_25 rfl), (bw w_4_34 rfl), ⟨by decide +kernel, by decide +kernel⟩, by decide +kernel⟩⟩
theorem cv_11_271_10 : OkV 11 271 10 11 := ⟨_, ⟨"LaidQuarrel$Bottle", "keep", "()V"⟩, me_X0_keep, rfl, (bw w_4_25 rfl), (bw w_4_24 rfl), (bw w_4_33 rfl), by decide, Or.inr ⟨"LaidQuarrel$Bottle", _, _, _, (bw w_4_27 rfl), (bw w_4_25 rfl), (bw w_4_34 rfl), ⟨by decide +kernel, by decide +kernel⟩, by decide +kernel⟩⟩
theorem cv_11_278_8 : OkV 11 278 8 65 := ⟨_, _, me_X7_restore, rfl, (bw w_4_40 rfl), (bw w_4_39 rfl), (bw w_4_41 rfl), by decide, Or.inl rfl⟩
theorem cv_11_281_2 : OkV 11 281 2 22 := ⟨_, _, me_X1_restore, rfl, (bw w_4_44 rfl), (bw w_4_43 rfl), (bw w_4_45 rfl), by decide, Or.inl rfl⟩
theorem cf_11_282_0 : OkF 11 282 0 8 := ⟨_, ⟨"java/util/List", "remove", "(I)Ljava/lang/Object;"⟩, me_Jx4a65c_remove_915e3, rfl, rfl, (bw w_4_54 rfl), (bw w_4_49 rfl), (bw w_4_52 rfl), by decide +kernel, by decide +kernel⟩
theorem cv_11_285_1 : OkV 11 285 1 12 := ⟨_, _, me_X0_restore, rfl, (bw w_4_63 rfl), (bw w_4_62 rfl), (bw w_4_64 rfl), by decide, Or.inl rfl⟩
theorem cv_11_285_3 : OkV 11 285 3 12 := ⟨_, ⟨"LaidQuarrel$Bottle", "restore", "()V"⟩, me_X0_restore, rfl, (bw w_4_63 rfl), (bw w_4_62 rfl), (bw w_4_66 rfl), by decide, Or.inr ⟨"LaidQuarrel$Bottle", _, _, _, (bw w_4_65 rfl), (bw w_4_63 rfl), (bw w_4_72 rfl), ⟨by decide +kernel, by decide +kernel⟩, by decide +kernel⟩⟩
theorem cv_11_285_4 : OkV 11 285 4 12 := ⟨_, ⟨"LaidQuarrel$Bottle", "restore", "()V"⟩, me_X0_restore, rfl, (bw w_4_63 rfl), (bw w_4_62 rfl), (bw w_4_67 rfl), by decide, Or.inr ⟨"LaidQuarrel$Bottle", _, _, _, (bw w_4_65 rfl), (bw w_4_63 rfl), (bw w_4_72 rfl), ⟨by decide +kernel, by decide +kernel⟩, by decide +kernel⟩⟩
theorem cv_11_285_5 : OkV 11 285 5 12 := ⟨_, ⟨"LaidQuarrel$Bottle", "restore", "()V"⟩, me_X0_restore, rfl, (bw w_4_63 rfl), (bw w_4_62 rfl), (bw w_4_68 rfl), by decide, Or.inr ⟨"LaidQuarrel$Bottle", _, _, _, (bw w_4_65 rfl), (bw w_4_63 rfl), (bw w_4_72 rfl), ⟨by decide +kernel, by decide +kernel⟩, by decide +kernel⟩⟩
theorem cv_11_285_7 : OkV 11 285 7 12 := ⟨_, ⟨"LaidQuarrel$Bottle", "restore", "()V"⟩, me_X0_restore, rfl, (bw w_4_63 rfl), (bw w_4_62 rfl), (bw w_4_69 rfl), by decide, Or.inr ⟨"LaidQuarrel$Bottle", _, _, _, (bw w_4_65 rfl), (bw w_4_63 rfl), (bw w_4_72 rfl), ⟨by decide +kernel, by decide +kernel⟩, by decide +kernel⟩⟩
theorem cv_11_285_9 : OkV 11 285 9 12 := ⟨_, ⟨"LaidQuarrel$Bottle", "restore", "()V"⟩, me_X0_restore, rfl, (bw w_4_63 rfl), (bw w_4_62 rfl), (bw w_4_70 rfl), by decide, Or.inr ⟨"LaidQuarrel$Bottle", _, _, _, (bw w_4_65 rfl), (bw w_4_63 rfl), (bw w_4_72 rfl), ⟨by decide +kernel, by decide +kernel⟩, by decide +kernel⟩⟩
theorem cv_11_285_10 : OkV 11 285 10 12 := ⟨_, ⟨"LaidQuarrel$Bottle", "restore", "()V"⟩, me_X0_restore, rfl, (bw w_4_63 rfl), (bw w_4_62 rfl), (bw w_4_71 rfl), by decide, Or.inr ⟨"LaidQuarrel$Bottle", _, _, _, (bw w_4_65 rfl), (bw w_4_63 rfl), (bw w_4_72 rfl), ⟨by decide +kernel, by decide +kernel⟩, by decide +kernel⟩⟩
theorem ci_11_294_5 : OkP 11 294 5 47 := ⟨_, me_X4_init, rfl, (bw w_1_81 rfl), Or.inl ⟨rfl, rfl, Or.inl (bw w_1_80 rfl)⟩⟩
theorem ci_11_294_4 : OkP 11 294 4 47 := ⟨_, me_X4_init, rfl, (bw w_1_81 rfl), Or.inl ⟨rfl, rfl, Or.inl (bw w_1_80 rfl)⟩⟩
theorem ci_11_299_9 : OkP 11 299 9 67 := ⟨_, me_X8_init, rfl, (bw w_1_176 rfl), Or.inl ⟨rfl, rfl, Or.inl (bw w_1_175 rfl)⟩⟩
theorem ci_11_299_7 : OkP 11 299 7 67 := ⟨_, me_X8_init, rfl, (bw w_1_176 rfl), Or.inl ⟨rfl, rfl, Or.inl (bw w_1_175 rfl)⟩⟩
theorem ci_11_302_3 : OkP 11 302 3 41 := ⟨_, me_X2_init, rfl, (bw w_1_189 rfl), Or.inl ⟨rfl, rfl, Or.inl (bw w_1_188 rfl)⟩⟩
theorem ci_11_302_10 : OkP 11 302 10 41 := ⟨_, me_X2_init, rfl, (bw w_1_189 rfl), Or.inl ⟨rfl, rfl, Or.inl (bw w_1_188 rfl)⟩⟩
theorem ci_11_305_4 : OkP 11 305 4 44 := ⟨_, me_X3_init, rfl, (bw w_1_202 rfl), Or.inl ⟨rfl, rfl, Or.inl (bw w_1_201 rfl)⟩⟩
theorem ci_11_308_7 : OkP 11 308 7 55 := ⟨_, me_X6_init, rfl, (bw w_1_215 rfl), Or.inl ⟨rfl, rfl, Or.inl (bw w_1_214 rfl)⟩⟩
theorem ci_11_311_10 : OkP 11 311 10 70 := ⟨_, me_X9_init, rfl, (bw w_1_228 rfl), Or.inl ⟨rfl, rfl, Or.inl (bw w_1_227 rfl)⟩⟩
theorem ci_11_312_1 : OkP 11 312 1 10 := ⟨_, me_X0_init, rfl, (bw w_1_84 rfl), Or.inl ⟨rfl, rfl, Or.inl (bw w_2_0 rfl)⟩⟩
theorem ci_11_312_3 : OkP 11 312 3 10 := ⟨_, me_X0_init, rfl, (bw w_1_84 rfl), Or.inl ⟨rfl, rfl, Or.inl (bw w_2_0 rfl)⟩⟩
theorem ci_11_312_4 : OkP 11 312 4 10 := ⟨_, me_X0_init, rfl, (bw w_1_84 rfl), Or.inl ⟨rfl, rfl, Or.inl (bw w_2_0 rfl)⟩⟩
theorem ci_11_312_5 : OkP 11 312 5 10 := ⟨_, me_X0_init, rfl, (bw w_1_84 rfl), Or.inl ⟨rfl, rfl, Or.inl (bw w_2_0 rfl)⟩⟩
theorem ci_11_312_7 : OkP 11 312 7 10 := ⟨_, me_X0_init, rfl, (bw w_1_84 rfl), Or.inl ⟨rfl, rfl, Or.inl (bw w_2_0 rfl)⟩⟩
theorem ci_11_312_9 : OkP 11 312 9 10 := ⟨_, me_X0_init, rfl, (bw w_1_84 rfl), Or.inl ⟨rfl, rfl, Or.inl (bw w_2_0 rfl)⟩⟩
theorem ci_11_312_10 : OkP 11 312 10 10 := ⟨_, me_X0_init, rfl, (bw w_1_84 rfl), Or.inl ⟨rfl, rfl, Or.inl (bw w_2_0 rfl)⟩⟩
theorem cv_11_313_1 : OkV 11 313 1 15 := ⟨_, _, me_X0_spoken, rfl, (bw w_2_124 rfl), (bw w_2_123 rfl), (bw w_2_125 rfl), by decide, Or.inl rfl⟩
theorem cv_11_313_3 : OkV 11 313 3 42 := ⟨_, ⟨"LaidQuarrel$Bottle", "spoken", "(LLaidQuarrel$Laid;I)I"⟩, me_X2_spoken, rfl, (bw w_2_128 rfl), (bw w_2_123 rfl), (bw w_2_127 rfl), by decide, Or.inr ⟨"LaidQuarrel$Bottle", _, _, _, (bw w_2_126 rfl), (bw w_2_124 rfl), (bw w_2_159 rfl), ⟨by decide +kernel, by decide +kernel⟩, by decide +kernel⟩⟩
theorem cv_11_313_4 : OkV 11 313 4 45 := ⟨_, ⟨"LaidQuarrel$Bottle", "spoken", "(LLaidQuarrel$Laid;I)I"⟩, me_X3_spoken, rfl, (bw w_2_132 rfl), (bw w_2_123 rfl), (bw w_2_131 rfl), by decide, Or.inr ⟨"LaidQuarrel$Bottle", _, _, _, (bw w_2_126 rfl), (bw w_2_124 rfl), (bw w_2_159 rfl), ⟨by decide +kernel, by decide +kernel⟩, by decide +kernel⟩⟩
theorem cv_11_313_5 : OkV 11 313 5 48 := ⟨_, ⟨"LaidQuarrel$Bottle", "spoken", "(LLaidQuarrel$Laid;I)I"⟩, me_X4_spoken, rfl, (bw w_2_135 rfl), (bw w_2_123 rfl), (bw w_2_142 rfl), by decide, Or.inr ⟨"LaidQuarrel$Bottle", _, _, _, (bw w_2_126 rfl), (bw w_2_124 rfl), (bw w_2_159 rfl), ⟨by decide +kernel, by decide +kernel⟩, by decide +kernel⟩⟩
theorem cv_11_313_7 : OkV 11 313 7 56 := ⟨_, ⟨"LaidQuarrel$Bottle", "spoken", "(LLaidQuarrel$Laid;I)I"⟩, me_X6_spoken, rfl, (bw w_2_144 rfl), (bw w_2_123 rfl), (bw w_2_143 rfl), by decide, Or.inr ⟨"LaidQuarrel$Bottle", _, _, _, (bw w_2_126 rfl), (bw w_2_124 rfl), (bw w_2_159 rfl), ⟨by decide +kernel, by decide +kernel⟩, by decide +kernel⟩⟩
theorem cv_11_313_9 : OkV 11 313 9 68 := ⟨_, ⟨"LaidQuarrel$Bottle", "spoken", "(LLaidQuarrel$Laid;I)I"⟩, me_X8_spoken, rfl, (bw w_2_147 rfl), (bw w_2_123 rfl), (bw w_2_150 rfl), by decide, Or.inr ⟨"LaidQuarrel$Bottle", _, _, _, (bw w_2_126 rfl), (bw w_2_124 rfl), (bw w_2_159 rfl), ⟨by decide +kernel, by decide +kernel⟩, by decide +kernel⟩⟩
theorem cv_11_313_10 : OkV 11 313 10 71 := ⟨_, ⟨"LaidQuarrel$Bottle", "spoken", "(LLaidQuarrel$Laid;I)I"⟩, me_X9_spoken, rfl, (bw w_2_152 rfl), (bw w_2_123 rfl), (bw w_2_151 rfl), by decide, Or.inr ⟨"LaidQuarrel$Bottle", _, _, _, (bw w_2_126 rfl), (bw w_2_124 rfl), (bw w_2_159 rfl), ⟨by decide +kernel, by decide +kernel⟩, by decide +kernel⟩⟩
theorem cv_11_317_8 : OkV 11 317 8 61 := ⟨_, _, me_X7_put, rfl, (bw w_3_1 rfl), (bw w_3_0 rfl), (bw w_3_2 rfl), by decide, Or.inl rfl⟩
theorem cv_11_326_11 : OkV 11 326 11 132 := ⟨_, _, me_X10_makesPeace, rfl, (bw w_3_96 rfl), (bw w_3_94 rfl), (bw sp_25 rfl), by decide, Or.inl rfl⟩
theorem cv_11_329_11 : OkV 11 329 11 134 := ⟨_, _, me_X10_leastPartner, rfl, (bw w_3_104 rfl), (bw w_3_102 rfl), (bw sp_27 rfl), by decide, Or.inl rfl⟩
theorem cv_12_68_12 : OkV 12 68 12 150 := ⟨_, _, me_X11_here, rfl, (bw w_4_173 rfl), (bw w_4_171 rfl), (bw sp_33 rfl), by decide, Or.inl rfl⟩
theorem cv_12_81_12 : OkV 12 81 12 151 := ⟨_, _, me_X11_must, rfl, (bw w_4_188 rfl), (bw w_4_186 rfl), (bw sp_36 rfl), by decide, Or.inl rfl⟩
theorem cv_12_91_12 : OkV 12 91 12 156 := ⟨_, _, me_X11_factor, rfl, (bw w_4_214 rfl), (bw w_4_212 rfl), (bw sp_42 rfl), by decide, Or.inl rfl⟩
theorem cv_12_94_12 : OkV 12 94 12 155 := ⟨_, _, me_X11_emits, rfl, (bw w_4_218 rfl), (bw w_4_216 rfl), (bw sp_43 rfl), by decide, Or.inl rfl⟩
theorem cv_12_97_12 : OkV 12 97 12 158 := ⟨_, _, me_X11_some, rfl, (bw w_4_206 rfl), (bw w_4_204 rfl), (bw sp_40 rfl), by decide, Or.inl rfl⟩
theorem cv_12_102_12 : OkV 12 102 12 154 := ⟨_, _, me_X11_among, rfl, (bw w_4_223 rfl), (bw w_4_221 rfl), (bw sp_44 rfl), by decide, Or.inl rfl⟩
theorem cv_12_108_12 : OkV 12 108 12 153 := ⟨_, _, me_X11_figures, rfl, (bw w_4_192 rfl), (bw w_4_190 rfl), (bw sp_37 rfl), by decide, Or.inl rfl⟩
theorem cv_12_111_12 : OkV 12 111 12 157 := ⟨_, _, me_X11_every, rfl, (bw w_4_210 rfl), (bw w_4_208 rfl), (bw sp_41 rfl), by decide, Or.inl rfl⟩
theorem cv_12_114_12 : OkV 12 114 12 152 := ⟨_, _, me_X11_spells, rfl, (bw w_4_182 rfl), (bw w_4_180 rfl), (bw sp_35 rfl), by decide, Or.inl rfl⟩
theorem cv_12_120_12 : OkV 12 120 12 159 := ⟨_, _, me_X11_much, rfl, (bw w_4_202 rfl), (bw w_4_200 rfl), (bw sp_39 rfl), by decide, Or.inl rfl⟩
theorem cv_12_128_12 : OkV 12 128 12 160 := ⟨_, _, me_X11_tellsHere, rfl, (bw w_4_178 rfl), (bw w_4_176 rfl), (bw sp_34 rfl), by decide, Or.inl rfl⟩
theorem cv_12_133_12 : OkV 12 133 12 161 := ⟨_, _, me_X11_wordOfS, rfl, (bw w_4_197 rfl), (bw w_4_195 rfl), (bw sp_38 rfl), by decide, Or.inl rfl⟩
theorem cv_12_136_12 : OkV 12 136 12 162 := ⟨_, _, me_X11_clauseHere, rfl, (bw w_4_169 rfl), (bw w_4_167 rfl), (bw sp_32 rfl), by decide, Or.inl rfl⟩
theorem cv_12_139_12 : OkV 12 139 12 164 := ⟨_, _, me_X11_tellsOf, rfl, (bw w_5_19 rfl), (bw w_5_17 rfl), (bw sp_48 rfl), by decide, Or.inl rfl⟩
theorem cv_12_143_12 : OkV 12 143 12 165 := ⟨_, _, me_X11_looks, rfl, (bw w_5_12 rfl), (bw w_5_10 rfl), (bw sp_47 rfl), by decide, Or.inl rfl⟩
theorem cv_12_146_12 : OkV 12 146 12 166 := ⟨_, _, me_X11_softOf, rfl, (bw w_5_8 rfl), (bw w_5_6 rfl), (bw sp_46 rfl), by decide, Or.inl rfl⟩
theorem cv_12_156_12 : OkV 12 156 12 143 := ⟨_, _, me_X11_isBottle, rfl, (bw w_5_4 rfl), (bw w_5_2 rfl), (bw sp_45 rfl), by decide, Or.inl rfl⟩
theorem cv_12_159_12 : OkV 12 159 12 167 := ⟨_, _, me_X11_saysOf, rfl, (bw w_5_23 rfl), (bw w_5_21 rfl), (bw sp_49 rfl), by decide, Or.inl rfl⟩
theorem cv_12_162_12 : OkV 12 162 12 144 := ⟨_, _, me_X11_isGuest, rfl, (bw w_5_42 rfl), (bw w_5_40 rfl), (bw sp_50 rfl), by decide, Or.inl rfl⟩
theorem cv_12_165_12 : OkV 12 165 12 174 := ⟨_, _, me_X11_fullOnes, rfl, (bw w_5_50 rfl), (bw w_5_48 rfl), (bw sp_51 rfl), by decide, Or.inl rfl⟩
theorem cv_12_168_12 : OkV 12 168 12 175 := ⟨_, _, me_X11_allSay, rfl, (bw w_5_54 rfl), (bw w_5_52 rfl), (bw sp_52 rfl), by decide, Or.inl rfl⟩
theorem cv_12_171_12 : OkV 12 171 12 176 := ⟨_, _, me_X11_allMoods, rfl, (bw w_5_58 rfl), (bw w_5_56 rfl), (bw sp_53 rfl), by decide, Or.inl rfl⟩
theorem cv_12_178_12 : OkV 12 178 12 178 := ⟨_, _, me_X11_brings, rfl, (bw w_5_70 rfl), (bw w_5_68 rfl), (bw sp_55 rfl), by decide, Or.inl rfl⟩
theorem cv_12_182_12 : OkV 12 182 12 179 := ⟨_, _, me_X11_pours, rfl, (bw w_5_66 rfl), (bw w_5_64 rfl), (bw sp_54 rfl), by decide, Or.inl rfl⟩
theorem cv_12_185_12 : OkV 12 185 12 182 := ⟨_, _, me_X11_goes, rfl, (bw w_5_89 rfl), (bw w_5_87 rfl), (bw sp_57 rfl), by decide, Or.inl rfl⟩
theorem cv_12_188_12 : OkV 12 188 12 183 := ⟨_, _, me_X11_goesOn, rfl, (bw w_5_85 rfl), (bw w_5_83 rfl), (bw sp_56 rfl), by decide, Or.inl rfl⟩
theorem cv_12_191_12 : OkV 12 191 12 147 := ⟨_, _, me_X11_keeps, rfl, (bw w_5_97 rfl), (bw w_5_95 rfl), (bw sp_58 rfl), by decide, Or.inl rfl⟩
theorem cv_12_194_12 : OkV 12 194 12 148 := ⟨_, _, me_X11_goesBack, rfl, (bw w_5_101 rfl), (bw w_5_99 rfl), (bw sp_59 rfl), by decide, Or.inl rfl⟩
theorem cv_12_198_12 : OkV 12 198 12 189 := ⟨_, _, me_X11_looksForSayings, rfl, (bw w_5_122 rfl), (bw w_5_120 rfl), (bw sp_60 rfl), by decide, Or.inl rfl⟩
theorem cv_12_201_12 : OkV 12 201 12 191 := ⟨_, _, me_X11_sumOf, rfl, (bw w_5_126 rfl), (bw w_5_124 rfl), (bw sp_61 rfl), by decide, Or.inl rfl⟩
theorem cv_12_210_12 : OkV 12 210 12 193 := ⟨_, _, me_X11_ordersFrom, rfl, (bw w_5_137 rfl), (bw w_5_135 rfl), (bw sp_62 rfl), by decide, Or.inl rfl⟩
theorem cv_12_217_12 : OkV 12 217 12 196 := ⟨_, _, me_X11_pairsFrom, rfl, (bw w_5_149 rfl), (bw w_5_147 rfl), (bw sp_63 rfl), by decide, Or.inl rfl⟩
theorem cv_12_223_12 : OkV 12 223 12 200 := ⟨_, _, me_X11_isAsSeen, rfl, (bw w_5_172 rfl), (bw w_5_170 rfl), (bw sp_65 rfl), by decide, Or.inl rfl⟩
theorem cv_12_226_12 : OkV 12 226 12 201 := ⟨_, _, me_X11_areAsSeen, rfl, (bw w_5_168 rfl), (bw w_5_166 rfl), (bw sp_64 rfl), by decide, Or.inl rfl⟩
theorem cv_12_236_12 : OkV 12 236 12 209 := ⟨_, _, me_X11_does, rfl, (bw w_5_204 rfl), (bw w_5_202 rfl), (bw sp_66 rfl), by decide, Or.inl rfl⟩
theorem cv_12_242_12 : OkV 12 242 12 213 := ⟨_, _, me_X11_ranBody, rfl, (bw w_5_227 rfl), (bw w_5_225 rfl), (bw sp_68 rfl), by decide, Or.inl rfl⟩
theorem cv_12_255_12 : OkV 12 255 12 215 := ⟨_, _, me_X11_plainUtters, rfl, (bw w_5_231 rfl), (bw w_5_229 rfl), (bw sp_69 rfl), by decide, Or.inl rfl⟩
theorem cv_12_258_12 : OkV 12 258 12 216 := ⟨_, _, me_X11_uttersActs, rfl, (bw w_5_220 rfl), (bw w_5_218 rfl), (bw sp_67 rfl), by decide, Or.inl rfl⟩
theorem cv_12_264_12 : OkV 12 264 12 217 := ⟨_, _, me_X11_plainKeeping, rfl, (bw w_5_239 rfl), (bw w_5_237 rfl), (bw sp_71 rfl), by decide, Or.inl rfl⟩
theorem cv_12_267_12 : OkV 12 267 12 218 := ⟨_, _, me_X11_keepsActs, rfl, (bw w_5_235 rfl), (bw w_5_233 rfl), (bw sp_70 rfl), by decide, Or.inl rfl⟩
theorem cv_12_270_12 : OkV 12 270 12 219 := ⟨_, _, me_X11_plainTelling, rfl, (bw w_6_7 rfl), (bw w_6_5 rfl), (bw sp_73 rfl), by decide, Or.inl rfl⟩
theorem cv_12_273_12 : OkV 12 273 12 220 := ⟨_, _, me_X11_tellsActs, rfl, (bw w_6_3 rfl), (bw w_6_1 rfl), (bw sp_72 rfl), by decide, Or.inl rfl⟩
theorem ci_17_1_0 : OkP 17 1 0 232 := ⟨_, me_Jxa1e45_init_da8c8, rfl, (bw w_0_95 rfl), Or.inl ⟨rfl, rfl, Or.inl (bw w_0_94 rfl)⟩⟩
theorem ci_19_9_11 : OkP 19 9 11 73 := ⟨_, me_X10_init, rfl, (bw w_0_29 rfl), Or.inl ⟨rfl, rfl, Or.inl (bw w_0_28 rfl)⟩⟩
theorem ci_19_12_12 : OkP 19 12 12 138 := ⟨_, me_X11_init, rfl, (bw w_4_80 rfl), Or.inl ⟨rfl, rfl, Or.inl (bw w_4_79 rfl)⟩⟩
theorem cv_19_13_11 : OkV 19 13 11 74 := ⟨_, _, me_X10_feed, rfl, (bw w_0_165 rfl), (bw w_0_164 rfl), (bw w_0_166 rfl), by decide, Or.inl rfl⟩
theorem cv_19_17_12 : OkV 19 17 12 149 := ⟨_, _, me_X11_feed, rfl, (bw w_4_157 rfl), (bw w_4_156 rfl), (bw w_4_158 rfl), by decide, Or.inl rfl⟩
theorem cv_19_18_11 : OkV 19 18 11 75 := ⟨_, _, me_X10_cellar, rfl, (bw w_0_179 rfl), (bw w_0_178 rfl), (bw w_0_180 rfl), by decide, Or.inl rfl⟩
theorem cv_19_22_12 : OkV 19 22 12 163 := ⟨_, _, me_X11_cellar, rfl, (bw w_4_164 rfl), (bw w_4_163 rfl), (bw w_4_165 rfl), by decide, Or.inl rfl⟩
theorem cv_19_23_11 : OkV 19 23 11 76 := ⟨_, _, me_X10_bottle, rfl, (bw w_1_61 rfl), (bw w_1_60 rfl), (bw w_1_62 rfl), by decide, Or.inl rfl⟩
theorem cv_19_27_12 : OkV 19 27 12 168 := ⟨_, _, me_X11_bottle, rfl, (bw w_4_228 rfl), (bw w_4_227 rfl), (bw w_4_229 rfl), by decide, Or.inl rfl⟩
theorem cv_19_28_11 : OkV 19 28 11 77 := ⟨_, _, me_X10_guest, rfl, (bw w_2_72 rfl), (bw w_2_71 rfl), (bw w_2_73 rfl), by decide, Or.inl rfl⟩
theorem cv_19_31_12 : OkV 19 31 12 169 := ⟨_, _, me_X11_guest, rfl, (bw w_4_235 rfl), (bw w_4_234 rfl), (bw w_4_236 rfl), by decide, Or.inl rfl⟩
theorem cv_19_32_11 : OkV 19 32 11 78 := ⟨_, _, me_X10_of, rfl, (bw w_2_76 rfl), (bw w_2_75 rfl), (bw w_2_77 rfl), by decide, Or.inl rfl⟩
theorem cv_19_36_12 : OkV 19 36 12 170 := ⟨_, _, me_X11_of, rfl, (bw w_4_239 rfl), (bw w_4_238 rfl), (bw w_5_0 rfl), by decide, Or.inl rfl⟩
theorem cv_19_37_11 : OkV 19 37 11 79 := ⟨_, _, me_X10_row, rfl, (bw w_2_162 rfl), (bw w_2_161 rfl), (bw w_2_163 rfl), by decide, Or.inl rfl⟩
theorem cv_19_40_12 : OkV 19 40 12 171 := ⟨_, _, me_X11_row, rfl, (bw w_5_29 rfl), (bw w_5_28 rfl), (bw w_5_30 rfl), by decide, Or.inl rfl⟩
theorem cv_19_41_11 : OkV 19 41 11 80 := ⟨_, _, me_X10_set, rfl, (bw w_2_170 rfl), (bw w_2_169 rfl), (bw w_2_171 rfl), by decide, Or.inl rfl⟩
theorem cv_19_44_12 : OkV 19 44 12 172 := ⟨_, _, me_X11_set, rfl, (bw w_5_33 rfl), (bw w_5_32 rfl), (bw w_5_34 rfl), by decide, Or.inl rfl⟩
theorem cv_19_45_11 : OkV 19 45 11 81 := ⟨_, _, me_X10_mood, rfl, (bw w_2_174 rfl), (bw w_2_173 rfl), (bw w_2_175 rfl), by decide, Or.inl rfl⟩
theorem cv_19_48_12 : OkV 19 48 12 173 := ⟨_, _, me_X11_mood, rfl, (bw w_5_37 rfl), (bw w_5_36 rfl), (bw w_5_38 rfl), by decide, Or.inl rfl⟩
theorem cv_19_49_11 : OkV 19 49 11 82 := ⟨_, _, me_X10_told, rfl, (bw w_2_183 rfl), (bw w_2_182 rfl), (bw w_2_184 rfl), by decide, Or.inl rfl⟩
theorem cv_19_52_12 : OkV 19 52 12 177 := ⟨_, _, me_X11_told, rfl, (bw w_5_45 rfl), (bw w_5_44 rfl), (bw w_5_46 rfl), by decide, Or.inl rfl⟩
theorem cv_19_53_11 : OkV 19 53 11 83 := ⟨_, _, me_X10_pour, rfl, (bw w_2_231 rfl), (bw w_2_230 rfl), (bw w_2_232 rfl), by decide, Or.inl rfl⟩
theorem cv_19_56_12 : OkV 19 56 12 180 := ⟨_, _, me_X11_pour, rfl, (bw w_5_61 rfl), (bw w_5_60 rfl), (bw w_5_62 rfl), by decide, Or.inl rfl⟩
theorem cv_19_57_11 : OkV 19 57 11 84 := ⟨_, _, me_X10_both, rfl, (bw w_3_5 rfl), (bw w_3_4 rfl), (bw w_3_6 rfl), by decide, Or.inl rfl⟩
theorem cv_19_60_12 : OkV 19 60 12 181 := ⟨_, _, me_X11_both, rfl, (bw w_5_76 rfl), (bw w_5_75 rfl), (bw w_5_77 rfl), by decide, Or.inl rfl⟩
theorem cv_19_61_11 : OkV 19 61 11 85 := ⟨_, _, me_X10_pass, rfl, (bw w_3_9 rfl), (bw w_3_8 rfl), (bw w_3_10 rfl), by decide, Or.inl rfl⟩
theorem cv_19_64_12 : OkV 19 64 12 184 := ⟨_, _, me_X11_pass, rfl, (bw w_5_80 rfl), (bw w_5_79 rfl), (bw w_5_81 rfl), by decide, Or.inl rfl⟩
theorem cv_19_65_11 : OkV 19 65 11 86 := ⟨_, _, me_X10_on, rfl, (bw w_3_19 rfl), (bw w_3_18 rfl), (bw w_3_20 rfl), by decide, Or.inl rfl⟩
theorem cv_19_68_12 : OkV 19 68 12 185 := ⟨_, _, me_X11_on, rfl, (bw w_5_92 rfl), (bw w_5_91 rfl), (bw w_5_93 rfl), by decide, Or.inl rfl⟩
theorem cv_19_69_11 : OkV 19 69 11 87 := ⟨_, _, me_X10_when, rfl, (bw w_3_24 rfl), (bw w_3_23 rfl), (bw w_3_25 rfl), by decide, Or.inl rfl⟩
theorem cv_19_72_12 : OkV 19 72 12 186 := ⟨_, _, me_X11_when, rfl, (bw w_5_104 rfl), (bw w_5_103 rfl), (bw w_5_105 rfl), by decide, Or.inl rfl⟩
theorem cv_19_73_11 : OkV 19 73 11 88 := ⟨_, _, me_X10_ripe, rfl, (bw w_3_28 rfl), (bw w_3_27 rfl), (bw w_3_29 rfl), by decide, Or.inl rfl⟩
theorem cv_19_76_12 : OkV 19 76 12 187 := ⟨_, _, me_X11_ripe, rfl, (bw w_5_109 rfl), (bw w_5_108 rfl), (bw w_5_110 rfl), by decide, Or.inl rfl⟩
theorem cv_19_77_11 : OkV 19 77 11 89 := ⟨_, _, me_X10_lies, rfl, (bw w_3_32 rfl), (bw w_3_31 rfl), (bw w_3_33 rfl), by decide, Or.inl rfl⟩
theorem cv_19_80_12 : OkV 19 80 12 188 := ⟨_, _, me_X11_lies, rfl, (bw w_5_113 rfl), (bw w_5_112 rfl), (bw w_5_114 rfl), by decide, Or.inl rfl⟩
theorem cv_19_81_11 : OkV 19 81 11 90 := ⟨_, _, me_X10_choose, rfl, (bw w_3_47 rfl), (bw w_3_46 rfl), (bw w_3_48 rfl), by decide, Or.inl rfl⟩
theorem cv_19_84_12 : OkV 19 84 12 192 := ⟨_, _, me_X11_choose, rfl, (bw w_5_117 rfl), (bw w_5_116 rfl), (bw w_5_118 rfl), by decide, Or.inl rfl⟩
theorem cv_19_85_11 : OkV 19 85 11 91 := ⟨_, _, me_X10_line, rfl, (bw w_3_68 rfl), (bw w_3_67 rfl), (bw w_3_69 rfl), by decide, Or.inl rfl⟩
theorem cv_19_88_12 : OkV 19 88 12 194 := ⟨_, _, me_X11_line, rfl, (bw w_5_132 rfl), (bw w_5_131 rfl), (bw w_5_133 rfl), by decide, Or.inl rfl⟩
theorem cv_19_89_11 : OkV 19 89 11 92 := ⟨_, _, me_X10_pair, rfl, (bw w_3_78 rfl), (bw w_3_77 rfl), (bw w_3_79 rfl), by decide, Or.inl rfl⟩
theorem cv_19_92_12 : OkV 19 92 12 195 := ⟨_, _, me_X11_pair, rfl, (bw w_5_140 rfl), (bw w_5_139 rfl), (bw w_5_141 rfl), by decide, Or.inl rfl⟩
theorem cv_19_93_11 : OkV 19 93 11 93 := ⟨_, _, me_X10_match, rfl, (bw w_3_83 rfl), (bw w_3_82 rfl), (bw w_3_84 rfl), by decide, Or.inl rfl⟩
theorem cv_19_96_12 : OkV 19 96 12 197 := ⟨_, _, me_X11_match, rfl, (bw w_5_144 rfl), (bw w_5_143 rfl), (bw w_5_145 rfl), by decide, Or.inl rfl⟩
theorem cv_19_97_11 : OkV 19 97 11 94 := ⟨_, _, me_X10_words, rfl, (bw w_3_107 rfl), (bw w_3_106 rfl), (bw w_3_108 rfl), by decide, Or.inl rfl⟩
theorem cv_19_100_12 : OkV 19 100 12 198 := ⟨_, _, me_X11_words, rfl, (bw w_5_152 rfl), (bw w_5_151 rfl), (bw w_5_153 rfl), by decide, Or.inl rfl⟩
theorem cv_19_101_11 : OkV 19 101 11 95 := ⟨_, _, me_X10_see, rfl, (bw w_3_111 rfl), (bw w_3_110 rfl), (bw w_3_112 rfl), by decide, Or.inl rfl⟩
theorem cv_19_104_12 : OkV 19 104 12 199 := ⟨_, _, me_X11_see, rfl, (bw w_5_159 rfl), (bw w_5_158 rfl), (bw w_5_160 rfl), by decide, Or.inl rfl⟩
theorem cv_19_105_11 : OkV 19 105 11 96 := ⟨_, _, me_X10_old, rfl, (bw w_3_115 rfl), (bw w_3_114 rfl), (bw w_3_116 rfl), by decide, Or.inl rfl⟩
theorem cv_19_108_12 : OkV 19 108 12 202 := ⟨_, _, me_X11_old, rfl, (bw w_5_163 rfl), (bw w_5_162 rfl), (bw w_5_164 rfl), by decide, Or.inl rfl⟩
theorem cv_19_109_11 : OkV 19 109 11 97 := ⟨_, _, me_X10_firm, rfl, (bw w_3_123 rfl), (bw w_3_122 rfl), (bw w_3_124 rfl), by decide, Or.inl rfl⟩
theorem cv_19_112_12 : OkV 19 112 12 203 := ⟨_, _, me_X11_firm, rfl, (bw w_5_175 rfl), (bw w_5_174 rfl), (bw w_5_176 rfl), by decide, Or.inl rfl⟩
theorem cv_19_113_11 : OkV 19 113 11 98 := ⟨_, _, me_X10_whose, rfl, (bw w_3_127 rfl), (bw w_3_126 rfl), (bw w_3_128 rfl), by decide, Or.inl rfl⟩
theorem cv_19_116_12 : OkV 19 116 12 204 := ⟨_, _, me_X11_whose, rfl, (bw w_5_179 rfl), (bw w_5_178 rfl), (bw w_5_180 rfl), by decide, Or.inl rfl⟩
theorem cv_19_117_11 : OkV 19 117 11 99 := ⟨_, _, me_X10_odds, rfl, (bw w_3_131 rfl), (bw w_3_130 rfl), (bw w_3_132 rfl), by decide, Or.inl rfl⟩
theorem cv_19_121_12 : OkV 19 121 12 206 := ⟨_, _, me_X11_odds, rfl, (bw w_5_183 rfl), (bw w_5_182 rfl), (bw w_5_184 rfl), by decide, Or.inl rfl⟩
theorem cv_19_122_11 : OkV 19 122 11 100 := ⟨_, _, me_X10_mean, rfl, (bw w_3_139 rfl), (bw w_3_138 rfl), (bw w_3_140 rfl), by decide, Or.inl rfl⟩
theorem cv_19_126_12 : OkV 19 126 12 207 := ⟨_, _, me_X11_mean, rfl, (bw w_5_191 rfl), (bw w_5_190 rfl), (bw w_5_192 rfl), by decide, Or.inl rfl⟩
theorem cv_19_127_11 : OkV 19 127 11 101 := ⟨_, _, me_X10_evening, rfl, (bw w_3_143 rfl), (bw w_3_142 rfl), (bw w_3_144 rfl), by decide, Or.inl rfl⟩
theorem cv_19_130_12 : OkV 19 130 12 208 := ⟨_, _, me_X11_evening, rfl, (bw w_5_195 rfl), (bw w_5_194 rfl), (bw w_5_196 rfl), by decide, Or.inl rfl⟩
theorem cv_19_131_11 : OkV 19 131 11 102 := ⟨_, _, me_X10_done, rfl, (bw w_3_147 rfl), (bw w_3_146 rfl), (bw w_3_148 rfl), by decide, Or.inl rfl⟩
theorem cv_19_134_12 : OkV 19 134 12 210 := ⟨_, _, me_X11_done, rfl, (bw w_5_199 rfl), (bw w_5_198 rfl), (bw w_5_200 rfl), by decide, Or.inl rfl⟩
theorem cv_19_135_11 : OkV 19 135 11 103 := ⟨_, _, me_X10_book, rfl, (bw w_3_159 rfl), (bw w_3_158 rfl), (bw w_3_160 rfl), by decide, Or.inl rfl⟩
theorem cv_19_138_12 : OkV 19 138 12 211 := ⟨_, _, me_X11_book, rfl, (bw w_5_207 rfl), (bw w_5_206 rfl), (bw w_5_208 rfl), by decide, Or.inl rfl⟩
theorem cv_19_139_11 : OkV 19 139 11 104 := ⟨_, _, me_X10_looked, rfl, (bw w_3_163 rfl), (bw w_3_162 rfl), (bw w_3_164 rfl), by decide, Or.inl rfl⟩
theorem cv_19_142_12 : OkV 19 142 12 212 := ⟨_, _, me_X11_looked, rfl, (bw w_5_211 rfl), (bw w_5_210 rfl), (bw w_5_212 rfl), by decide, Or.inl rfl⟩
theorem cv_19_143_11 : OkV 19 143 11 105 := ⟨_, _, me_X10_act, rfl, (bw w_3_167 rfl), (bw w_3_166 rfl), (bw w_3_168 rfl), by decide, Or.inl rfl⟩
theorem cv_19_146_12 : OkV 19 146 12 221 := ⟨_, _, me_X11_act, rfl, (bw w_5_215 rfl), (bw w_5_214 rfl), (bw w_5_216 rfl), by decide, Or.inl rfl⟩
theorem cv_19_147_11 : OkV 19 147 11 106 := ⟨_, _, me_X10_trace, rfl, (bw w_4_1 rfl), (bw w_4_0 rfl), (bw w_4_2 rfl), by decide, Or.inl rfl⟩
theorem cv_19_150_12 : OkV 19 150 12 222 := ⟨_, _, me_X11_trace, rfl, (bw w_6_10 rfl), (bw w_6_9 rfl), (bw w_6_11 rfl), by decide, Or.inl rfl⟩
theorem cv_19_151_11 : OkV 19 151 11 107 := ⟨_, _, me_X10_as, rfl, (bw w_4_5 rfl), (bw w_4_4 rfl), (bw w_4_6 rfl), by decide, Or.inl rfl⟩
theorem cv_19_154_12 : OkV 19 154 12 223 := ⟨_, _, me_X11_as, rfl, (bw w_6_14 rfl), (bw w_6_13 rfl), (bw w_6_15 rfl), by decide, Or.inl rfl⟩
theorem cv_19_155_11 : OkV 19 155 11 108 := ⟨_, _, me_X10_image, rfl, (bw w_4_12 rfl), (bw w_4_11 rfl), (bw w_4_13 rfl), by decide, Or.inl rfl⟩
theorem cv_19_158_12 : OkV 19 158 12 224 := ⟨_, _, me_X11_image, rfl, (bw w_6_18 rfl), (bw w_6_17 rfl), (bw w_6_19 rfl), by decide, Or.inl rfl⟩
theorem cv_19_159_11 : OkV 19 159 11 109 := ⟨_, _, me_X10_undo, rfl, (bw w_4_36 rfl), (bw w_4_35 rfl), (bw w_4_37 rfl), by decide, Or.inl rfl⟩
theorem cv_19_162_12 : OkV 19 162 12 225 := ⟨_, _, me_X11_undo, rfl, (bw w_6_22 rfl), (bw w_6_21 rfl), (bw w_6_23 rfl), by decide, Or.inl rfl⟩
theorem cv_19_163_11 : OkV 19 163 11 110 := ⟨_, _, me_X10_count, rfl, (bw w_4_74 rfl), (bw w_4_73 rfl), (bw w_4_75 rfl), by decide, Or.inl rfl⟩
theorem cv_19_166_12 : OkV 19 166 12 226 := ⟨_, _, me_X11_count, rfl, (bw w_6_26 rfl), (bw w_6_25 rfl), (bw w_6_27 rfl), by decide, Or.inl rfl⟩
set_option maxRecDepth 20000 in
theorem xLMs_ok : ∀ q ∈ xLMs, OkS q.1.1 q.1.2 q.2 := List.forall_mem_cons.mpr ⟨cs_0_118, List.forall_mem_cons.mpr ⟨cs_1_44, List.forall_mem_cons.mpr ⟨cs_2_65, List.forall_mem_cons.mpr ⟨cs_2_140, List.forall_mem_cons.mpr ⟨cs_2_143, List.forall_mem_cons.mpr ⟨cs_5_13, List.forall_mem_cons.mpr ⟨cs_6_32, List.forall_mem_cons.mpr ⟨cs_8_29, List.forall_mem_cons.mpr ⟨cs_9_13, List.forall_mem_cons.mpr ⟨cs_11_67, List.forall_mem_cons.mpr ⟨cs_11_71, List.forall_mem_cons.mpr ⟨cs_11_174, List.forall_mem_cons.mpr ⟨cs_11_178, List.forall_mem_cons.mpr ⟨cs_11_207, List.forall_mem_cons.mpr ⟨cs_11_215, List.forall_mem_cons.mpr ⟨cs_11_218, List.forall_mem_cons.mpr ⟨cs_11_226, List.forall_mem_cons.mpr ⟨cs_11_241, List.forall_mem_cons.mpr ⟨cs_11_244, List.forall_mem_cons.mpr ⟨cs_11_264, List.forall_mem_cons.mpr ⟨cs_11_320, List.forall_mem_cons.mpr ⟨cs_11_323, List.forall_mem_cons.mpr ⟨cs_12_50, List.forall_mem_cons.mpr ⟨cs_12_54, List.forall_mem_cons.mpr ⟨cs_12_149, List.forall_mem_cons.mpr ⟨cs_12_152, List.forall_mem_cons.mpr ⟨cs_12_174, List.forall_mem_cons.mpr ⟨cs_12_204, List.forall_mem_cons.mpr ⟨cs_12_220, List.forall_mem_cons.mpr ⟨cs_12_232, List.forall_mem_cons.mpr ⟨cs_12_251, List.forall_mem_cons.mpr ⟨cs_15_105, fun _ h => absurd h List.not_mem_nil⟩⟩⟩⟩⟩⟩⟩⟩⟩⟩⟩⟩⟩⟩⟩⟩⟩⟩⟩⟩⟩⟩⟩⟩⟩⟩⟩⟩⟩⟩⟩⟩
theorem lp_0_1 : ∀ t ∈ vt 0, OkP 0 1 t.1 t.2 := List.forall_mem_cons.mpr ⟨ci_0_1_0, fun _ h => absurd h List.not_mem_nil⟩
theorem lp_1_9 : ∀ t ∈ vt 6, OkP 1 9 t.1 t.2 := List.forall_mem_cons.mpr ⟨ci_1_9_6, fun _ h => absurd h List.not_mem_nil⟩
theorem lp_2_11 : ∀ t ∈ vt 12, OkP 2 11 t.1 t.2 := List.forall_mem_cons.mpr ⟨ci_2_11_8, fun _ h => absurd h List.not_mem_nil⟩
theorem lp_3_1 : ∀ t ∈ vt 31, OkP 3 1 t.1 t.2 := List.forall_mem_cons.mpr ⟨ci_3_1_1, List.forall_mem_cons.mpr ⟨ci_3_1_3, List.forall_mem_cons.mpr ⟨ci_3_1_4, List.forall_mem_cons.mpr ⟨ci_3_1_5, List.forall_mem_cons.mpr ⟨ci_3_1_7, List.forall_mem_cons.mpr ⟨ci_3_1_9, List.forall_mem_cons.mpr ⟨ci_3_1_10, fun _ h => absurd h List.not_mem_nil⟩⟩⟩⟩⟩⟩⟩
theorem lp_3_7 : ∀ t ∈ vt 32, OkP 3 7 t.1 t.2 := List.forall_mem_cons.mpr ⟨cp_3_7_3, List.forall_mem_cons.mpr ⟨cp_3_7_10, fun _ h => absurd h List.not_mem_nil⟩⟩
theorem lp_3_29 : ∀ t ∈ vt 34, OkP 3 29 t.1 t.2 := List.forall_mem_cons.mpr ⟨cp_3_29_3, List.forall_mem_cons.mpr ⟨cp_3_29_10, fun _ h => absurd h List.not_mem_nil⟩⟩
theorem lp_4_1 : ∀ t ∈ vt 35, OkP 4 1 t.1 t.2 := List.forall_mem_cons.mpr ⟨ci_4_1_5, List.forall_mem_cons.mpr ⟨ci_4_1_4, fun _ h => absurd h List.not_mem_nil⟩⟩
theorem lp_4_7 : ∀ t ∈ vt 36, OkP 4 7 t.1 t.2 := List.forall_mem_cons.mpr ⟨cp_4_7_4, fun _ h => absurd h List.not_mem_nil⟩
theorem lp_4_32 : ∀ t ∈ vt 38, OkP 4 32 t.1 t.2 := List.forall_mem_cons.mpr ⟨cp_4_32_4, fun _ h => absurd h List.not_mem_nil⟩
theorem lp_5_1 : ∀ t ∈ vt 40, OkP 5 1 t.1 t.2 := List.forall_mem_cons.mpr ⟨ci_5_1_1, List.forall_mem_cons.mpr ⟨ci_5_1_3, List.forall_mem_cons.mpr ⟨ci_5_1_4, List.forall_mem_cons.mpr ⟨ci_5_1_5, List.forall_mem_cons.mpr ⟨ci_5_1_7, List.forall_mem_cons.mpr ⟨ci_5_1_9, List.forall_mem_cons.mpr ⟨ci_5_1_10, fun _ h => absurd h List.not_mem_nil⟩⟩⟩⟩⟩⟩⟩
theorem lp_5_31 : ∀ t ∈ vt 42, OkP 5 31 t.1 t.2 := List.forall_mem_cons.mpr ⟨cp_5_31_5, List.forall_mem_cons.mpr ⟨cp_5_31_4, fun _ h => absurd h List.not_mem_nil⟩⟩
theorem lp_7_1 : ∀ t ∈ vt 43, OkP 7 1 t.1 t.2 := List.forall_mem_cons.mpr ⟨ci_7_1_9, List.forall_mem_cons.mpr ⟨ci_7_1_7, fun _ h => absurd h List.not_mem_nil⟩⟩
theorem lp_7_7 : ∀ t ∈ vt 44, OkP 7 7 t.1 t.2 := List.forall_mem_cons.mpr ⟨cp_7_7_7, fun _ h => absurd h List.not_mem_nil⟩
theorem lp_7_35 : ∀ t ∈ vt 46, OkP 7 35 t.1 t.2 := List.forall_mem_cons.mpr ⟨cp_7_35_7, fun _ h => absurd h List.not_mem_nil⟩
theorem lp_9_1 : ∀ t ∈ vt 47, OkP 9 1 t.1 t.2 := List.forall_mem_cons.mpr ⟨ci_9_1_1, List.forall_mem_cons.mpr ⟨ci_9_1_3, List.forall_mem_cons.mpr ⟨ci_9_1_4, List.forall_mem_cons.mpr ⟨ci_9_1_5, List.forall_mem_cons.mpr ⟨ci_9_1_7, List.forall_mem_cons.mpr ⟨ci_9_1_9, List.forall_mem_cons.mpr ⟨ci_9_1_10, fun _ h => absurd h List.not_mem_nil⟩⟩⟩⟩⟩⟩⟩
theorem lp_9_31 : ∀ t ∈ vt 49, OkP 9 31 t.1 t.2 := List.forall_mem_cons.mpr ⟨cp_9_31_9, List.forall_mem_cons.mpr ⟨cp_9_31_7, fun _ h => absurd h List.not_mem_nil⟩⟩
theorem lp_10_1 : ∀ t ∈ vt 50, OkP 10 1 t.1 t.2 := List.forall_mem_cons.mpr ⟨ci_10_1_3, List.forall_mem_cons.mpr ⟨ci_10_1_10, fun _ h => absurd h List.not_mem_nil⟩⟩
theorem lp_10_7 : ∀ t ∈ vt 51, OkP 10 7 t.1 t.2 := List.forall_mem_cons.mpr ⟨cp_10_7_10, fun _ h => absurd h List.not_mem_nil⟩
theorem lp_10_29 : ∀ t ∈ vt 54, OkP 10 29 t.1 t.2 := List.forall_mem_cons.mpr ⟨cp_10_29_10, fun _ h => absurd h List.not_mem_nil⟩
theorem lp_11_13 : ∀ t ∈ vt 55, OkP 11 13 t.1 t.2 := List.forall_mem_cons.mpr ⟨ci_11_13_8, fun _ h => absurd h List.not_mem_nil⟩
theorem lp_11_46 : ∀ t ∈ vt 56, OkP 11 46 t.1 t.2 := List.forall_mem_cons.mpr ⟨ci_11_46_2, fun _ h => absurd h List.not_mem_nil⟩
theorem lp_11_58 : ∀ t ∈ vt 57, OkP 11 58 t.1 t.2 := List.forall_mem_cons.mpr ⟨ci_11_58_0, fun _ h => absurd h List.not_mem_nil⟩
theorem lp_11_294 : ∀ t ∈ vt 98, OkP 11 294 t.1 t.2 := List.forall_mem_cons.mpr ⟨ci_11_294_5, List.forall_mem_cons.mpr ⟨ci_11_294_4, fun _ h => absurd h List.not_mem_nil⟩⟩
theorem lp_11_299 : ∀ t ∈ vt 99, OkP 11 299 t.1 t.2 := List.forall_mem_cons.mpr ⟨ci_11_299_9, List.forall_mem_cons.mpr ⟨ci_11_299_7, fun _ h => absurd h List.not_mem_nil⟩⟩
theorem lp_11_302 : ∀ t ∈ vt 100, OkP 11 302 t.1 t.2 := List.forall_mem_cons.mpr ⟨ci_11_302_3, List.forall_mem_cons.mpr ⟨ci_11_302_10, fun _ h => absurd h List.not_mem_nil⟩⟩
theorem lp_11_305 : ∀ t ∈ vt 101, OkP 11 305 t.1 t.2 := List.forall_mem_cons.mpr ⟨ci_11_305_4, fun _ h => absurd h List.not_mem_nil⟩
theorem lp_11_308 : ∀ t ∈ vt 102, OkP 11 308 t.1 t.2 := List.forall_mem_cons.mpr ⟨ci_11_308_7, fun _ h => absurd h List.not_mem_nil⟩
theorem lp_11_311 : ∀ t ∈ vt 103, OkP 11 311 t.1 t.2 := List.forall_mem_cons.mpr ⟨ci_11_311_10, fun _ h => absurd h List.not_mem_nil⟩
theorem lp_11_312 : ∀ t ∈ vt 104, OkP 11 312 t.1 t.2 := List.forall_mem_cons.mpr ⟨ci_11_312_1, List.forall_mem_cons.mpr ⟨ci_11_312_3, List.forall_mem_cons.mpr ⟨ci_11_312_4, List.forall_mem_cons.mpr ⟨ci_11_312_5, List.forall_mem_cons.mpr ⟨ci_11_312_7, List.forall_mem_cons.mpr ⟨ci_11_312_9, List.forall_mem_cons.mpr ⟨ci_11_312_10, fun _ h => absurd h List.not_mem_nil⟩⟩⟩⟩⟩⟩⟩
theorem lp_17_1 : ∀ t ∈ vt 151, OkP 17 1 t.1 t.2 := List.forall_mem_cons.mpr ⟨ci_17_1_0, fun _ h => absurd h List.not_mem_nil⟩
theorem lp_19_9 : ∀ t ∈ vt 152, OkP 19 9 t.1 t.2 := List.forall_mem_cons.mpr ⟨ci_19_9_11, fun _ h => absurd h List.not_mem_nil⟩
theorem lp_19_12 : ∀ t ∈ vt 153, OkP 19 12 t.1 t.2 := List.forall_mem_cons.mpr ⟨ci_19_12_12, fun _ h => absurd h List.not_mem_nil⟩
set_option maxRecDepth 20000 in
theorem xLMp_ok : ∀ q ∈ xLMp, ∀ t ∈ vt q.2.1, OkP q.1.1 q.1.2 t.1 t.2 := List.forall_mem_cons.mpr ⟨lp_0_1, List.forall_mem_cons.mpr ⟨lp_1_9, List.forall_mem_cons.mpr ⟨lp_2_11, List.forall_mem_cons.mpr ⟨lp_3_1, List.forall_mem_cons.mpr ⟨lp_3_7, List.forall_mem_cons.mpr ⟨lp_3_29, List.forall_mem_cons.mpr ⟨lp_4_1, List.forall_mem_cons.mpr ⟨lp_4_7, List.forall_mem_cons.mpr ⟨lp_4_32, List.forall_mem_cons.mpr ⟨lp_5_1, List.forall_mem_cons.mpr ⟨lp_5_31, List.forall_mem_cons.mpr ⟨lp_7_1, List.forall_mem_cons.mpr ⟨lp_7_7, List.forall_mem_cons.mpr ⟨lp_7_35, List.forall_mem_cons.mpr ⟨lp_9_1, List.forall_mem_cons.mpr ⟨lp_9_31, List.forall_mem_cons.mpr ⟨lp_10_1, List.forall_mem_cons.mpr ⟨lp_10_7, List.forall_mem_cons.mpr ⟨lp_10_29, List.forall_mem_cons.mpr ⟨lp_11_13, List.forall_mem_cons.mpr ⟨lp_11_46, List.forall_mem_cons.mpr ⟨lp_11_58, List.forall_mem_cons.mpr ⟨lp_11_294, List.forall_mem_cons.mpr ⟨lp_11_299, List.forall_mem_cons.mpr ⟨lp_11_302, List.forall_mem_cons.mpr ⟨lp_11_305, List.forall_mem_cons.mpr ⟨lp_11_308, List.forall_mem_cons.mpr ⟨lp_11_311, List.forall_mem_cons.mpr ⟨lp_11_312, List.forall_mem_cons.mpr ⟨lp_17_1, List.forall_mem_cons.mpr ⟨lp_19_9, List.forall_mem_cons.mpr ⟨lp_19_12, fun _ h => absurd h List.not_mem_nil⟩⟩⟩⟩⟩⟩⟩⟩⟩⟩⟩⟩⟩⟩⟩⟩⟩⟩⟩⟩⟩⟩⟩⟩⟩⟩⟩⟩⟩⟩⟩⟩
theorem lv_0_69 : ∀ t ∈ vt 1, OkV 0 69 t.1 t.2 := List.forall_mem_cons.mpr ⟨cv_0_69_0, fun _ h => absurd h List.not_mem_nil⟩
theorem lv_0_123 : ∀ t ∈ vt 2, OkV 0 123 t.1 t.2 := List.forall_mem_cons.mpr ⟨cv_0_123_0, fun _ h => absurd h List.not_mem_nil⟩
theorem lv_0_129 : ∀ t ∈ vt 3, OkV 0 129 t.1 t.2 := List.forall_mem_cons.mpr ⟨cv_0_129_0, fun _ h => absurd h List.not_mem_nil⟩
theorem lv_0_131 : ∀ t ∈ vt 4, OkV 0 131 t.1 t.2 := List.forall_mem_cons.mpr ⟨cv_0_131_0, fun _ h => absurd h List.not_mem_nil⟩
theorem lv_0_144 : ∀ t ∈ vt 5, OkV 0 144 t.1 t.2 := List.forall_mem_cons.mpr ⟨cv_0_144_0, fun _ h => absurd h List.not_mem_nil⟩
theorem lv_1_33 : ∀ t ∈ vt 7, OkV 1 33 t.1 t.2 := List.forall_mem_cons.mpr ⟨cv_1_33_6, fun _ h => absurd h List.not_mem_nil⟩
theorem lv_1_37 : ∀ t ∈ vt 8, OkV 1 37 t.1 t.2 := List.forall_mem_cons.mpr ⟨cv_1_37_6, fun _ h => absurd h List.not_mem_nil⟩
theorem lv_1_50 : ∀ t ∈ vt 9, OkV 1 50 t.1 t.2 := List.forall_mem_cons.mpr ⟨cv_1_50_8, fun _ h => absurd h List.not_mem_nil⟩
theorem lv_1_56 : ∀ t ∈ vt 10, OkV 1 56 t.1 t.2 := List.forall_mem_cons.mpr ⟨cv_1_56_1, List.forall_mem_cons.mpr ⟨cv_1_56_3, List.forall_mem_cons.mpr ⟨cv_1_56_4, List.forall_mem_cons.mpr ⟨cv_1_56_5, List.forall_mem_cons.mpr ⟨cv_1_56_7, List.forall_mem_cons.mpr ⟨cv_1_56_9, List.forall_mem_cons.mpr ⟨cv_1_56_10, fun _ h => absurd h List.not_mem_nil⟩⟩⟩⟩⟩⟩⟩
theorem lv_1_63 : ∀ t ∈ vt 11, OkV 1 63 t.1 t.2 := List.forall_mem_cons.mpr ⟨cv_1_63_1, List.forall_mem_cons.mpr ⟨cv_1_63_3, List.forall_mem_cons.mpr ⟨cv_1_63_4, List.forall_mem_cons.mpr ⟨cv_1_63_5, List.forall_mem_cons.mpr ⟨cv_1_63_7, List.forall_mem_cons.mpr ⟨cv_1_63_9, List.forall_mem_cons.mpr ⟨cv_1_63_10, fun _ h => absurd h List.not_mem_nil⟩⟩⟩⟩⟩⟩⟩
theorem lv_2_26 : ∀ t ∈ vt 13, OkV 2 26 t.1 t.2 := List.forall_mem_cons.mpr ⟨cv_2_26_8, fun _ h => absurd h List.not_mem_nil⟩
theorem lv_2_30 : ∀ t ∈ vt 14, OkV 2 30 t.1 t.2 := List.forall_mem_cons.mpr ⟨cv_2_30_8, fun _ h => absurd h List.not_mem_nil⟩
theorem lv_2_33 : ∀ t ∈ vt 15, OkV 2 33 t.1 t.2 := List.forall_mem_cons.mpr ⟨cv_2_33_8, fun _ h => absurd h List.not_mem_nil⟩
theorem lv_2_36 : ∀ t ∈ vt 16, OkV 2 36 t.1 t.2 := List.forall_mem_cons.mpr ⟨cv_2_36_2, fun _ h => absurd h List.not_mem_nil⟩
theorem lv_2_44 : ∀ t ∈ vt 17, OkV 2 44 t.1 t.2 := List.forall_mem_cons.mpr ⟨cv_2_44_8, fun _ h => absurd h List.not_mem_nil⟩
theorem lv_2_47 : ∀ t ∈ vt 18, OkV 2 47 t.1 t.2 := List.forall_mem_cons.mpr ⟨cv_2_47_2, fun _ h => absurd h List.not_mem_nil⟩
theorem lv_2_61 : ∀ t ∈ vt 19, OkV 2 61 t.1 t.2 := List.forall_mem_cons.mpr ⟨cv_2_61_2, fun _ h => absurd h List.not_mem_nil⟩
theorem lv_2_90 : ∀ t ∈ vt 20, OkV 2 90 t.1 t.2 := List.forall_mem_cons.mpr ⟨cv_2_90_8, fun _ h => absurd h List.not_mem_nil⟩
theorem lv_2_96 : ∀ t ∈ vt 21, OkV 2 96 t.1 t.2 := List.forall_mem_cons.mpr ⟨cv_2_96_2, fun _ h => absurd h List.not_mem_nil⟩
theorem lv_2_100 : ∀ t ∈ vt 22, OkV 2 100 t.1 t.2 := List.forall_mem_cons.mpr ⟨cv_2_100_2, fun _ h => absurd h List.not_mem_nil⟩
theorem lv_2_106 : ∀ t ∈ vt 23, OkV 2 106 t.1 t.2 := List.forall_mem_cons.mpr ⟨cv_2_106_2, fun _ h => absurd h List.not_mem_nil⟩
theorem lv_2_110 : ∀ t ∈ vt 24, OkV 2 110 t.1 t.2 := List.forall_mem_cons.mpr ⟨cv_2_110_2, fun _ h => absurd h List.not_mem_nil⟩
theorem lv_2_114 : ∀ t ∈ vt 25, OkV 2 114 t.1 t.2 := List.forall_mem_cons.mpr ⟨cv_2_114_2, fun _ h => absurd h List.not_mem_nil⟩
theorem lv_2_124 : ∀ t ∈ vt 26, OkV 2 124 t.1 t.2 := List.forall_mem_cons.mpr ⟨cv_2_124_2, fun _ h => absurd h List.not_mem_nil⟩
theorem lv_2_127 : ∀ t ∈ vt 27, OkV 2 127 t.1 t.2 := List.forall_mem_cons.mpr ⟨cv_2_127_8, fun _ h => absurd h List.not_mem_nil⟩
theorem lv_2_131 : ∀ t ∈ vt 28, OkV 2 131 t.1 t.2 := List.forall_mem_cons.mpr ⟨cv_2_131_2, fun _ h => absurd h List.not_mem_nil⟩
theorem lv_2_134 : ∀ t ∈ vt 29, OkV 2 134 t.1 t.2 := List.forall_mem_cons.mpr ⟨cv_2_134_2, fun _ h => absurd h List.not_mem_nil⟩
theorem lv_2_137 : ∀ t ∈ vt 30, OkV 2 137 t.1 t.2 := List.forall_mem_cons.mpr ⟨cv_2_137_2, fun _ h => absurd h List.not_mem_nil⟩
theorem lv_3_23 : ∀ t ∈ vt 33, OkV 3 23 t.1 t.2 := List.forall_mem_cons.mpr ⟨cv_3_23_8, fun _ h => absurd h List.not_mem_nil⟩
theorem lv_4_26 : ∀ t ∈ vt 37, OkV 4 26 t.1 t.2 := List.forall_mem_cons.mpr ⟨cv_4_26_8, fun _ h => absurd h List.not_mem_nil⟩
theorem lv_4_36 : ∀ t ∈ vt 39, OkV 4 36 t.1 t.2 := List.forall_mem_cons.mpr ⟨cv_4_36_4, fun _ h => absurd h List.not_mem_nil⟩
theorem lv_5_25 : ∀ t ∈ vt 41, OkV 5 25 t.1 t.2 := List.forall_mem_cons.mpr ⟨cv_5_25_8, fun _ h => absurd h List.not_mem_nil⟩
theorem lv_7_29 : ∀ t ∈ vt 45, OkV 7 29 t.1 t.2 := List.forall_mem_cons.mpr ⟨cv_7_29_8, fun _ h => absurd h List.not_mem_nil⟩
theorem lv_9_25 : ∀ t ∈ vt 48, OkV 9 25 t.1 t.2 := List.forall_mem_cons.mpr ⟨cv_9_25_8, fun _ h => absurd h List.not_mem_nil⟩
theorem lv_10_11 : ∀ t ∈ vt 52, OkV 10 11 t.1 t.2 := List.forall_mem_cons.mpr ⟨cv_10_11_6, fun _ h => absurd h List.not_mem_nil⟩
theorem lv_10_23 : ∀ t ∈ vt 53, OkV 10 23 t.1 t.2 := List.forall_mem_cons.mpr ⟨cv_10_23_8, fun _ h => absurd h List.not_mem_nil⟩
theorem lv_11_78 : ∀ t ∈ vt 58, OkV 11 78 t.1 t.2 := List.forall_mem_cons.mpr ⟨cv_11_78_2, fun _ h => absurd h List.not_mem_nil⟩
theorem lv_11_82 : ∀ t ∈ vt 59, OkV 11 82 t.1 t.2 := List.forall_mem_cons.mpr ⟨cv_11_82_8, fun _ h => absurd h List.not_mem_nil⟩
theorem lv_11_85 : ∀ t ∈ vt 60, OkV 11 85 t.1 t.2 := List.forall_mem_cons.mpr ⟨cv_11_85_2, fun _ h => absurd h List.not_mem_nil⟩
theorem lv_11_94 : ∀ t ∈ vt 62, OkV 11 94 t.1 t.2 := List.forall_mem_cons.mpr ⟨cv_11_94_11, fun _ h => absurd h List.not_mem_nil⟩
theorem lv_11_119 : ∀ t ∈ vt 64, OkV 11 119 t.1 t.2 := List.forall_mem_cons.mpr ⟨cv_11_119_8, fun _ h => absurd h List.not_mem_nil⟩
theorem lv_11_124 : ∀ t ∈ vt 65, OkV 11 124 t.1 t.2 := List.forall_mem_cons.mpr ⟨cv_11_124_11, fun _ h => absurd h List.not_mem_nil⟩
theorem lv_11_140 : ∀ t ∈ vt 66, OkV 11 140 t.1 t.2 := List.forall_mem_cons.mpr ⟨cv_11_140_2, fun _ h => absurd h List.not_mem_nil⟩
theorem lv_11_144 : ∀ t ∈ vt 67, OkV 11 144 t.1 t.2 := List.forall_mem_cons.mpr ⟨cv_11_144_11, fun _ h => absurd h List.not_mem_nil⟩
theorem lv_11_147 : ∀ t ∈ vt 68, OkV 11 147 t.1 t.2 := List.forall_mem_cons.mpr ⟨cv_11_147_6, fun _ h => absurd h List.not_mem_nil⟩
theorem lv_11_151 : ∀ t ∈ vt 69, OkV 11 151 t.1 t.2 := List.forall_mem_cons.mpr ⟨cv_11_151_11, fun _ h => absurd h List.not_mem_nil⟩
theorem lv_11_155 : ∀ t ∈ vt 70, OkV 11 155 t.1 t.2 := List.forall_mem_cons.mpr ⟨cv_11_155_8, fun _ h => absurd h List.not_mem_nil⟩
theorem lv_11_161 : ∀ t ∈ vt 71, OkV 11 161 t.1 t.2 := List.forall_mem_cons.mpr ⟨cv_11_161_2, fun _ h => absurd h List.not_mem_nil⟩
theorem lv_11_164 : ∀ t ∈ vt 72, OkV 11 164 t.1 t.2 := List.forall_mem_cons.mpr ⟨cv_11_164_2, fun _ h => absurd h List.not_mem_nil⟩
theorem lv_11_167 : ∀ t ∈ vt 73, OkV 11 167 t.1 t.2 := List.forall_mem_cons.mpr ⟨cv_11_167_11, fun _ h => absurd h List.not_mem_nil⟩
theorem lv_11_170 : ∀ t ∈ vt 74, OkV 11 170 t.1 t.2 := List.forall_mem_cons.mpr ⟨cv_11_170_11, fun _ h => absurd h List.not_mem_nil⟩
theorem lv_11_186 : ∀ t ∈ vt 76, OkV 11 186 t.1 t.2 := List.forall_mem_cons.mpr ⟨cv_11_186_6, fun _ h => absurd h List.not_mem_nil⟩
theorem lv_11_190 : ∀ t ∈ vt 77, OkV 11 190 t.1 t.2 := List.forall_mem_cons.mpr ⟨cv_11_190_11, fun _ h => absurd h List.not_mem_nil⟩
theorem lv_11_194 : ∀ t ∈ vt 78, OkV 11 194 t.1 t.2 := List.forall_mem_cons.mpr ⟨cv_11_194_1, List.forall_mem_cons.mpr ⟨cv_11_194_3, List.forall_mem_cons.mpr ⟨cv_11_194_4, List.forall_mem_cons.mpr ⟨cv_11_194_5, List.forall_mem_cons.mpr ⟨cv_11_194_7, List.forall_mem_cons.mpr ⟨cv_11_194_9, List.forall_mem_cons.mpr ⟨cv_11_194_10, fun _ h => absurd h List.not_mem_nil⟩⟩⟩⟩⟩⟩⟩
theorem lv_11_198 : ∀ t ∈ vt 79, OkV 11 198 t.1 t.2 := List.forall_mem_cons.mpr ⟨cv_11_198_8, fun _ h => absurd h List.not_mem_nil⟩
theorem lv_11_200 : ∀ t ∈ vt 80, OkV 11 200 t.1 t.2 := List.forall_mem_cons.mpr ⟨cv_11_200_1, List.forall_mem_cons.mpr ⟨cv_11_200_3, List.forall_mem_cons.mpr ⟨cv_11_200_4, List.forall_mem_cons.mpr ⟨cv_11_200_5, List.forall_mem_cons.mpr ⟨cv_11_200_7, List.forall_mem_cons.mpr ⟨cv_11_200_9, List.forall_mem_cons.mpr ⟨cv_11_200_10, fun _ h => absurd h List.not_mem_nil⟩⟩⟩⟩⟩⟩⟩
theorem lv_11_204 : ∀ t ∈ vt 81, OkV 11 204 t.1 t.2 := List.forall_mem_cons.mpr ⟨cv_11_204_11, fun _ h => absurd h List.not_mem_nil⟩
theorem lv_11_212 : ∀ t ∈ vt 82, OkV 11 212 t.1 t.2 := List.forall_mem_cons.mpr ⟨cv_11_212_11, fun _ h => absurd h List.not_mem_nil⟩
theorem lv_11_230 : ∀ t ∈ vt 83, OkV 11 230 t.1 t.2 := List.forall_mem_cons.mpr ⟨cv_11_230_11, fun _ h => absurd h List.not_mem_nil⟩
theorem lv_11_233 : ∀ t ∈ vt 84, OkV 11 233 t.1 t.2 := List.forall_mem_cons.mpr ⟨cv_11_233_11, fun _ h => absurd h List.not_mem_nil⟩
theorem lv_11_236 : ∀ t ∈ vt 85, OkV 11 236 t.1 t.2 := List.forall_mem_cons.mpr ⟨cv_11_236_11, fun _ h => absurd h List.not_mem_nil⟩
theorem lv_11_248 : ∀ t ∈ vt 86, OkV 11 248 t.1 t.2 := List.forall_mem_cons.mpr ⟨cv_11_248_11, fun _ h => absurd h List.not_mem_nil⟩
theorem lv_11_252 : ∀ t ∈ vt 87, OkV 11 252 t.1 t.2 := List.forall_mem_cons.mpr ⟨cv_11_252_11, fun _ h => absurd h List.not_mem_nil⟩
theorem lv_11_255 : ∀ t ∈ vt 88, OkV 11 255 t.1 t.2 := List.forall_mem_cons.mpr ⟨cv_11_255_1, List.forall_mem_cons.mpr ⟨cv_11_255_3, List.forall_mem_cons.mpr ⟨cv_11_255_4, List.forall_mem_cons.mpr ⟨cv_11_255_5, List.forall_mem_cons.mpr ⟨cv_11_255_7, List.forall_mem_cons.mpr ⟨cv_11_255_9, List.forall_mem_cons.mpr ⟨cv_11_255_10, fun _ h => absurd h List.not_mem_nil⟩⟩⟩⟩⟩⟩⟩
theorem lv_11_258 : ∀ t ∈ vt 89, OkV 11 258 t.1 t.2 := List.forall_mem_cons.mpr ⟨cv_11_258_1, List.forall_mem_cons.mpr ⟨cv_11_258_3, List.forall_mem_cons.mpr ⟨cv_11_258_4, List.forall_mem_cons.mpr ⟨cv_11_258_5, List.forall_mem_cons.mpr ⟨cv_11_258_7, List.forall_mem_cons.mpr ⟨cv_11_258_9, List.forall_mem_cons.mpr ⟨cv_11_258_10, fun _ h => absurd h List.not_mem_nil⟩⟩⟩⟩⟩⟩⟩
theorem lv_11_261 : ∀ t ∈ vt 90, OkV 11 261 t.1 t.2 := List.forall_mem_cons.mpr ⟨cv_11_261_1, List.forall_mem_cons.mpr ⟨cv_11_261_3, List.forall_mem_cons.mpr ⟨cv_11_261_4, List.forall_mem_cons.mpr ⟨cv_11_261_5, List.forall_mem_cons.mpr ⟨cv_11_261_7, List.forall_mem_cons.mpr ⟨cv_11_261_9, List.forall_mem_cons.mpr ⟨cv_11_261_10, fun _ h => absurd h List.not_mem_nil⟩⟩⟩⟩⟩⟩⟩
theorem lv_11_267 : ∀ t ∈ vt 91, OkV 11 267 t.1 t.2 := List.forall_mem_cons.mpr ⟨cv_11_267_8, fun _ h => absurd h List.not_mem_nil⟩
theorem lv_11_270 : ∀ t ∈ vt 92, OkV 11 270 t.1 t.2 := List.forall_mem_cons.mpr ⟨cv_11_270_2, fun _ h => absurd h List.not_mem_nil⟩
theorem lv_11_271 : ∀ t ∈ vt 93, OkV 11 271 t.1 t.2 := List.forall_mem_cons.mpr ⟨cv_11_271_1, List.forall_mem_cons.mpr ⟨cv_11_271_3, List.forall_mem_cons.mpr ⟨cv_11_271_4, List.forall_mem_cons.mpr ⟨cv_11_271_5, List.forall_mem_cons.mpr ⟨cv_11_271_7, List.forall_mem_cons.mpr ⟨cv_11_271_9, List.forall_mem_cons.mpr ⟨cv_11_271_10, fun _ h => absurd h List.not_mem_nil⟩⟩⟩⟩⟩⟩⟩
theorem lv_11_278 : ∀ t ∈ vt 94, OkV 11 278 t.1 t.2 := List.forall_mem_cons.mpr ⟨cv_11_278_8, fun _ h => absurd h List.not_mem_nil⟩
theorem lv_11_281 : ∀ t ∈ vt 95, OkV 11 281 t.1 t.2 := List.forall_mem_cons.mpr ⟨cv_11_281_2, fun _ h => absurd h List.not_mem_nil⟩
theorem lv_11_285 : ∀ t ∈ vt 97, OkV 11 285 t.1 t.2 := List.forall_mem_cons.mpr ⟨cv_11_285_1, List.forall_mem_cons.mpr ⟨cv_11_285_3, List.forall_mem_cons.mpr ⟨cv_11_285_4, List.forall_mem_cons.mpr ⟨cv_11_285_5, List.forall_mem_cons.mpr ⟨cv_11_285_7, List.forall_mem_cons.mpr ⟨cv_11_285_9, List.forall_mem_cons.mpr ⟨cv_11_285_10, fun _ h => absurd h List.not_mem_nil⟩⟩⟩⟩⟩⟩⟩
theorem lv_11_313 : ∀ t ∈ vt 105, OkV 11 313 t.1 t.2 := List.forall_mem_cons.mpr ⟨cv_11_313_1, List.forall_mem_cons.mpr ⟨cv_11_313_3, List.forall_mem_cons.mpr ⟨cv_11_313_4, List.forall_mem_cons.mpr ⟨cv_11_313_5, List.forall_mem_cons.mpr ⟨cv_11_313_7, List.forall_mem_cons.mpr ⟨cv_11_313_9, List.forall_mem_cons.mpr ⟨cv_11_313_10, fun _ h => absurd h List.not_mem_nil⟩⟩⟩⟩⟩⟩⟩
theorem lv_11_317 : ∀ t ∈ vt 106, OkV 11 317 t.1 t.2 := List.forall_mem_cons.mpr ⟨cv_11_317_8, fun _ h => absurd h List.not_mem_nil⟩
theorem lv_11_326 : ∀ t ∈ vt 107, OkV 11 326 t.1 t.2 := List.forall_mem_cons.mpr ⟨cv_11_326_11, fun _ h => absurd h List.not_mem_nil⟩
theorem lv_11_329 : ∀ t ∈ vt 108, OkV 11 329 t.1 t.2 := List.forall_mem_cons.mpr ⟨cv_11_329_11, fun _ h => absurd h List.not_mem_nil⟩
theorem lv_12_68 : ∀ t ∈ vt 109, OkV 12 68 t.1 t.2 := List.forall_mem_cons.mpr ⟨cv_12_68_12, fun _ h => absurd h List.not_mem_nil⟩
theorem lv_12_81 : ∀ t ∈ vt 110, OkV 12 81 t.1 t.2 := List.forall_mem_cons.mpr ⟨cv_12_81_12, fun _ h => absurd h List.not_mem_nil⟩
theorem lv_12_91 : ∀ t ∈ vt 111, OkV 12 91 t.1 t.2 := List.forall_mem_cons.mpr ⟨cv_12_91_12, fun _ h => absurd h List.not_mem_nil⟩
theorem lv_12_94 : ∀ t ∈ vt 112, OkV 12 94 t.1 t.2 := List.forall_mem_cons.mpr ⟨cv_12_94_12, fun _ h => absurd h List.not_mem_nil⟩
theorem lv_12_97 : ∀ t ∈ vt 113, OkV 12 97 t.1 t.2 := List.forall_mem_cons.mpr ⟨cv_12_97_12, fun _ h => absurd h List.not_mem_nil⟩
theorem lv_12_102 : ∀ t ∈ vt 114, OkV 12 102 t.1 t.2 := List.forall_mem_cons.mpr ⟨cv_12_102_12, fun _ h => absurd h List.not_mem_nil⟩
theorem lv_12_108 : ∀ t ∈ vt 115, OkV 12 108 t.1 t.2 := List.forall_mem_cons.mpr ⟨cv_12_108_12, fun _ h => absurd h List.not_mem_nil⟩
theorem lv_12_111 : ∀ t ∈ vt 116, OkV 12 111 t.1 t.2 := List.forall_mem_cons.mpr ⟨cv_12_111_12, fun _ h => absurd h List.not_mem_nil⟩
theorem lv_12_114 : ∀ t ∈ vt 117, OkV 12 114 t.1 t.2 := List.forall_mem_cons.mpr ⟨cv_12_114_12, fun _ h => absurd h List.not_mem_nil⟩
theorem lv_12_120 : ∀ t ∈ vt 118, OkV 12 120 t.1 t.2 := List.forall_mem_cons.mpr ⟨cv_12_120_12, fun _ h => absurd h List.not_mem_nil⟩
theorem lv_12_128 : ∀ t ∈ vt 119, OkV 12 128 t.1 t.2 := List.forall_mem_cons.mpr ⟨cv_12_128_12, fun _ h => absurd h List.not_mem_nil⟩
theorem lv_12_133 : ∀ t ∈ vt 120, OkV 12 133 t.1 t.2 := List.forall_mem_cons.mpr ⟨cv_12_133_12, fun _ h => absurd h List.not_mem_nil⟩
theorem lv_12_136 : ∀ t ∈ vt 121, OkV 12 136 t.1 t.2 := List.forall_mem_cons.mpr ⟨cv_12_136_12, fun _ h => absurd h List.not_mem_nil⟩
theorem lv_12_139 : ∀ t ∈ vt 122, OkV 12 139 t.1 t.2 := List.forall_mem_cons.mpr ⟨cv_12_139_12, fun _ h => absurd h List.not_mem_nil⟩
theorem lv_12_143 : ∀ t ∈ vt 123, OkV 12 143 t.1 t.2 := List.forall_mem_cons.mpr ⟨cv_12_143_12, fun _ h => absurd h List.not_mem_nil⟩
theorem lv_12_146 : ∀ t ∈ vt 124, OkV 12 146 t.1 t.2 := List.forall_mem_cons.mpr ⟨cv_12_146_12, fun _ h => absurd h List.not_mem_nil⟩
theorem lv_12_156 : ∀ t ∈ vt 125, OkV 12 156 t.1 t.2 := List.forall_mem_cons.mpr ⟨cv_12_156_12, fun _ h => absurd h List.not_mem_nil⟩
theorem lv_12_159 : ∀ t ∈ vt 126, OkV 12 159 t.1 t.2 := List.forall_mem_cons.mpr ⟨cv_12_159_12, fun _ h => absurd h List.not_mem_nil⟩
theorem lv_12_162 : ∀ t ∈ vt 127, OkV 12 162 t.1 t.2 := List.forall_mem_cons.mpr ⟨cv_12_162_12, fun _ h => absurd h List.not_mem_nil⟩
theorem lv_12_165 : ∀ t ∈ vt 128, OkV 12 165 t.1 t.2 := List.forall_mem_cons.mpr ⟨cv_12_165_12, fun _ h => absurd h List.not_mem_nil⟩
theorem lv_12_168 : ∀ t ∈ vt 129, OkV 12 168 t.1 t.2 := List.forall_mem_cons.mpr ⟨cv_12_168_12, fun _ h => absurd h List.not_mem_nil⟩
theorem lv_12_171 : ∀ t ∈ vt 130, OkV 12 171 t.1 t.2 := List.forall_mem_cons.mpr ⟨cv_12_171_12, fun _ h => absurd h List.not_mem_nil⟩
theorem lv_12_178 : ∀ t ∈ vt 131, OkV 12 178 t.1 t.2 := List.forall_mem_cons.mpr ⟨cv_12_178_12, fun _ h => absurd h List.not_mem_nil⟩
theorem lv_12_182 : ∀ t ∈ vt 132, OkV 12 182 t.1 t.2 := List.forall_mem_cons.mpr ⟨cv_12_182_12, fun _ h => absurd h List.not_mem_nil⟩
theorem lv_12_185 : ∀ t ∈ vt 133, OkV 12 185 t.1 t.2 := List.forall_mem_cons.mpr ⟨cv_12_185_12, fun _ h => absurd h List.not_mem_nil⟩
theorem lv_12_188 : ∀ t ∈ vt 134, OkV 12 188 t.1 t.2 := List.forall_mem_cons.mpr ⟨cv_12_188_12, fun _ h => absurd h List.not_mem_nil⟩
theorem lv_12_191 : ∀ t ∈ vt 135, OkV 12 191 t.1 t.2 := List.forall_mem_cons.mpr ⟨cv_12_191_12, fun _ h => absurd h List.not_mem_nil⟩
theorem lv_12_194 : ∀ t ∈ vt 136, OkV 12 194 t.1 t.2 := List.forall_mem_cons.mpr ⟨cv_12_194_12, fun _ h => absurd h List.not_mem_nil⟩
theorem lv_12_198 : ∀ t ∈ vt 137, OkV 12 198 t.1 t.2 := List.forall_mem_cons.mpr ⟨cv_12_198_12, fun _ h => absurd h List.not_mem_nil⟩
theorem lv_12_201 : ∀ t ∈ vt 138, OkV 12 201 t.1 t.2 := List.forall_mem_cons.mpr ⟨cv_12_201_12, fun _ h => absurd h List.not_mem_nil⟩
theorem lv_12_210 : ∀ t ∈ vt 139, OkV 12 210 t.1 t.2 := List.forall_mem_cons.mpr ⟨cv_12_210_12, fun _ h => absurd h List.not_mem_nil⟩
theorem lv_12_217 : ∀ t ∈ vt 140, OkV 12 217 t.1 t.2 := List.forall_mem_cons.mpr ⟨cv_12_217_12, fun _ h => absurd h List.not_mem_nil⟩
theorem lv_12_223 : ∀ t ∈ vt 141, OkV 12 223 t.1 t.2 := List.forall_mem_cons.mpr ⟨cv_12_223_12, fun _ h => absurd h List.not_mem_nil⟩
theorem lv_12_226 : ∀ t ∈ vt 142, OkV 12 226 t.1 t.2 := List.forall_mem_cons.mpr ⟨cv_12_226_12, fun _ h => absurd h List.not_mem_nil⟩
theorem lv_12_236 : ∀ t ∈ vt 143, OkV 12 236 t.1 t.2 := List.forall_mem_cons.mpr ⟨cv_12_236_12, fun _ h => absurd h List.not_mem_nil⟩
theorem lv_12_242 : ∀ t ∈ vt 144, OkV 12 242 t.1 t.2 := List.forall_mem_cons.mpr ⟨cv_12_242_12, fun _ h => absurd h List.not_mem_nil⟩
theorem lv_12_255 : ∀ t ∈ vt 145, OkV 12 255 t.1 t.2 := List.forall_mem_cons.mpr ⟨cv_12_255_12, fun _ h => absurd h List.not_mem_nil⟩
theorem lv_12_258 : ∀ t ∈ vt 146, OkV 12 258 t.1 t.2 := List.forall_mem_cons.mpr ⟨cv_12_258_12, fun _ h => absurd h List.not_mem_nil⟩
theorem lv_12_264 : ∀ t ∈ vt 147, OkV 12 264 t.1 t.2 := List.forall_mem_cons.mpr ⟨cv_12_264_12, fun _ h => absurd h List.not_mem_nil⟩
theorem lv_12_267 : ∀ t ∈ vt 148, OkV 12 267 t.1 t.2 := List.forall_mem_cons.mpr ⟨cv_12_267_12, fun _ h => absurd h List.not_mem_nil⟩
theorem lv_12_270 : ∀ t ∈ vt 149, OkV 12 270 t.1 t.2 := List.forall_mem_cons.mpr ⟨cv_12_270_12, fun _ h => absurd h List.not_mem_nil⟩
theorem lv_12_273 : ∀ t ∈ vt 150, OkV 12 273 t.1 t.2 := List.forall_mem_cons.mpr ⟨cv_12_273_12, fun _ h => absurd h List.not_mem_nil⟩
theorem lv_19_13 : ∀ t ∈ vt 154, OkV 19 13 t.1 t.2 := List.forall_mem_cons.mpr ⟨cv_19_13_11, fun _ h => absurd h List.not_mem_nil⟩
theorem lv_19_17 : ∀ t ∈ vt 155, OkV 19 17 t.1 t.2 := List.forall_mem_cons.mpr ⟨cv_19_17_12, fun _ h => absurd h List.not_mem_nil⟩
theorem lv_19_18 : ∀ t ∈ vt 156, OkV 19 18 t.1 t.2 := List.forall_mem_cons.mpr ⟨cv_19_18_11, fun _ h => absurd h List.not_mem_nil⟩
theorem lv_19_22 : ∀ t ∈ vt 157, OkV 19 22 t.1 t.2 := List.forall_mem_cons.mpr ⟨cv_19_22_12, fun _ h => absurd h List.not_mem_nil⟩
theorem lv_19_23 : ∀ t ∈ vt 158, OkV 19 23 t.1 t.2 := List.forall_mem_cons.mpr ⟨cv_19_23_11, fun _ h => absurd h List.not_mem_nil⟩
theorem lv_19_27 : ∀ t ∈ vt 159, OkV 19 27 t.1 t.2 := List.forall_mem_cons.mpr ⟨cv_19_27_12, fun _ h => absurd h List.not_mem_nil⟩
theorem lv_19_28 : ∀ t ∈ vt 160, OkV 19 28 t.1 t.2 := List.forall_mem_cons.mpr ⟨cv_19_28_11, fun _ h => absurd h List.not_mem_nil⟩
theorem lv_19_31 : ∀ t ∈ vt 161, OkV 19 31 t.1 t.2 := List.forall_mem_cons.mpr ⟨cv_19_31_12, fun _ h => absurd h List.not_mem_nil⟩
theorem lv_19_32 : ∀ t ∈ vt 162, OkV 19 32 t.1 t.2 := List.forall_mem_cons.mpr ⟨cv_19_32_11, fun _ h => absurd h List.not_mem_nil⟩
theorem lv_19_36 : ∀ t ∈ vt 163, OkV 19 36 t.1 t.2 := List.forall_mem_cons.mpr ⟨cv_19_36_12, fun _ h => absurd h List.not_mem_nil⟩
theorem lv_19_37 : ∀ t ∈ vt 164, OkV 19 37 t.1 t.2 := List.forall_mem_cons.mpr ⟨cv_19_37_11, fun _ h => absurd h List.not_mem_nil⟩
theorem lv_19_40 : ∀ t ∈ vt 165, OkV 19 40 t.1 t.2 := List.forall_mem_cons.mpr ⟨cv_19_40_12, fun _ h => absurd h List.not_mem_nil⟩
theorem lv_19_41 : ∀ t ∈ vt 166, OkV 19 41 t.1 t.2 := List.forall_mem_cons.mpr ⟨cv_19_41_11, fun _ h => absurd h List.not_mem_nil⟩
theorem lv_19_44 : ∀ t ∈ vt 167, OkV 19 44 t.1 t.2 := List.forall_mem_cons.mpr ⟨cv_19_44_12, fun _ h => absurd h List.not_mem_nil⟩
theorem lv_19_45 : ∀ t ∈ vt 168, OkV 19 45 t.1 t.2 := List.forall_mem_cons.mpr ⟨cv_19_45_11, fun _ h => absurd h List.not_mem_nil⟩
theorem lv_19_48 : ∀ t ∈ vt 169, OkV 19 48 t.1 t.2 := List.forall_mem_cons.mpr ⟨cv_19_48_12, fun _ h => absurd h List.not_mem_nil⟩
theorem lv_19_49 : ∀ t ∈ vt 170, OkV 19 49 t.1 t.2 := List.forall_mem_cons.mpr ⟨cv_19_49_11, fun _ h => absurd h List.not_mem_nil⟩
theorem lv_19_52 : ∀ t ∈ vt 171, OkV 19 52 t.1 t.2 := List.forall_mem_cons.mpr ⟨cv_19_52_12, fun _ h => absurd h List.not_mem_nil⟩
theorem lv_19_53 : ∀ t ∈ vt 172, OkV 19 53 t.1 t.2 := List.forall_mem_cons.mpr ⟨cv_19_53_11, fun _ h => absurd h List.not_mem_nil⟩
theorem lv_19_56 : ∀ t ∈ vt 173, OkV 19 56 t.1 t.2 := List.forall_mem_cons.mpr ⟨cv_19_56_12, fun _ h => absurd h List.not_mem_nil⟩
theorem lv_19_57 : ∀ t ∈ vt 174, OkV 19 57 t.1 t.2 := List.forall_mem_cons.mpr ⟨cv_19_57_11, fun _ h => absurd h List.not_mem_nil⟩
theorem lv_19_60 : ∀ t ∈ vt 175, OkV 19 60 t.1 t.2 := List.forall_mem_cons.mpr ⟨cv_19_60_12, fun _ h => absurd h List.not_mem_nil⟩
theorem lv_19_61 : ∀ t ∈ vt 176, OkV 19 61 t.1 t.2 := List.forall_mem_cons.mpr ⟨cv_19_61_11, fun _ h => absurd h List.not_mem_nil⟩
theorem lv_19_64 : ∀ t ∈ vt 177, OkV 19 64 t.1 t.2 := List.forall_mem_cons.mpr ⟨cv_19_64_12, fun _ h => absurd h List.not_mem_nil⟩
theorem lv_19_65 : ∀ t ∈ vt 178, OkV 19 65 t.1 t.2 := List.forall_mem_cons.mpr ⟨cv_19_65_11, fun _ h => absurd h List.not_mem_nil⟩
theorem lv_19_68 : ∀ t ∈ vt 179, OkV 19 68 t.1 t.2 := List.forall_mem_cons.mpr ⟨cv_19_68_12, fun _ h => absurd h List.not_mem_nil⟩
theorem lv_19_69 : ∀ t ∈ vt 180, OkV 19 69 t.1 t.2 := List.forall_mem_cons.mpr ⟨cv_19_69_11, fun _ h => absurd h List.not_mem_nil⟩
theorem lv_19_72 : ∀ t ∈ vt 181, OkV 19 72 t.1 t.2 := List.forall_mem_cons.mpr ⟨cv_19_72_12, fun _ h => absurd h List.not_mem_nil⟩
theorem lv_19_73 : ∀ t ∈ vt 182, OkV 19 73 t.1 t.2 := List.forall_mem_cons.mpr ⟨cv_19_73_11, fun _ h => absurd h List.not_mem_nil⟩
theorem lv_19_76 : ∀ t ∈ vt 183, OkV 19 76 t.1 t.2 := List.forall_mem_cons.mpr ⟨cv_19_76_12, fun _ h => absurd h List.not_mem_nil⟩
theorem lv_19_77 : ∀ t ∈ vt 184, OkV 19 77 t.1 t.2 := List.forall_mem_cons.mpr ⟨cv_19_77_11, fun _ h => absurd h List.not_mem_nil⟩
theorem lv_19_80 : ∀ t ∈ vt 185, OkV 19 80 t.1 t.2 := List.forall_mem_cons.mpr ⟨cv_19_80_12, fun _ h => absurd h List.not_mem_nil⟩
theorem lv_19_81 : ∀ t ∈ vt 186, OkV 19 81 t.1 t.2 := List.forall_mem_cons.mpr ⟨cv_19_81_11, fun _ h => absurd h List.not_mem_nil⟩
theorem lv_19_84 : ∀ t ∈ vt 187, OkV 19 84 t.1 t.2 := List.forall_mem_cons.mpr ⟨cv_19_84_12, fun _ h => absurd h List.not_mem_nil⟩
theorem lv_19_85 : ∀ t ∈ vt 188, OkV 19 85 t.1 t.2 := List.forall_mem_cons.mpr ⟨cv_19_85_11, fun _ h => absurd h List.not_mem_nil⟩
theorem lv_19_88 : ∀ t ∈ vt 189, OkV 19 88 t.1 t.2 := List.forall_mem_cons.mpr ⟨cv_19_88_12, fun _ h => absurd h List.not_mem_nil⟩
theorem lv_19_89 : ∀ t ∈ vt 190, OkV 19 89 t.1 t.2 := List.forall_mem_cons.mpr ⟨cv_19_89_11, fun _ h => absurd h List.not_mem_nil⟩
theorem lv_19_92 : ∀ t ∈ vt 191, OkV 19 92 t.1 t.2 := List.forall_mem_cons.mpr ⟨cv_19_92_12, fun _ h => absurd h List.not_mem_nil⟩
theorem lv_19_93 : ∀ t ∈ vt 192, OkV 19 93 t.1 t.2 := List.forall_mem_cons.mpr ⟨cv_19_93_11, fun _ h => absurd h List.not_mem_nil⟩
theorem lv_19_96 : ∀ t ∈ vt 193, OkV 19 96 t.1 t.2 := List.forall_mem_cons.mpr ⟨cv_19_96_12, fun _ h => absurd h List.not_mem_nil⟩
theorem lv_19_97 : ∀ t ∈ vt 194, OkV 19 97 t.1 t.2 := List.forall_mem_cons.mpr ⟨cv_19_97_11, fun _ h => absurd h List.not_mem_nil⟩
theorem lv_19_100 : ∀ t ∈ vt 195, OkV 19 100 t.1 t.2 := List.forall_mem_cons.mpr ⟨cv_19_100_12, fun _ h => absurd h List.not_mem_nil⟩
theorem lv_19_101 : ∀ t ∈ vt 196, OkV 19 101 t.1 t.2 := List.forall_mem_cons.mpr ⟨cv_19_101_11, fun _ h => absurd h List.not_mem_nil⟩
theorem lv_19_104 : ∀ t ∈ vt 197, OkV 19 104 t.1 t.2 := List.forall_mem_cons.mpr ⟨cv_19_104_12, fun _ h => absurd h List.not_mem_nil⟩
theorem lv_19_105 : ∀ t ∈ vt 198, OkV 19 105 t.1 t.2 := List.forall_mem_cons.mpr ⟨cv_19_105_11, fun _ h => absurd h List.not_mem_nil⟩
theorem lv_19_108 : ∀ t ∈ vt 199, OkV 19 108 t.1 t.2 := List.forall_mem_cons.mpr ⟨cv_19_108_12, fun _ h => absurd h List.not_mem_nil⟩
theorem lv_19_109 : ∀ t ∈ vt 200, OkV 19 109 t.1 t.2 := List.forall_mem_cons.mpr ⟨cv_19_109_11, fun _ h => absurd h List.not_mem_nil⟩
theorem lv_19_112 : ∀ t ∈ vt 201, OkV 19 112 t.1 t.2 := List.forall_mem_cons.mpr ⟨cv_19_112_12, fun _ h => absurd h List.not_mem_nil⟩
theorem lv_19_113 : ∀ t ∈ vt 202, OkV 19 113 t.1 t.2 := List.forall_mem_cons.mpr ⟨cv_19_113_11, fun _ h => absurd h List.not_mem_nil⟩
theorem lv_19_116 : ∀ t ∈ vt 203, OkV 19 116 t.1 t.2 := List.forall_mem_cons.mpr ⟨cv_19_116_12, fun _ h => absurd h List.not_mem_nil⟩
theorem lv_19_117 : ∀ t ∈ vt 204, OkV 19 117 t.1 t.2 := List.forall_mem_cons.mpr ⟨cv_19_117_11, fun _ h => absurd h List.not_mem_nil⟩
theorem lv_19_121 : ∀ t ∈ vt 205, OkV 19 121 t.1 t.2 := List.forall_mem_cons.mpr ⟨cv_19_121_12, fun _ h => absurd h List.not_mem_nil⟩
theorem lv_19_122 : ∀ t ∈ vt 206, OkV 19 122 t.1 t.2 := List.forall_mem_cons.mpr ⟨cv_19_122_11, fun _ h => absurd h List.not_mem_nil⟩
theorem lv_19_126 : ∀ t ∈ vt 207, OkV 19 126 t.1 t.2 := List.forall_mem_cons.mpr ⟨cv_19_126_12, fun _ h => absurd h List.not_mem_nil⟩
theorem lv_19_127 : ∀ t ∈ vt 208, OkV 19 127 t.1 t.2 := List.forall_mem_cons.mpr ⟨cv_19_127_11, fun _ h => absurd h List.not_mem_nil⟩
theorem lv_19_130 : ∀ t ∈ vt 209, OkV 19 130 t.1 t.2 := List.forall_mem_cons.mpr ⟨cv_19_130_12, fun _ h => absurd h List.not_mem_nil⟩
theorem lv_19_131 : ∀ t ∈ vt 210, OkV 19 131 t.1 t.2 := List.forall_mem_cons.mpr ⟨cv_19_131_11, fun _ h => absurd h List.not_mem_nil⟩
theorem lv_19_134 : ∀ t ∈ vt 211, OkV 19 134 t.1 t.2 := List.forall_mem_cons.mpr ⟨cv_19_134_12, fun _ h => absurd h List.not_mem_nil⟩
theorem lv_19_135 : ∀ t ∈ vt 212, OkV 19 135 t.1 t.2 := List.forall_mem_cons.mpr ⟨cv_19_135_11, fun _ h => absurd h List.not_mem_nil⟩
theorem lv_19_138 : ∀ t ∈ vt 213, OkV 19 138 t.1 t.2 := List.forall_mem_cons.mpr ⟨cv_19_138_12, fun _ h => absurd h List.not_mem_nil⟩
theorem lv_19_139 : ∀ t ∈ vt 214, OkV 19 139 t.1 t.2 := List.forall_mem_cons.mpr ⟨cv_19_139_11, fun _ h => absurd h List.not_mem_nil⟩
theorem lv_19_142 : ∀ t ∈ vt 215, OkV 19 142 t.1 t.2 := List.forall_mem_cons.mpr ⟨cv_19_142_12, fun _ h => absurd h List.not_mem_nil⟩
theorem lv_19_143 : ∀ t ∈ vt 216, OkV 19 143 t.1 t.2 := List.forall_mem_cons.mpr ⟨cv_19_143_11, fun _ h => absurd h List.not_mem_nil⟩
theorem lv_19_146 : ∀ t ∈ vt 217, OkV 19 146 t.1 t.2 := List.forall_mem_cons.mpr ⟨cv_19_146_12, fun _ h => absurd h List.not_mem_nil⟩
theorem lv_19_147 : ∀ t ∈ vt 218, OkV 19 147 t.1 t.2 := List.forall_mem_cons.mpr ⟨cv_19_147_11, fun _ h => absurd h List.not_mem_nil⟩
theorem lv_19_150 : ∀ t ∈ vt 219, OkV 19 150 t.1 t.2 := List.forall_mem_cons.mpr ⟨cv_19_150_12, fun _ h => absurd h List.not_mem_nil⟩
theorem lv_19_151 : ∀ t ∈ vt 220, OkV 19 151 t.1 t.2 := List.forall_mem_cons.mpr ⟨cv_19_151_11, fun _ h => absurd h List.not_mem_nil⟩
theorem lv_19_154 : ∀ t ∈ vt 221, OkV 19 154 t.1 t.2 := List.forall_mem_cons.mpr ⟨cv_19_154_12, fun _ h => absurd h List.not_mem_nil⟩
theorem lv_19_155 : ∀ t ∈ vt 222, OkV 19 155 t.1 t.2 := List.forall_mem_cons.mpr ⟨cv_19_155_11, fun _ h => absurd h List.not_mem_nil⟩
theorem lv_19_158 : ∀ t ∈ vt 223, OkV 19 158 t.1 t.2 := List.forall_mem_cons.mpr ⟨cv_19_158_12, fun _ h => absurd h List.not_mem_nil⟩
theorem lv_19_159 : ∀ t ∈ vt 224, OkV 19 159 t.1 t.2 := List.forall_mem_cons.mpr ⟨cv_19_159_11, fun _ h => absurd h List.not_mem_nil⟩
theorem lv_19_162 : ∀ t ∈ vt 225, OkV 19 162 t.1 t.2 := List.forall_mem_cons.mpr ⟨cv_19_162_12, fun _ h => absurd h List.not_mem_nil⟩
theorem lv_19_163 : ∀ t ∈ vt 226, OkV 19 163 t.1 t.2 := List.forall_mem_cons.mpr ⟨cv_19_163_11, fun _ h => absurd h List.not_mem_nil⟩
theorem lv_19_166 : ∀ t ∈ vt 227, OkV 19 166 t.1 t.2 := List.forall_mem_cons.mpr ⟨cv_19_166_12, fun _ h => absurd h List.not_mem_nil⟩
set_option maxRecDepth 20000 in
theorem xLMv_ok : ∀ q ∈ xLMv, ∀ t ∈ vt q.2.1, OkV q.1.1 q.1.2 t.1 t.2 := List.forall_mem_cons.mpr ⟨lv_0_69, List.forall_mem_cons.mpr ⟨lv_0_123, List.forall_mem_cons.mpr ⟨lv_0_129, List.forall_mem_cons.mpr ⟨lv_0_131, List.forall_mem_cons.mpr ⟨lv_0_144, List.forall_mem_cons.mpr ⟨lv_1_33, List.forall_mem_cons.mpr ⟨lv_1_37, List.forall_mem_cons.mpr ⟨lv_1_50, List.forall_mem_cons.mpr ⟨lv_1_56, List.forall_mem_cons.mpr ⟨lv_1_63, List.forall_mem_cons.mpr ⟨lv_2_26, List.forall_mem_cons.mpr ⟨lv_2_30, List.forall_mem_cons.mpr ⟨lv_2_33, List.forall_mem_cons.mpr ⟨lv_2_36, List.forall_mem_cons.mpr ⟨lv_2_44, List.forall_mem_cons.mpr ⟨lv_2_47, List.forall_mem_cons.mpr ⟨lv_2_61, List.forall_mem_cons.mpr ⟨lv_2_90, List.forall_mem_cons.mpr ⟨lv_2_96, List.forall_mem_cons.mpr ⟨lv_2_100, List.forall_mem_cons.mpr ⟨lv_2_106, List.forall_mem_cons.mpr ⟨lv_2_110, List.forall_mem_cons.mpr ⟨lv_2_114, List.forall_mem_cons.mpr ⟨lv_2_124, List.forall_mem_cons.mpr ⟨lv_2_127, List.forall_mem_cons.mpr ⟨lv_2_131, List.forall_mem_cons.mpr ⟨lv_2_134, List.forall_mem_cons.mpr ⟨lv_2_137, List.forall_mem_cons.mpr ⟨lv_3_23, List.forall_mem_cons.mpr ⟨lv_4_26, List.forall_mem_cons.mpr ⟨lv_4_36, List.forall_mem_cons.mpr ⟨lv_5_25, List.forall_mem_cons.mpr ⟨lv_7_29, List.forall_mem_cons.mpr ⟨lv_9_25, List.forall_mem_cons.mpr ⟨lv_10_11, List.forall_mem_cons.mpr ⟨lv_10_23, List.forall_mem_cons.mpr ⟨lv_11_78, List.forall_mem_cons.mpr ⟨lv_11_82, List.forall_mem_cons.mpr ⟨lv_11_85, List.forall_mem_cons.mpr ⟨lv_11_94, List.forall_mem_cons.mpr ⟨lv_11_119, List.forall_mem_cons.mpr ⟨lv_11_124, List.forall_mem_cons.mpr ⟨lv_11_140, List.forall_mem_cons.mpr ⟨lv_11_144, List.forall_mem_cons.mpr ⟨lv_11_147, List.forall_mem_cons.mpr ⟨lv_11_151, List.forall_mem_cons.mpr ⟨lv_11_155, List.forall_mem_cons.mpr ⟨lv_11_161, List.forall_mem_cons.mpr ⟨lv_11_164, List.forall_mem_cons.mpr ⟨lv_11_167, List.forall_mem_cons.mpr ⟨lv_11_170, List.forall_mem_cons.mpr ⟨lv_11_186, List.forall_mem_cons.mpr ⟨lv_11_190, List.forall_mem_cons.mpr ⟨lv_11_194, List.forall_mem_cons.mpr ⟨lv_11_198, List.forall_mem_cons.mpr ⟨lv_11_200, List.forall_mem_cons.mpr ⟨lv_11_204, List.forall_mem_cons.mpr ⟨lv_11_212, List.forall_mem_cons.mpr ⟨lv_11_230, List.forall_mem_cons.mpr ⟨lv_11_233, List.forall_mem_cons.mpr ⟨lv_11_236, List.forall_mem_cons.mpr ⟨lv_11_248, List.forall_mem_cons.mpr ⟨lv_11_252, List.forall_mem_cons.mpr ⟨lv_11_255, List.forall_mem_cons.mpr ⟨lv_11_258, List.forall_mem_cons.mpr ⟨lv_11_261, List.forall_mem_cons.mpr ⟨lv_11_267, List.forall_mem_cons.mpr ⟨lv_11_270, List.forall_mem_cons.mpr ⟨lv_11_271, List.forall_mem_cons.mpr ⟨lv_11_278, List.forall_mem_cons.mpr ⟨lv_11_281, List.forall_mem_cons.mpr ⟨lv_11_285, List.forall_mem_cons.mpr ⟨lv_11_313, List.forall_mem_cons.mpr ⟨lv_11_317, List.forall_mem_cons.mpr ⟨lv_11_326, List.forall_mem_cons.mpr ⟨lv_11_329, List.forall_mem_cons.mpr ⟨lv_12_68, List.forall_mem_cons.mpr ⟨lv_12_81, List.forall_mem_cons.mpr ⟨lv_12_91, List.forall_mem_cons.mpr ⟨lv_12_94, List.forall_mem_cons.mpr ⟨lv_12_97, List.forall_mem_cons.mpr ⟨lv_12_102, List.forall_mem_cons.mpr ⟨lv_12_108, List.forall_mem_cons.mpr ⟨lv_12_111, List.forall_mem_cons.mpr ⟨lv_12_114, List.forall_mem_cons.mpr ⟨lv_12_120, List.forall_mem_cons.mpr ⟨lv_12_128, List.forall_mem_cons.mpr ⟨lv_12_133, List.forall_mem_cons.mpr ⟨lv_12_136, List.forall_mem_cons.mpr ⟨lv_12_139, List.forall_mem_cons.mpr ⟨lv_12_143, List.forall_mem_cons.mpr ⟨lv_12_146, List.forall_mem_cons.mpr ⟨lv_12_156, List.forall_mem_cons.mpr ⟨lv_12_159, List.forall_mem_cons.mpr ⟨lv_12_162, List.forall_mem_cons.mpr ⟨lv_12_165, List.forall_mem_cons.mpr ⟨lv_12_168, List.forall_mem_cons.mpr ⟨lv_12_171, List.forall_mem_cons.mpr ⟨lv_12_178, List.forall_mem_cons.mpr ⟨lv_12_182, List.forall_mem_cons.mpr ⟨lv_12_185, List.forall_mem_cons.mpr ⟨lv_12_188, List.forall_mem_cons.mpr ⟨lv_12_191, List.forall_mem_cons.mpr ⟨lv_12_194, List.forall_mem_cons.mpr ⟨lv_12_198, List.forall_mem_cons.mpr ⟨lv_12_201, List.forall_mem_cons.mpr ⟨lv_12_210, List.forall_mem_cons.mpr ⟨lv_12_217, List.forall_mem_cons.mpr ⟨lv_12_223, List.forall_mem_cons.mpr ⟨lv_12_226, List.forall_mem_cons.mpr ⟨lv_12_236, List.forall_mem_cons.mpr ⟨lv_12_242, List.forall_mem_cons.mpr ⟨lv_12_255, List.forall_mem_cons.mpr ⟨lv_12_258, List.forall_mem_cons.mpr ⟨lv_12_264, List.forall_mem_cons.mpr ⟨lv_12_267, List.forall_mem_cons.mpr ⟨lv_12_270, List.forall_mem_cons.mpr ⟨lv_12_273, List.forall_mem_cons.mpr ⟨lv_19_13, List.forall_mem_cons.mpr ⟨lv_19_17, List.forall_mem_cons.mpr ⟨lv_19_18, List.forall_mem_cons.mpr ⟨lv_19_22, List.forall_mem_cons.mpr ⟨lv_19_23, List.forall_mem_cons.mpr ⟨lv_19_27, List.forall_mem_cons.mpr ⟨lv_19_28, List.forall_mem_cons.mpr ⟨lv_19_31, List.forall_mem_cons.mpr ⟨lv_19_32, List.forall_mem_cons.mpr ⟨lv_19_36, List.forall_mem_cons.mpr ⟨lv_19_37, List.forall_mem_cons.mpr ⟨lv_19_40, List.forall_mem_cons.mpr ⟨lv_19_41, List.forall_mem_cons.mpr ⟨lv_19_44, List.forall_mem_cons.mpr ⟨lv_19_45, List.forall_mem_cons.mpr ⟨lv_19_48, List.forall_mem_cons.mpr ⟨lv_19_49, List.forall_mem_cons.mpr ⟨lv_19_52, List.forall_mem_cons.mpr ⟨lv_19_53, List.forall_mem_cons.mpr ⟨lv_19_56, List.forall_mem_cons.mpr ⟨lv_19_57, List.forall_mem_cons.mpr ⟨lv_19_60, List.forall_mem_cons.mpr ⟨lv_19_61, List.forall_mem_cons.mpr ⟨lv_19_64, List.forall_mem_cons.mpr ⟨lv_19_65, List.forall_mem_cons.mpr ⟨lv_19_68, List.forall_mem_cons.mpr ⟨lv_19_69, List.forall_mem_cons.mpr ⟨lv_19_72, List.forall_mem_cons.mpr ⟨lv_19_73, List.forall_mem_cons.mpr ⟨lv_19_76, List.forall_mem_cons.mpr ⟨lv_19_77, List.forall_mem_cons.mpr ⟨lv_19_80, List.forall_mem_cons.mpr ⟨lv_19_81, List.forall_mem_cons.mpr ⟨lv_19_84, List.forall_mem_cons.mpr ⟨lv_19_85, List.forall_mem_cons.mpr ⟨lv_19_88, List.forall_mem_cons.mpr ⟨lv_19_89, List.forall_mem_cons.mpr ⟨lv_19_92, List.forall_mem_cons.mpr ⟨lv_19_93, List.forall_mem_cons.mpr ⟨lv_19_96, List.forall_mem_cons.mpr ⟨lv_19_97, List.forall_mem_cons.mpr ⟨lv_19_100, List.forall_mem_cons.mpr ⟨lv_19_101, List.forall_mem_cons.mpr ⟨lv_19_104, List.forall_mem_cons.mpr ⟨lv_19_105, List.forall_mem_cons.mpr ⟨lv_19_108, List.forall_mem_cons.mpr ⟨lv_19_109, List.forall_mem_cons.mpr ⟨lv_19_112, List.forall_mem_cons.mpr ⟨lv_19_113, List.forall_mem_cons.mpr ⟨lv_19_116, List.forall_mem_cons.mpr ⟨lv_19_117, List.forall_mem_cons.mpr ⟨lv_19_121, List.forall_mem_cons.mpr ⟨lv_19_122, List.forall_mem_cons.mpr ⟨lv_19_126, List.forall_mem_cons.mpr ⟨lv_19_127, List.forall_mem_cons.mpr ⟨lv_19_130, List.forall_mem_cons.mpr ⟨lv_19_131, List.forall_mem_cons.mpr ⟨lv_19_134, List.forall_mem_cons.mpr ⟨lv_19_135, List.forall_mem_cons.mpr ⟨lv_19_138, List.forall_mem_cons.mpr ⟨lv_19_139, List.forall_mem_cons.mpr ⟨lv_19_142, List.forall_mem_cons.mpr ⟨lv_19_143, List.forall_mem_cons.mpr ⟨lv_19_146, List.forall_mem_cons.mpr ⟨lv_19_147, List.forall_mem_cons.mpr ⟨lv_19_150, List.forall_mem_cons.mpr ⟨lv_19_151, List.forall_mem_cons.mpr ⟨lv_19_154, List.forall_mem_cons.mpr ⟨lv_19_155, List.forall_mem_cons.mpr ⟨lv_19_158, List.forall_mem_cons.mpr ⟨lv_19_159, List.forall_mem_cons.mpr ⟨lv_19_162, List.forall_mem_cons.mpr ⟨lv_19_163, List.forall_mem_cons.mpr ⟨lv_19_166, fun _ h => absurd h List.not_mem_nil⟩⟩⟩⟩⟩⟩⟩⟩⟩⟩⟩⟩⟩⟩⟩⟩⟩⟩⟩⟩⟩⟩⟩⟩⟩⟩⟩⟩⟩⟩⟩⟩⟩⟩⟩⟩⟩⟩⟩⟩⟩⟩⟩⟩⟩⟩⟩⟩⟩⟩⟩⟩⟩⟩⟩⟩⟩⟩⟩⟩⟩⟩⟩⟩⟩⟩⟩⟩⟩⟩⟩⟩⟩⟩⟩⟩⟩⟩⟩⟩⟩⟩⟩⟩⟩⟩⟩⟩⟩⟩⟩⟩⟩⟩⟩⟩⟩⟩⟩⟩⟩⟩⟩⟩⟩⟩⟩⟩⟩⟩⟩⟩⟩⟩⟩⟩⟩⟩⟩⟩⟩⟩⟩⟩⟩⟩⟩⟩⟩⟩⟩⟩⟩⟩⟩⟩⟩⟩⟩⟩⟩⟩⟩⟩⟩⟩⟩⟩⟩⟩⟩⟩⟩⟩⟩⟩⟩⟩⟩⟩⟩⟩⟩⟩⟩⟩⟩⟩⟩⟩⟩⟩⟩⟩⟩⟩⟩⟩⟩⟩⟩⟩⟩⟩⟩⟩⟩⟩⟩⟩⟩⟩
theorem lf_11_89 : ∀ t ∈ vt 61, OkF 11 89 t.1 t.2 := List.forall_mem_cons.mpr ⟨cf_11_89_0, fun _ h => absurd h List.not_mem_nil⟩
theorem lf_11_112 : ∀ t ∈ vt 63, OkF 11 112 t.1 t.2 := List.forall_mem_cons.mpr ⟨cf_11_112_0, fun _ h => absurd h List.not_mem_nil⟩
theorem lf_11_182 : ∀ t ∈ vt 75, OkF 11 182 t.1 t.2 := List.forall_mem_cons.mpr ⟨cf_11_182_0, fun _ h => absurd h List.not_mem_nil⟩
theorem lf_11_282 : ∀ t ∈ vt 96, OkF 11 282 t.1 t.2 := List.forall_mem_cons.mpr ⟨cf_11_282_0, fun _ h => absurd h List.not_mem_nil⟩
set_option maxRecDepth 20000 in
theorem xLMf_ok : ∀ q ∈ xLMf, ∀ t ∈ vt q.2.1, OkF q.1.1 q.1.2 t.1 t.2 := List.forall_mem_cons.mpr ⟨lf_11_89, List.forall_mem_cons.mpr ⟨lf_11_112, List.forall_mem_cons.mpr ⟨lf_11_182, List.forall_mem_cons.mpr ⟨lf_11_282, fun _ h => absurd h List.not_mem_nil⟩⟩⟩⟩
theorem xLMo_ok : ∀ q ∈ xLMo, Cond.methodLink (xCn q.1.1) q.1.2 Lib.objectInit ∈ BW := List.forall_mem_cons.mpr ⟨(bw w_1_86 rfl), List.forall_mem_cons.mpr ⟨(bw w_0_67 rfl), List.forall_mem_cons.mpr ⟨(bw w_1_92 rfl), List.forall_mem_cons.mpr ⟨(bw w_0_39 rfl), List.forall_mem_cons.mpr ⟨(bw w_0_31 rfl), List.forall_mem_cons.mpr ⟨(bw w_4_82 rfl), List.forall_mem_cons.mpr ⟨(bw w_0_97 rfl), fun _ h => absurd h List.not_mem_nil⟩⟩⟩⟩⟩⟩⟩
theorem xObj1 : Cond.instanceMethod Lib.objectInit ∈ BW := (bw w_0_32 rfl)
theorem xObj2 : Cond.code Lib.objectInit ⟨#[0xb1]⟩ 1 none ∈ BW := (bw w_0_33 rfl)
def pNm (k : Nat) : MethodName := if k = 0 then ⟨"java/lang/String", "length", "()I"⟩ else ⟨"java/lang/String", "charAt", "(I)C"⟩
def pBc (k : Nat) : ByteArray := if k = 0 then prog_21_method_54_code else prog_21_method_56_code
def pMl (k : Nat) : Nat := if k = 0 then 1 else 2
def pRt (k : Nat) : Option FieldType := if k = 0 then some .int else some .char
def pWs (k : Nat) : List Cond := Cond.code (pNm k) (pBc k) (pMl k) (pRt k) :: BW
def PrOk (k : Nat) : Prop := Cond.code (pNm k) (pBc k) (pMl k) (pRt k) ∈ BW ∧ Cond.initialized (pNm k).cls ∈ BW ∧ (pNm k).cls = "java/lang/String" ∧ Cond.instanceMethod (pNm k) ∈ BW ∧ Cond.selects "java/lang/String" (pNm k) (pNm k) ∈ BW ∧ (parseMethodDescriptor (pNm k).desc).map (fun d => d.parameters.length) = some k ∧ pMl k ≤ 21
theorem pr_0 : PrOk 0 := ⟨(bw w_0_210 rfl), (bw w_0_9 rfl), rfl, (bw w_0_208 rfl), (bw w_0_209 rfl), by decide +kernel, by decide⟩
theorem pr_1 : PrOk 1 := ⟨(bw w_0_220 rfl), (bw w_0_9 rfl), rfl, (bw w_0_218 rfl), (bw w_0_219 rfl), by decide +kernel, by decide⟩
theorem xLMt_ok : ∀ q ∈ xLMt, PrOk q.2.1 ∧ q.2.2 = q.2.1 + 1 ∧ Cond.methodLink (xCn q.1.1) q.1.2 (pNm q.2.1) ∈ BW := List.forall_mem_cons.mpr ⟨⟨pr_0, rfl, (bw w_0_207 rfl)⟩, List.forall_mem_cons.mpr ⟨⟨pr_1, rfl, (bw w_0_217 rfl)⟩, List.forall_mem_cons.mpr ⟨⟨pr_0, rfl, (bw w_4_184 rfl)⟩, List.forall_mem_cons.mpr ⟨⟨pr_1, rfl, (bw w_4_185 rfl)⟩, fun _ h => absurd h List.not_mem_nil⟩⟩⟩⟩
/-- Math: what a call of it asks -/
def xMth (k : Nat) : MethodName := if k = 2 then ⟨"java/lang/Math", "abs", "(I)I"⟩ else if k = 3 then ⟨"java/lang/Math", "max", "(II)I"⟩ else ⟨"java/lang/Math", "min", "(II)I"⟩
theorem xLMm_ok : ∀ q ∈ xLMm, (q.2 = (2, 1) ∨ q.2 = (3, 2) ∨ q.2 = (4, 2)) ∧ Cond.methodLink (xCn q.1.1) q.1.2 (xMth q.2.1) ∈ BW := List.forall_mem_cons.mpr ⟨⟨by decide, (bw w_2_69 rfl)⟩, List.forall_mem_cons.mpr ⟨⟨by decide, (bw w_2_118 rfl)⟩, List.forall_mem_cons.mpr ⟨⟨by decide, (bw w_2_115 rfl)⟩, List.forall_mem_cons.mpr ⟨⟨by decide, (bw w_2_226 rfl)⟩, List.forall_mem_cons.mpr ⟨⟨by decide, (bw w_0_40 rfl)⟩, List.forall_mem_cons.mpr ⟨⟨by decide, (bw w_3_81 rfl)⟩, List.forall_mem_cons.mpr ⟨⟨by decide, (bw w_2_140 rfl)⟩, List.forall_mem_cons.mpr ⟨⟨by decide, (bw w_2_141 rfl)⟩, fun _ h => absurd h List.not_mem_nil⟩⟩⟩⟩⟩⟩⟩⟩
theorem xMth_2 : Cond.static Lib.Math.abs.name ∈ BW ∧ Cond.initialized "java/lang/Math" ∈ BW ∧ Cond.code Lib.Math.abs.name Lib.Math.abs.code 1 (some .int) ∈ BW := ⟨(bw w_2_116 rfl), (bw w_0_3 rfl), (bw w_2_117 rfl)⟩
theorem xMth_3 : Cond.static Lib.Math.max.name ∈ BW ∧ Cond.initialized "java/lang/Math" ∈ BW ∧ Cond.code Lib.Math.max.name Lib.Math.max.code 2 (some .int) ∈ BW := ⟨(bw w_0_41 rfl), (bw w_0_3 rfl), (bw w_0_42 rfl)⟩
theorem xMth_4 : Cond.static Lib.Math.min.name ∈ BW ∧ Cond.initialized "java/lang/Math" ∈ BW ∧ Cond.code Lib.Math.min.name Lib.Math.min.code 2 (some .int) ∈ BW := ⟨(bw w_2_64 rfl), (bw w_0_3 rfl), (bw w_2_65 rfl)⟩
