/-! CALLS: what is known of each method, and each kind of call read off the JVM's -/
def xMs : List (MethodName × ByteArray × Option FieldType × Nat × Bool) := [(⟨"java/util/ArrayList", "<init>", "()V"⟩, prog_29_method_2_code, ((none : Option FieldType)), 0, true),
  (⟨"java/util/ArrayList", "grow", "(I)[Ljava/lang/Object;"⟩, prog_29_method_6_code, (Option.some (Jvm.ClassFile.FieldType.array (Jvm.ClassFile.FieldType.object "java/lang/Object"))), 0, false),
  (⟨"java/util/ArrayList", "grow", "()[Ljava/lang/Object;"⟩, prog_29_method_7_code, (Option.some (Jvm.ClassFile.FieldType.array (Jvm.ClassFile.FieldType.object "java/lang/Object"))), 0, false),
  (⟨"java/util/ArrayList", "size", "()I"⟩, prog_29_method_8_code, (Option.some Jvm.ClassFile.FieldType.int), 0, false),
  (⟨"java/util/ArrayList", "elementData", "(I)Ljava/lang/Object;"⟩, prog_29_method_18_code, (Option.some (Jvm.ClassFile.FieldType.object "java/lang/Object")), 0, false),
  (⟨"java/util/ArrayList", "get", "(I)Ljava/lang/Object;"⟩, prog_29_method_20_code, (Option.some (Jvm.ClassFile.FieldType.object "java/lang/Object")), 0, false),
  (⟨"java/util/ArrayList", "add", "(Ljava/lang/Object;[Ljava/lang/Object;I)V"⟩, prog_29_method_24_code, ((none : Option FieldType)), 0, false),
  (⟨"java/util/ArrayList", "add", "(Ljava/lang/Object;)Z"⟩, prog_29_method_25_code, (Option.some Jvm.ClassFile.FieldType.boolean), 0, false),
  (⟨"java/util/ArrayList", "remove", "(I)Ljava/lang/Object;"⟩, prog_29_method_29_code, (Option.some (Jvm.ClassFile.FieldType.object "java/lang/Object")), 0, false),
  (⟨"java/util/ArrayList", "fastRemove", "([Ljava/lang/Object;I)V"⟩, prog_29_method_39_code, ((none : Option FieldType)), 0, false),
  (⟨"LaidQuarrel$Bottle", "<init>", "(IILLaidQuarrel$Shelf;)V"⟩, prog_2_method_1_code, ((none : Option FieldType)), 1, true),
  (⟨"LaidQuarrel$Bottle", "keep", "()V"⟩, prog_2_method_2_code, ((none : Option FieldType)), 1, false),
  (⟨"LaidQuarrel$Bottle", "restore", "()V"⟩, prog_2_method_3_code, ((none : Option FieldType)), 1, false),
  (⟨"LaidQuarrel$Bottle", "tryNow", "()LLaidQuarrel$Laid;"⟩, prog_2_method_4_code, (Option.some (Jvm.ClassFile.FieldType.object "LaidQuarrel$Laid")), 1, false),
  (⟨"LaidQuarrel$Bottle", "tryBehind", "(I)LLaidQuarrel$Laid;"⟩, prog_2_method_5_code, (Option.some (Jvm.ClassFile.FieldType.object "LaidQuarrel$Laid")), 1, false),
  (⟨"LaidQuarrel$Bottle", "spoken", "(LLaidQuarrel$Laid;I)I"⟩, prog_2_method_6_code, (Option.some Jvm.ClassFile.FieldType.int), 1, false),
  (⟨"LaidQuarrel$Bottle", "utters", "(I)I"⟩, prog_2_method_7_code, (Option.some Jvm.ClassFile.FieldType.int), 1, false),
  (⟨"LaidQuarrel$Bottle", "keeps", "(I)I"⟩, prog_2_method_8_code, (Option.some Jvm.ClassFile.FieldType.int), 1, false),
  (⟨"LaidQuarrel$Bottle", "tells", "(I)I"⟩, prog_2_method_9_code, (Option.some Jvm.ClassFile.FieldType.int), 1, false),
  (⟨"LaidQuarrel$Cellar", "<init>", "(LLaidQuarrel$Shelf;)V"⟩, prog_3_method_1_code, ((none : Option FieldType)), 2, true),
  (⟨"LaidQuarrel$Cellar", "copyFrom", "(LLaidQuarrel$Cellar;)V"⟩, prog_3_method_2_code, ((none : Option FieldType)), 2, false),
  (⟨"LaidQuarrel$Cellar", "keep", "()V"⟩, prog_3_method_3_code, ((none : Option FieldType)), 2, false),
  (⟨"LaidQuarrel$Cellar", "restore", "()V"⟩, prog_3_method_4_code, ((none : Option FieldType)), 2, false),
  (⟨"LaidQuarrel$Cellar", "calm", "()I"⟩, prog_3_method_5_code, (Option.some Jvm.ClassFile.FieldType.int), 2, false),
  (⟨"LaidQuarrel$Cellar", "peace", "()I"⟩, prog_3_method_6_code, (Option.some Jvm.ClassFile.FieldType.int), 2, false),
  (⟨"LaidQuarrel$Cellar", "lastOf", "(II)I"⟩, prog_3_method_7_code, (Option.some Jvm.ClassFile.FieldType.int), 2, false),
  (⟨"LaidQuarrel$Cellar", "softOf", "(LLaidQuarrel$Bottle;LLaidQuarrel$Laid;)I"⟩, prog_3_method_8_code, (Option.some Jvm.ClassFile.FieldType.int), 2, false),
  (⟨"LaidQuarrel$Cellar", "holds", "(IILLaidQuarrel$Bottle;LLaidQuarrel$Laid;)Z"⟩, prog_3_method_9_code, (Option.some Jvm.ClassFile.FieldType.boolean), 2, false),
  (⟨"LaidQuarrel$Cellar", "testHolds", "(ILLaidQuarrel$Bottle;LLaidQuarrel$Laid;)Z"⟩, prog_3_method_10_code, (Option.some Jvm.ClassFile.FieldType.boolean), 2, false),
  (⟨"LaidQuarrel$Cellar", "factOf", "(ILLaidQuarrel$Bottle;LLaidQuarrel$Laid;)I"⟩, prog_3_method_11_code, (Option.some Jvm.ClassFile.FieldType.int), 2, false),
  (⟨"LaidQuarrel$Cellar", "readText", "()I"⟩, prog_3_method_12_code, (Option.some Jvm.ClassFile.FieldType.int), 2, false),
  (⟨"LaidQuarrel$Cellar", "readClause", "()Z"⟩, prog_3_method_13_code, (Option.some Jvm.ClassFile.FieldType.boolean), 2, false),
  (⟨"LaidQuarrel$Cellar", "addClause", "(II)Z"⟩, prog_3_method_14_code, (Option.some Jvm.ClassFile.FieldType.boolean), 2, false),
  (⟨"LaidQuarrel$Cellar", "readEither", "(I)Z"⟩, prog_3_method_15_code, (Option.some Jvm.ClassFile.FieldType.boolean), 2, false),
  (⟨"LaidQuarrel$Cellar", "readFactor", "(I)Z"⟩, prog_3_method_16_code, (Option.some Jvm.ClassFile.FieldType.boolean), 2, false),
  (⟨"LaidQuarrel$Cellar", "readBracket", "(I)Z"⟩, prog_3_method_17_code, (Option.some Jvm.ClassFile.FieldType.boolean), 2, false),
  (⟨"LaidQuarrel$Cellar", "readTest", "()Z"⟩, prog_3_method_18_code, (Option.some Jvm.ClassFile.FieldType.boolean), 2, false),
  (⟨"LaidQuarrel$Cellar", "isLetter", "(I)Z"⟩, prog_3_method_19_code, (Option.some Jvm.ClassFile.FieldType.boolean), 2, false),
  (⟨"LaidQuarrel$Cellar", "readNumber", "()Z"⟩, prog_3_method_20_code, (Option.some Jvm.ClassFile.FieldType.boolean), 2, false),
  (⟨"LaidQuarrel$Cellar", "takes", "(I)Z"⟩, prog_3_method_21_code, (Option.some Jvm.ClassFile.FieldType.boolean), 2, false),
  (⟨"LaidQuarrel$Cellar", "takesAll", "(Ljava/lang/String;)Z"⟩, prog_3_method_22_code, (Option.some Jvm.ClassFile.FieldType.boolean), 2, false),
  (⟨"LaidQuarrel$Corked", "<init>", "(IILLaidQuarrel$Shelf;)V"⟩, prog_4_method_1_code, ((none : Option FieldType)), 3, true),
  (⟨"LaidQuarrel$Corked", "spoken", "(LLaidQuarrel$Laid;I)I"⟩, prog_4_method_2_code, (Option.some Jvm.ClassFile.FieldType.int), 3, false),
  (⟨"LaidQuarrel$Corked", "tells", "(I)I"⟩, prog_4_method_3_code, (Option.some Jvm.ClassFile.FieldType.int), 3, false),
  (⟨"LaidQuarrel$Feud", "<init>", "(IILLaidQuarrel$Shelf;)V"⟩, prog_5_method_1_code, ((none : Option FieldType)), 4, true),
  (⟨"LaidQuarrel$Feud", "spoken", "(LLaidQuarrel$Laid;I)I"⟩, prog_5_method_2_code, (Option.some Jvm.ClassFile.FieldType.int), 4, false),
  (⟨"LaidQuarrel$Feud", "tells", "(I)I"⟩, prog_5_method_3_code, (Option.some Jvm.ClassFile.FieldType.int), 4, false),
  (⟨"LaidQuarrel$Hard", "<init>", "(IILLaidQuarrel$Shelf;)V"⟩, prog_6_method_1_code, ((none : Option FieldType)), 5, true),
  (⟨"LaidQuarrel$Hard", "spoken", "(LLaidQuarrel$Laid;I)I"⟩, prog_6_method_2_code, (Option.some Jvm.ClassFile.FieldType.int), 5, false),
  (⟨"LaidQuarrel$Hard", "utters", "(I)I"⟩, prog_6_method_3_code, (Option.some Jvm.ClassFile.FieldType.int), 5, false),
  (⟨"LaidQuarrel$Laid", "<init>", "()V"⟩, prog_7_method_1_code, ((none : Option FieldType)), 6, true),
  (⟨"LaidQuarrel$Laid", "copyFrom", "(LLaidQuarrel$Laid;)V"⟩, prog_7_method_2_code, ((none : Option FieldType)), 6, false),
  (⟨"LaidQuarrel$Laid", "age", "(I)V"⟩, prog_7_method_3_code, ((none : Option FieldType)), 6, false),
  (⟨"LaidQuarrel$Laid", "tell", "(II)I"⟩, prog_7_method_4_code, (Option.some Jvm.ClassFile.FieldType.int), 6, false),
  (⟨"LaidQuarrel$Laid", "telling", "()I"⟩, prog_7_method_5_code, (Option.some Jvm.ClassFile.FieldType.int), 6, false),
  (⟨"LaidQuarrel$Love", "<init>", "(IILLaidQuarrel$Shelf;)V"⟩, prog_8_method_1_code, ((none : Option FieldType)), 7, true),
  (⟨"LaidQuarrel$Love", "spoken", "(LLaidQuarrel$Laid;I)I"⟩, prog_8_method_2_code, (Option.some Jvm.ClassFile.FieldType.int), 7, false),
  (⟨"LaidQuarrel$Love", "utters", "(I)I"⟩, prog_8_method_3_code, (Option.some Jvm.ClassFile.FieldType.int), 7, false),
  (⟨"LaidQuarrel$Shelf", "<init>", "(II)V"⟩, prog_9_method_1_code, ((none : Option FieldType)), 8, true),
  (⟨"LaidQuarrel$Shelf", "add", "(III)Z"⟩, prog_9_method_2_code, (Option.some Jvm.ClassFile.FieldType.boolean), 8, false),
  (⟨"LaidQuarrel$Shelf", "at", "(II)I"⟩, prog_9_method_3_code, (Option.some Jvm.ClassFile.FieldType.int), 8, false),
  (⟨"LaidQuarrel$Shelf", "put", "(II)V"⟩, prog_9_method_4_code, ((none : Option FieldType)), 8, false),
  (⟨"LaidQuarrel$Shelf", "clear", "()V"⟩, prog_9_method_5_code, ((none : Option FieldType)), 8, false),
  (⟨"LaidQuarrel$Shelf", "copyFrom", "(LLaidQuarrel$Shelf;)V"⟩, prog_9_method_6_code, ((none : Option FieldType)), 8, false),
  (⟨"LaidQuarrel$Shelf", "keep", "()V"⟩, prog_9_method_7_code, ((none : Option FieldType)), 8, false),
  (⟨"LaidQuarrel$Shelf", "restore", "()V"⟩, prog_9_method_8_code, ((none : Option FieldType)), 8, false),
  (⟨"LaidQuarrel$Shelf", "copy", "([I[I)V"⟩, prog_9_method_9_code, ((none : Option FieldType)), 8, false),
  (⟨"LaidQuarrel$Sweet", "<init>", "(IILLaidQuarrel$Shelf;)V"⟩, prog_10_method_1_code, ((none : Option FieldType)), 9, true),
  (⟨"LaidQuarrel$Sweet", "spoken", "(LLaidQuarrel$Laid;I)I"⟩, prog_10_method_2_code, (Option.some Jvm.ClassFile.FieldType.int), 9, false),
  (⟨"LaidQuarrel$Sweet", "keeps", "(I)I"⟩, prog_10_method_3_code, (Option.some Jvm.ClassFile.FieldType.int), 9, false),
  (⟨"LaidQuarrel$Told", "<init>", "(IILLaidQuarrel$Shelf;)V"⟩, prog_11_method_1_code, ((none : Option FieldType)), 10, true),
  (⟨"LaidQuarrel$Told", "spoken", "(LLaidQuarrel$Laid;I)I"⟩, prog_11_method_2_code, (Option.some Jvm.ClassFile.FieldType.int), 10, false),
  (⟨"LaidQuarrel$Told", "keeps", "(I)I"⟩, prog_11_method_3_code, (Option.some Jvm.ClassFile.FieldType.int), 10, false),
  (⟨"LaidQuarrel", "<init>", "()V"⟩, prog_1_method_1_code, ((none : Option FieldType)), 11, true),
  (⟨"LaidQuarrel", "feed", "(I)I"⟩, prog_1_method_2_code, (Option.some Jvm.ClassFile.FieldType.int), 11, false),
  (⟨"LaidQuarrel", "cellar", "()I"⟩, prog_1_method_3_code, (Option.some Jvm.ClassFile.FieldType.int), 11, false),
  (⟨"LaidQuarrel", "bottle", "(III)I"⟩, prog_1_method_4_code, (Option.some Jvm.ClassFile.FieldType.int), 11, false),
  (⟨"LaidQuarrel", "guest", "(I)I"⟩, prog_1_method_5_code, (Option.some Jvm.ClassFile.FieldType.int), 11, false),
  (⟨"LaidQuarrel", "of", "(II)I"⟩, prog_1_method_6_code, (Option.some Jvm.ClassFile.FieldType.int), 11, false),
  (⟨"LaidQuarrel", "row", "(III)I"⟩, prog_1_method_7_code, (Option.some Jvm.ClassFile.FieldType.int), 11, false),
  (⟨"LaidQuarrel", "set", "(III)I"⟩, prog_1_method_8_code, (Option.some Jvm.ClassFile.FieldType.int), 11, false),
  (⟨"LaidQuarrel", "mood", "(I)I"⟩, prog_1_method_9_code, (Option.some Jvm.ClassFile.FieldType.int), 11, false),
  (⟨"LaidQuarrel", "told", "(I)I"⟩, prog_1_method_10_code, (Option.some Jvm.ClassFile.FieldType.int), 11, false),
  (⟨"LaidQuarrel", "pour", "(II)I"⟩, prog_1_method_11_code, (Option.some Jvm.ClassFile.FieldType.int), 11, false),
  (⟨"LaidQuarrel", "both", "(III)I"⟩, prog_1_method_12_code, (Option.some Jvm.ClassFile.FieldType.int), 11, false),
  (⟨"LaidQuarrel", "pass", "(I)I"⟩, prog_1_method_13_code, (Option.some Jvm.ClassFile.FieldType.int), 11, false),
  (⟨"LaidQuarrel", "on", "(II)I"⟩, prog_1_method_14_code, (Option.some Jvm.ClassFile.FieldType.int), 11, false),
  (⟨"LaidQuarrel", "when", "(II)I"⟩, prog_1_method_15_code, (Option.some Jvm.ClassFile.FieldType.int), 11, false),
  (⟨"LaidQuarrel", "ripe", "(I)I"⟩, prog_1_method_16_code, (Option.some Jvm.ClassFile.FieldType.int), 11, false),
  (⟨"LaidQuarrel", "lies", "(I)I"⟩, prog_1_method_17_code, (Option.some Jvm.ClassFile.FieldType.int), 11, false),
  (⟨"LaidQuarrel", "choose", "(II)I"⟩, prog_1_method_18_code, (Option.some Jvm.ClassFile.FieldType.int), 11, false),
  (⟨"LaidQuarrel", "line", "(II)I"⟩, prog_1_method_19_code, (Option.some Jvm.ClassFile.FieldType.int), 11, false),
  (⟨"LaidQuarrel", "pair", "()I"⟩, prog_1_method_20_code, (Option.some Jvm.ClassFile.FieldType.int), 11, false),
  (⟨"LaidQuarrel", "match", "(I)I"⟩, prog_1_method_21_code, (Option.some Jvm.ClassFile.FieldType.int), 11, false),
  (⟨"LaidQuarrel", "words", "(III)I"⟩, prog_1_method_22_code, (Option.some Jvm.ClassFile.FieldType.int), 11, false),
  (⟨"LaidQuarrel", "see", "(III)I"⟩, prog_1_method_23_code, (Option.some Jvm.ClassFile.FieldType.int), 11, false),
  (⟨"LaidQuarrel", "old", "(II)I"⟩, prog_1_method_24_code, (Option.some Jvm.ClassFile.FieldType.int), 11, false),
  (⟨"LaidQuarrel", "firm", "(II)I"⟩, prog_1_method_25_code, (Option.some Jvm.ClassFile.FieldType.int), 11, false),
  (⟨"LaidQuarrel", "whose", "(II)I"⟩, prog_1_method_26_code, (Option.some Jvm.ClassFile.FieldType.int), 11, false),
  (⟨"LaidQuarrel", "odds", "(III)J"⟩, prog_1_method_27_code, (Option.some Jvm.ClassFile.FieldType.long), 11, false),
  (⟨"LaidQuarrel", "mean", "(II)J"⟩, prog_1_method_28_code, (Option.some Jvm.ClassFile.FieldType.long), 11, false),
  (⟨"LaidQuarrel", "evening", "(III)I"⟩, prog_1_method_29_code, (Option.some Jvm.ClassFile.FieldType.int), 11, false),
  (⟨"LaidQuarrel", "done", "(I)I"⟩, prog_1_method_30_code, (Option.some Jvm.ClassFile.FieldType.int), 11, false),
  (⟨"LaidQuarrel", "book", "(II)I"⟩, prog_1_method_31_code, (Option.some Jvm.ClassFile.FieldType.int), 11, false),
  (⟨"LaidQuarrel", "looked", "()I"⟩, prog_1_method_32_code, (Option.some Jvm.ClassFile.FieldType.int), 11, false),
  (⟨"LaidQuarrel", "act", "(III)I"⟩, prog_1_method_33_code, (Option.some Jvm.ClassFile.FieldType.int), 11, false),
  (⟨"LaidQuarrel", "trace", "(I)I"⟩, prog_1_method_34_code, (Option.some Jvm.ClassFile.FieldType.int), 11, false),
  (⟨"LaidQuarrel", "as", "(II)I"⟩, prog_1_method_35_code, (Option.some Jvm.ClassFile.FieldType.int), 11, false),
  (⟨"LaidQuarrel", "image", "()I"⟩, prog_1_method_36_code, (Option.some Jvm.ClassFile.FieldType.int), 11, false),
  (⟨"LaidQuarrel", "undo", "()I"⟩, prog_1_method_37_code, (Option.some Jvm.ClassFile.FieldType.int), 11, false),
  (⟨"LaidQuarrel", "count", "(I)I"⟩, prog_1_method_38_code, (Option.some Jvm.ClassFile.FieldType.int), 11, false),
  (⟨"LaidQuarrel", "within", "(III)Z"⟩, prog_1_method_39_code, (Option.some Jvm.ClassFile.FieldType.boolean), 11, false),
  (⟨"LaidQuarrel", "isIn", "(II)Z"⟩, prog_1_method_40_code, (Option.some Jvm.ClassFile.FieldType.boolean), 11, false),
  (⟨"LaidQuarrel", "nearer", "(II)I"⟩, prog_1_method_41_code, (Option.some Jvm.ClassFile.FieldType.int), 11, false),
  (⟨"LaidQuarrel", "heldMood", "(I)I"⟩, prog_1_method_42_code, (Option.some Jvm.ClassFile.FieldType.int), 11, false),
  (⟨"LaidQuarrel", "kindAbove", "(I)I"⟩, prog_1_method_43_code, (Option.some Jvm.ClassFile.FieldType.int), 11, false),
  (⟨"LaidQuarrel", "added", "(LLaidQuarrel$Shelf;III)I"⟩, prog_1_method_44_code, (Option.some Jvm.ClassFile.FieldType.int), 11, false),
  (⟨"LaidQuarrel", "sum", "(LLaidQuarrel$Shelf;)I"⟩, prog_1_method_45_code, (Option.some Jvm.ClassFile.FieldType.int), 11, false),
  (⟨"LaidQuarrel", "fraction", "(III)J"⟩, prog_1_method_46_code, (Option.some Jvm.ClassFile.FieldType.long), 11, false),
  (⟨"LaidQuarrel", "isGuest", "(I)Z"⟩, prog_1_method_47_code, (Option.some Jvm.ClassFile.FieldType.boolean), 11, false),
  (⟨"LaidQuarrel", "bottleAt", "(I)LLaidQuarrel$Bottle;"⟩, prog_1_method_48_code, (Option.some (Jvm.ClassFile.FieldType.object "LaidQuarrel$Bottle")), 11, false),
  (⟨"LaidQuarrel", "madeOf", "(I)LLaidQuarrel$Bottle;"⟩, prog_1_method_49_code, (Option.some (Jvm.ClassFile.FieldType.object "LaidQuarrel$Bottle")), 11, false),
  (⟨"LaidQuarrel", "says", "(LLaidQuarrel$Bottle;LLaidQuarrel$Laid;)I"⟩, prog_1_method_50_code, (Option.some Jvm.ClassFile.FieldType.int), 11, false),
  (⟨"LaidQuarrel", "allSay", "(I)I"⟩, prog_1_method_51_code, (Option.some Jvm.ClassFile.FieldType.int), 11, false),
  (⟨"LaidQuarrel", "fullOnes", "()I"⟩, prog_1_method_52_code, (Option.some Jvm.ClassFile.FieldType.int), 11, false),
  (⟨"LaidQuarrel", "hearAll", "()V"⟩, prog_1_method_53_code, ((none : Option FieldType)), 11, false),
  (⟨"LaidQuarrel", "saidBy", "(I)I"⟩, prog_1_method_54_code, (Option.some Jvm.ClassFile.FieldType.int), 11, false),
  (⟨"LaidQuarrel", "lift", "(LLaidQuarrel$Shelf;II)I"⟩, prog_1_method_55_code, (Option.some Jvm.ClassFile.FieldType.int), 11, false),
  (⟨"LaidQuarrel", "calmDown", "(LLaidQuarrel$Shelf;I)V"⟩, prog_1_method_56_code, ((none : Option FieldType)), 11, false),
  (⟨"LaidQuarrel", "bestLine", "(LLaidQuarrel$Shelf;III)I"⟩, prog_1_method_57_code, (Option.some Jvm.ClassFile.FieldType.int), 11, false),
  (⟨"LaidQuarrel", "moodOf", "(I)I"⟩, prog_1_method_58_code, (Option.some Jvm.ClassFile.FieldType.int), 11, false),
  (⟨"LaidQuarrel", "countPairs", "(I)V"⟩, prog_1_method_59_code, ((none : Option FieldType)), 11, false),
  (⟨"LaidQuarrel", "makesPeace", "(II)Z"⟩, prog_1_method_60_code, (Option.some Jvm.ClassFile.FieldType.boolean), 11, false),
  (⟨"LaidQuarrel", "partnerOf", "(II)I"⟩, prog_1_method_61_code, (Option.some Jvm.ClassFile.FieldType.int), 11, false),
  (⟨"LaidQuarrel", "leastPartner", "(II)I"⟩, prog_1_method_62_code, (Option.some Jvm.ClassFile.FieldType.int), 11, false),
  (⟨"LaidQuarrel", "allSeenIsSo", "(III)Z"⟩, prog_1_method_63_code, (Option.some Jvm.ClassFile.FieldType.boolean), 11, false),
  (⟨"LaidQuarrel", "tryRow", "(ILLaidQuarrel$Bottle;I)V"⟩, prog_1_method_64_code, ((none : Option FieldType)), 11, false),
  (⟨"LaidQuarrel", "allSayAsTried", "()I"⟩, prog_1_method_65_code, (Option.some Jvm.ClassFile.FieldType.int), 11, false),
  (⟨"LaidQuarrelModel", "<init>", "()V"⟩, prog_13_method_1_code, ((none : Option FieldType)), 12, true),
  (⟨"LaidQuarrelModel", "in", "(III)Z"⟩, prog_13_method_3_code, (Option.some Jvm.ClassFile.FieldType.boolean), 12, false),
  (⟨"LaidQuarrelModel", "within", "(III)I"⟩, prog_13_method_4_code, (Option.some Jvm.ClassFile.FieldType.int), 12, false),
  (⟨"LaidQuarrelModel", "size", "(I)I"⟩, prog_13_method_5_code, (Option.some Jvm.ClassFile.FieldType.int), 12, false),
  (⟨"LaidQuarrelModel", "nearer", "(II)I"⟩, prog_13_method_6_code, (Option.some Jvm.ClassFile.FieldType.int), 12, false),
  (⟨"LaidQuarrelModel", "isBottle", "(I)Z"⟩, prog_13_method_7_code, (Option.some Jvm.ClassFile.FieldType.boolean), 12, false),
  (⟨"LaidQuarrelModel", "isGuest", "(I)Z"⟩, prog_13_method_8_code, (Option.some Jvm.ClassFile.FieldType.boolean), 12, false),
  (⟨"LaidQuarrelModel", "isMood", "(I)Z"⟩, prog_13_method_9_code, (Option.some Jvm.ClassFile.FieldType.boolean), 12, false),
  (⟨"LaidQuarrelModel", "isSaying", "(I)Z"⟩, prog_13_method_10_code, (Option.some Jvm.ClassFile.FieldType.boolean), 12, false),
  (⟨"LaidQuarrelModel", "keeps", "()V"⟩, prog_13_method_11_code, ((none : Option FieldType)), 12, false),
  (⟨"LaidQuarrelModel", "goesBack", "()V"⟩, prog_13_method_12_code, ((none : Option FieldType)), 12, false),
  (⟨"LaidQuarrelModel", "feed", "(I)I"⟩, prog_13_method_13_code, (Option.some Jvm.ClassFile.FieldType.int), 12, false),
  (⟨"LaidQuarrelModel", "here", "()I"⟩, prog_13_method_14_code, (Option.some Jvm.ClassFile.FieldType.int), 12, false),
  (⟨"LaidQuarrelModel", "must", "(I)V"⟩, prog_13_method_15_code, ((none : Option FieldType)), 12, false),
  (⟨"LaidQuarrelModel", "spells", "(Ljava/lang/String;)V"⟩, prog_13_method_16_code, ((none : Option FieldType)), 12, false),
  (⟨"LaidQuarrelModel", "figures", "()I"⟩, prog_13_method_17_code, (Option.some Jvm.ClassFile.FieldType.int), 12, false),
  (⟨"LaidQuarrelModel", "among", "(Ljava/lang/String;)I"⟩, prog_13_method_18_code, (Option.some Jvm.ClassFile.FieldType.int), 12, false),
  (⟨"LaidQuarrelModel", "emits", "(I)V"⟩, prog_13_method_19_code, ((none : Option FieldType)), 12, false),
  (⟨"LaidQuarrelModel", "factor", "()V"⟩, prog_13_method_20_code, ((none : Option FieldType)), 12, false),
  (⟨"LaidQuarrelModel", "every", "()V"⟩, prog_13_method_21_code, ((none : Option FieldType)), 12, false),
  (⟨"LaidQuarrelModel", "some", "()V"⟩, prog_13_method_22_code, ((none : Option FieldType)), 12, false),
  (⟨"LaidQuarrelModel", "much", "(ILjava/lang/String;)V"⟩, prog_13_method_23_code, ((none : Option FieldType)), 12, false),
  (⟨"LaidQuarrelModel", "tellsHere", "(ILjava/lang/String;)V"⟩, prog_13_method_24_code, ((none : Option FieldType)), 12, false),
  (⟨"LaidQuarrelModel", "wordOfS", "()V"⟩, prog_13_method_25_code, ((none : Option FieldType)), 12, false),
  (⟨"LaidQuarrelModel", "clauseHere", "()V"⟩, prog_13_method_26_code, ((none : Option FieldType)), 12, false),
  (⟨"LaidQuarrelModel", "cellar", "()I"⟩, prog_13_method_27_code, (Option.some Jvm.ClassFile.FieldType.int), 12, false),
  (⟨"LaidQuarrelModel", "tellsOf", "(II)I"⟩, prog_13_method_28_code, (Option.some Jvm.ClassFile.FieldType.int), 12, false),
  (⟨"LaidQuarrelModel", "looks", "(I)I"⟩, prog_13_method_29_code, (Option.some Jvm.ClassFile.FieldType.int), 12, false),
  (⟨"LaidQuarrelModel", "softOf", "(I)I"⟩, prog_13_method_30_code, (Option.some Jvm.ClassFile.FieldType.int), 12, false),
  (⟨"LaidQuarrelModel", "saysOf", "(I)I"⟩, prog_13_method_31_code, (Option.some Jvm.ClassFile.FieldType.int), 12, false),
  (⟨"LaidQuarrelModel", "bottle", "(III)I"⟩, prog_13_method_32_code, (Option.some Jvm.ClassFile.FieldType.int), 12, false),
  (⟨"LaidQuarrelModel", "guest", "(I)I"⟩, prog_13_method_33_code, (Option.some Jvm.ClassFile.FieldType.int), 12, false),
  (⟨"LaidQuarrelModel", "of", "(II)I"⟩, prog_13_method_34_code, (Option.some Jvm.ClassFile.FieldType.int), 12, false),
  (⟨"LaidQuarrelModel", "row", "(III)I"⟩, prog_13_method_35_code, (Option.some Jvm.ClassFile.FieldType.int), 12, false),
  (⟨"LaidQuarrelModel", "set", "(III)I"⟩, prog_13_method_36_code, (Option.some Jvm.ClassFile.FieldType.int), 12, false),
  (⟨"LaidQuarrelModel", "mood", "(I)I"⟩, prog_13_method_37_code, (Option.some Jvm.ClassFile.FieldType.int), 12, false),
  (⟨"LaidQuarrelModel", "fullOnes", "()I"⟩, prog_13_method_38_code, (Option.some Jvm.ClassFile.FieldType.int), 12, false),
  (⟨"LaidQuarrelModel", "allSay", "()I"⟩, prog_13_method_39_code, (Option.some Jvm.ClassFile.FieldType.int), 12, false),
  (⟨"LaidQuarrelModel", "allMoods", "()I"⟩, prog_13_method_40_code, (Option.some Jvm.ClassFile.FieldType.int), 12, false),
  (⟨"LaidQuarrelModel", "told", "(I)I"⟩, prog_13_method_41_code, (Option.some Jvm.ClassFile.FieldType.int), 12, false),
  (⟨"LaidQuarrelModel", "brings", "(II)V"⟩, prog_13_method_42_code, ((none : Option FieldType)), 12, false),
  (⟨"LaidQuarrelModel", "pours", "(II)V"⟩, prog_13_method_43_code, ((none : Option FieldType)), 12, false),
  (⟨"LaidQuarrelModel", "pour", "(II)I"⟩, prog_13_method_44_code, (Option.some Jvm.ClassFile.FieldType.int), 12, false),
  (⟨"LaidQuarrelModel", "both", "(III)I"⟩, prog_13_method_45_code, (Option.some Jvm.ClassFile.FieldType.int), 12, false),
  (⟨"LaidQuarrelModel", "goes", "()V"⟩, prog_13_method_46_code, ((none : Option FieldType)), 12, false),
  (⟨"LaidQuarrelModel", "goesOn", "(I)V"⟩, prog_13_method_47_code, ((none : Option FieldType)), 12, false),
  (⟨"LaidQuarrelModel", "pass", "(I)I"⟩, prog_13_method_48_code, (Option.some Jvm.ClassFile.FieldType.int), 12, false),
  (⟨"LaidQuarrelModel", "on", "(II)I"⟩, prog_13_method_49_code, (Option.some Jvm.ClassFile.FieldType.int), 12, false),
  (⟨"LaidQuarrelModel", "when", "(II)I"⟩, prog_13_method_50_code, (Option.some Jvm.ClassFile.FieldType.int), 12, false),
  (⟨"LaidQuarrelModel", "ripe", "(I)I"⟩, prog_13_method_51_code, (Option.some Jvm.ClassFile.FieldType.int), 12, false),
  (⟨"LaidQuarrelModel", "lies", "(I)I"⟩, prog_13_method_52_code, (Option.some Jvm.ClassFile.FieldType.int), 12, false),
  (⟨"LaidQuarrelModel", "looksForSayings", "()V"⟩, prog_13_method_53_code, ((none : Option FieldType)), 12, false),
  (⟨"LaidQuarrelModel", "countOf", "(I)I"⟩, prog_13_method_54_code, (Option.some Jvm.ClassFile.FieldType.int), 12, false),
  (⟨"LaidQuarrelModel", "sumOf", "(I)I"⟩, prog_13_method_55_code, (Option.some Jvm.ClassFile.FieldType.int), 12, false),
  (⟨"LaidQuarrelModel", "choose", "(II)I"⟩, prog_13_method_56_code, (Option.some Jvm.ClassFile.FieldType.int), 12, false),
  (⟨"LaidQuarrelModel", "ordersFrom", "(III)V"⟩, prog_13_method_57_code, ((none : Option FieldType)), 12, false),
  (⟨"LaidQuarrelModel", "line", "(II)I"⟩, prog_13_method_58_code, (Option.some Jvm.ClassFile.FieldType.int), 12, false),
  (⟨"LaidQuarrelModel", "pair", "()I"⟩, prog_13_method_59_code, (Option.some Jvm.ClassFile.FieldType.int), 12, false),
  (⟨"LaidQuarrelModel", "pairsFrom", "(II)V"⟩, prog_13_method_60_code, ((none : Option FieldType)), 12, false),
  (⟨"LaidQuarrelModel", "match", "(I)I"⟩, prog_13_method_61_code, (Option.some Jvm.ClassFile.FieldType.int), 12, false),
  (⟨"LaidQuarrelModel", "words", "(III)I"⟩, prog_13_method_62_code, (Option.some Jvm.ClassFile.FieldType.int), 12, false),
  (⟨"LaidQuarrelModel", "see", "(III)I"⟩, prog_13_method_63_code, (Option.some Jvm.ClassFile.FieldType.int), 12, false),
  (⟨"LaidQuarrelModel", "isAsSeen", "(I)Z"⟩, prog_13_method_64_code, (Option.some Jvm.ClassFile.FieldType.boolean), 12, false),
  (⟨"LaidQuarrelModel", "areAsSeen", "()Z"⟩, prog_13_method_65_code, (Option.some Jvm.ClassFile.FieldType.boolean), 12, false),
  (⟨"LaidQuarrelModel", "old", "(II)I"⟩, prog_13_method_66_code, (Option.some Jvm.ClassFile.FieldType.int), 12, false),
  (⟨"LaidQuarrelModel", "firm", "(II)I"⟩, prog_13_method_67_code, (Option.some Jvm.ClassFile.FieldType.int), 12, false),
  (⟨"LaidQuarrelModel", "whose", "(II)I"⟩, prog_13_method_68_code, (Option.some Jvm.ClassFile.FieldType.int), 12, false),
  (⟨"LaidQuarrelModel", "lowest", "(JJI)J"⟩, prog_13_method_69_code, (Option.some Jvm.ClassFile.FieldType.long), 12, false),
  (⟨"LaidQuarrelModel", "odds", "(III)J"⟩, prog_13_method_70_code, (Option.some Jvm.ClassFile.FieldType.long), 12, false),
  (⟨"LaidQuarrelModel", "mean", "(II)J"⟩, prog_13_method_71_code, (Option.some Jvm.ClassFile.FieldType.long), 12, false),
  (⟨"LaidQuarrelModel", "evening", "(III)I"⟩, prog_13_method_72_code, (Option.some Jvm.ClassFile.FieldType.int), 12, false),
  (⟨"LaidQuarrelModel", "does", "(III)V"⟩, prog_13_method_73_code, ((none : Option FieldType)), 12, false),
  (⟨"LaidQuarrelModel", "done", "(I)I"⟩, prog_13_method_74_code, (Option.some Jvm.ClassFile.FieldType.int), 12, false),
  (⟨"LaidQuarrelModel", "book", "(II)I"⟩, prog_13_method_75_code, (Option.some Jvm.ClassFile.FieldType.int), 12, false),
  (⟨"LaidQuarrelModel", "looked", "()I"⟩, prog_13_method_76_code, (Option.some Jvm.ClassFile.FieldType.int), 12, false),
  (⟨"LaidQuarrelModel", "ranBody", "(I)V"⟩, prog_13_method_77_code, ((none : Option FieldType)), 12, false),
  (⟨"LaidQuarrelModel", "isUnder", "(II)Z"⟩, prog_13_method_78_code, (Option.some Jvm.ClassFile.FieldType.boolean), 12, false),
  (⟨"LaidQuarrelModel", "plainUtters", "(I)I"⟩, prog_13_method_79_code, (Option.some Jvm.ClassFile.FieldType.int), 12, false),
  (⟨"LaidQuarrelModel", "uttersActs", "(I)I"⟩, prog_13_method_80_code, (Option.some Jvm.ClassFile.FieldType.int), 12, false),
  (⟨"LaidQuarrelModel", "plainKeeping", "(I)I"⟩, prog_13_method_81_code, (Option.some Jvm.ClassFile.FieldType.int), 12, false),
  (⟨"LaidQuarrelModel", "keepsActs", "(I)I"⟩, prog_13_method_82_code, (Option.some Jvm.ClassFile.FieldType.int), 12, false),
  (⟨"LaidQuarrelModel", "plainTelling", "(I)I"⟩, prog_13_method_83_code, (Option.some Jvm.ClassFile.FieldType.int), 12, false),
  (⟨"LaidQuarrelModel", "tellsActs", "(I)I"⟩, prog_13_method_84_code, (Option.some Jvm.ClassFile.FieldType.int), 12, false),
  (⟨"LaidQuarrelModel", "act", "(III)I"⟩, prog_13_method_85_code, (Option.some Jvm.ClassFile.FieldType.int), 12, false),
  (⟨"LaidQuarrelModel", "trace", "(I)I"⟩, prog_13_method_86_code, (Option.some Jvm.ClassFile.FieldType.int), 12, false),
  (⟨"LaidQuarrelModel", "as", "(II)I"⟩, prog_13_method_87_code, (Option.some Jvm.ClassFile.FieldType.int), 12, false),
  (⟨"LaidQuarrelModel", "image", "()I"⟩, prog_13_method_88_code, (Option.some Jvm.ClassFile.FieldType.int), 12, false),
  (⟨"LaidQuarrelModel", "undo", "()I"⟩, prog_13_method_89_code, (Option.some Jvm.ClassFile.FieldType.int), 12, false),
  (⟨"LaidQuarrelModel", "count", "(I)I"⟩, prog_13_method_90_code, (Option.some Jvm.ClassFile.FieldType.int), 12, false),
  (⟨"java/lang/Integer", "numberOfTrailingZeros", "(I)I"⟩, prog_18_method_48_code, (Option.some Jvm.ClassFile.FieldType.int), 13, false),
  (⟨"java/lang/Integer", "bitCount", "(I)I"⟩, prog_18_method_49_code, (Option.some Jvm.ClassFile.FieldType.int), 13, false),
  (⟨"java/util/Objects", "checkIndex", "(II)I"⟩, prog_33_method_17_code, (Option.some Jvm.ClassFile.FieldType.int), 15, false),
  (⟨"jdk/internal/util/Preconditions", "checkIndex", "(IILjava/util/function/BiFunction;)I"⟩, prog_37_method_11_code, (Option.some Jvm.ClassFile.FieldType.int), 16, false),
  (⟨"java/util/AbstractList", "<init>", "()V"⟩, prog_28_method_1_code, ((none : Option FieldType)), 17, true),
  (⟨"java/util/AbstractCollection", "<init>", "()V"⟩, prog_27_method_1_code, ((none : Option FieldType)), 18, true),
  (⟨"LaidQuarrelLaw", "law", "([I)Z"⟩, code, (some .boolean), 19, false)]
def xMi (k : Nat) : MethodName × ByteArray × Option FieldType × Nat × Bool := xMs.getD k (⟨"", "", ""⟩, ⟨#[]⟩, none, 0, false)
def xNm (k : Nat) : MethodName := (xMi k).1
def xBc (k : Nat) : ByteArray := (xMi k).2.1
def xRt (k : Nat) : Option FieldType := (xMi k).2.2.1
def xOw (k : Nat) : Nat := (xMi k).2.2.2.1
def xIni (k : Nat) : Bool := (xMi k).2.2.2.2
def xWs (k : Nat) : List Cond := Cond.code (xNm k) (xBc k) (mt k).2.1 (xRt k) :: BW
def xLMs : List ((Nat × Nat) × Nat) := [((0, 118), 229), ((1, 44), 113), ((2, 65), 29), ((2, 140), 37), ((2, 143), 111), ((5, 13), 113), ((6, 32), 66), ((8, 29), 66), ((9, 13), 113), ((11, 67), 111), ((11, 71), 116), ((11, 174), 117), ((11, 178), 127), ((11, 207), 228), ((11, 215), 129), ((11, 218), 130), ((11, 226), 112), ((11, 241), 114), ((11, 244), 118), ((11, 264), 115), ((11, 320), 113), ((11, 323), 227), ((12, 50), 141), ((12, 54), 139), ((12, 149), 142), ((12, 152), 145), ((12, 174), 140), ((12, 204), 190), ((12, 220), 146), ((12, 232), 205), ((12, 251), 214), ((15, 105), 230)]
def xLMo : List ((Nat × Nat) × Nat) := [((1, 1), 0), ((2, 3), 0), ((6, 3), 0), ((8, 1), 0), ((11, 3), 0), ((12, 3), 0), ((18, 1), 0)]
def xLMm : List ((Nat × Nat) × (Nat × Nat)) := [((0, 79), (3, 2)), ((2, 56), (3, 2)), ((2, 86), (2, 1)), ((6, 38), (4, 2)), ((8, 13), (3, 2)), ((11, 221), (2, 1)), ((11, 286), (4, 2)), ((11, 289), (3, 2))]
def xLMt : List ((Nat × Nat) × (Nat × Nat)) := [((2, 146), (0, 1)), ((2, 152), (1, 2)), ((12, 72), (0, 1)), ((12, 77), (1, 2))]
def xLMp : List ((Nat × Nat) × (Nat × Nat)) := [((0, 1), (0, 0)), ((1, 9), (6, 0)), ((2, 11), (12, 2)), ((3, 1), (31, 3)), ((3, 7), (32, 2)), ((3, 29), (34, 1)), ((4, 1), (35, 3)), ((4, 7), (36, 2)), ((4, 32), (38, 1)), ((5, 1), (40, 3)), ((5, 31), (42, 1)), ((7, 1), (43, 3)), ((7, 7), (44, 2)), ((7, 35), (46, 1)), ((9, 1), (47, 3)), ((9, 31), (49, 1)), ((10, 1), (50, 3)), ((10, 7), (51, 2)), ((10, 29), (54, 1)), ((11, 13), (55, 2)), ((11, 46), (56, 1)), ((11, 58), (57, 0)), ((11, 294), (98, 3)), ((11, 299), (99, 3)), ((11, 302), (100, 3)), ((11, 305), (101, 3)), ((11, 308), (102, 3)), ((11, 311), (103, 3)), ((11, 312), (104, 3)), ((17, 1), (151, 0)), ((19, 9), (152, 0)), ((19, 12), (153, 0))]
def xLMv : List ((Nat × Nat) × (Nat × Nat)) := [((0, 69), (1, 1)), ((0, 123), (2, 1)), ((0, 129), (3, 0)), ((0, 131), (4, 3)), ((0, 144), (5, 2)), ((1, 33), (7, 1)), ((1, 37), (8, 1)), ((1, 50), (9, 3)), ((1, 56), (10, 1)), ((1, 63), (11, 1)), ((2, 26), (13, 1)), ((2, 30), (14, 0)), ((2, 33), (15, 0)), ((2, 36), (16, 2)), ((2, 44), (17, 2)), ((2, 47), (18, 4)), ((2, 61), (19, 3)), ((2, 90), (20, 0)), ((2, 96), (21, 0)), ((2, 100), (22, 1)), ((2, 106), (23, 1)), ((2, 110), (24, 0)), ((2, 114), (25, 2)), ((2, 124), (26, 1)), ((2, 127), (27, 3)), ((2, 131), (28, 1)), ((2, 134), (29, 1)), ((2, 137), (30, 0)), ((3, 23), (33, 3)), ((4, 26), (37, 3)), ((4, 36), (39, 1)), ((5, 25), (41, 3)), ((7, 29), (45, 3)), ((9, 25), (48, 3)), ((10, 11), (52, 0)), ((10, 23), (53, 3)), ((11, 78), (58, 0)), ((11, 82), (59, 0)), ((11, 85), (60, 1)), ((11, 94), (62, 1)), ((11, 119), (64, 3)), ((11, 124), (65, 1)), ((11, 140), (66, 2)), ((11, 144), (67, 2)), ((11, 147), (68, 2)), ((11, 151), (69, 1)), ((11, 155), (70, 2)), ((11, 161), (71, 0)), ((11, 164), (72, 0)), ((11, 167), (73, 0)), ((11, 170), (74, 1)), ((11, 186), (76, 1)), ((11, 190), (77, 2)), ((11, 194), (78, 1)), ((11, 198), (79, 1)), ((11, 200), (80, 0)), ((11, 204), (81, 0)), ((11, 212), (82, 1)), ((11, 230), (83, 1)), ((11, 233), (84, 2)), ((11, 236), (85, 3)), ((11, 248), (86, 3)), ((11, 252), (87, 0)), ((11, 255), (88, 1)), ((11, 258), (89, 1)), ((11, 261), (90, 1)), ((11, 267), (91, 0)), ((11, 270), (92, 0)), ((11, 271), (93, 0)), ((11, 278), (94, 0)), ((11, 281), (95, 0)), ((11, 285), (97, 0)), ((11, 313), (105, 2)), ((11, 317), (106, 2)), ((11, 326), (107, 2)), ((11, 329), (108, 2)), ((12, 68), (109, 0)), ((12, 81), (110, 1)), ((12, 91), (111, 0)), ((12, 94), (112, 1)), ((12, 97), (113, 0)), ((12, 102), (114, 1)), ((12, 108), (115, 0)), ((12, 111), (116, 0)), ((12, 114), (117, 1)), ((12, 120), (118, 2)), ((12, 128), (119, 2)), ((12, 133), (120, 0)), ((12, 136), (121, 0)), ((12, 139), (122, 2)), ((12, 143), (123, 1)), ((12, 146), (124, 1)), ((12, 156), (125, 1)), ((12, 159), (126, 1)), ((12, 162), (127, 1)), ((12, 165), (128, 0)), ((12, 168), (129, 0)), ((12, 171), (130, 0)), ((12, 178), (131, 2)), ((12, 182), (132, 2)), ((12, 185), (133, 0)), ((12, 188), (134, 1)), ((12, 191), (135, 0)), ((12, 194), (136, 0)), ((12, 198), (137, 0)), ((12, 201), (138, 1)), ((12, 210), (139, 3)), ((12, 217), (140, 2)), ((12, 223), (141, 1)), ((12, 226), (142, 0)), ((12, 236), (143, 3)), ((12, 242), (144, 1)), ((12, 255), (145, 1)), ((12, 258), (146, 1)), ((12, 264), (147, 1)), ((12, 267), (148, 1)), ((12, 270), (149, 1)), ((12, 273), (150, 1)), ((19, 13), (154, 1)), ((19, 17), (155, 1)), ((19, 18), (156, 0)), ((19, 22), (157, 0)), ((19, 23), (158, 3)), ((19, 27), (159, 3)), ((19, 28), (160, 1)), ((19, 31), (161, 1)), ((19, 32), (162, 2)), ((19, 36), (163, 2)), ((19, 37), (164, 3)), ((19, 40), (165, 3)), ((19, 41), (166, 3)), ((19, 44), (167, 3)), ((19, 45), (168, 1)), ((19, 48), (169, 1)), ((19, 49), (170, 1)), ((19, 52), (171, 1)), ((19, 53), (172, 2)), ((19, 56), (173, 2)), ((19, 57), (174, 3)), ((19, 60), (175, 3)), ((19, 61), (176, 1)), ((19, 64), (177, 1)), ((19, 65), (178, 2)), ((19, 68), (179, 2)), ((19, 69), (180, 2)), ((19, 72), (181, 2)), ((19, 73), (182, 1)), ((19, 76), (183, 1)), ((19, 77), (184, 1)), ((19, 80), (185, 1)), ((19, 81), (186, 2)), ((19, 84), (187, 2)), ((19, 85), (188, 2)), ((19, 88), (189, 2)), ((19, 89), (190, 0)), ((19, 92), (191, 0)), ((19, 93), (192, 1)), ((19, 96), (193, 1)), ((19, 97), (194, 3)), ((19, 100), (195, 3)), ((19, 101), (196, 3)), ((19, 104), (197, 3)), ((19, 105), (198, 2)), ((19, 108), (199, 2)), ((19, 109), (200, 2)), ((19, 112), (201, 2)), ((19, 113), (202, 2)), ((19, 116), (203, 2)), ((19, 117), (204, 3)), ((19, 121), (205, 3)), ((19, 122), (206, 2)), ((19, 126), (207, 2)), ((19, 127), (208, 3)), ((19, 130), (209, 3)), ((19, 131), (210, 1)), ((19, 134), (211, 1)), ((19, 135), (212, 2)), ((19, 138), (213, 2)), ((19, 139), (214, 0)), ((19, 142), (215, 0)), ((19, 143), (216, 3)), ((19, 146), (217, 3)), ((19, 147), (218, 1)), ((19, 150), (219, 1)), ((19, 151), (220, 2)), ((19, 154), (221, 2)), ((19, 155), (222, 0)), ((19, 158), (223, 0)), ((19, 159), (224, 0)), ((19, 162), (225, 0)), ((19, 163), (226, 1)), ((19, 166), (227, 1))]
def xLMf : List ((Nat × Nat) × (Nat × Nat)) := [((11, 89), (61, 0)), ((11, 112), (63, 1)), ((11, 182), (75, 1)), ((11, 282), (96, 1))]
/-- the check of one entry of a table against the bytes -/
def xDecC (own rk : Nat) (rt : Option FieldType) (i : Instr) (op : Nat) (a b : Int) : Bool := match i with
  | .ireturn => op == 60 && (decide (rt = some .int) || (decide (rt = some .boolean) && rk == 3))
  | .areturn => op == 61 && (match rt with | some (.object _) => true | some (.array _) => true | _ => false)
  | .lreturn => op == 62 && decide (rt = some .long)
  | .return_ => op == 63 && decide (rt = none)
  | .invokestatic k => (op == 50 && decide (xLMs.lookup (own, k) = some a.toNat)) || (op == 52 && decide (xLMm.lookup (own, k) = some (a.toNat, b.toNat)))
  | .invokespecial k => (op == 51 && decide (xLMp.lookup (own, k) = some (a.toNat, b.toNat))) || (op == 53 && decide (xLMo.lookup (own, k) = some 0))
  | .invokevirtual k => (op == 51 && decide (xLMv.lookup (own, k) = some (a.toNat, b.toNat))) || (op == 52 && decide (xLMt.lookup (own, k) = some (a.toNat, b.toNat)))
  | .invokeinterface k _ => op == 51 && decide (xLMf.lookup (own, k) = some (a.toNat, b.toNat))
  | _ => false
def xChkE (own rk : Nat) (rt : Option FieldType) (ini : Bool) (cc : ByteArray) (e : ME) : Bool := e.2.2.1 == 99 || (match decode cc e.1 with
  | .ok (i, len) => e.2.1 == e.1 + len && (xLn i == 0 || len == xLn i) && (if e.2.2.1 < 50 then decide (xDec own ini e.1 i = some (e.2.2.1, e.2.2.2.1, e.2.2.2.2.1, e.2.2.2.2.2)) else xDecC own rk rt i e.2.2.1 e.2.2.2.1 e.2.2.2.2.1)
  | .error _ => false)
def xChk (k : Nat) : Bool := (mt k).1.all (xChkE (xOw k) (mt k).2.2.2 (xRt k) (xIni k) (xBc k))
theorem ck_Jx4a65c_init_da8c8 : xChk 0 = true := by decide +kernel
theorem ck_Jx4a65c_grow_92f84 : xChk 1 = true := by decide +kernel
theorem ck_Jx4a65c_grow_d5877 : xChk 2 = true := by decide +kernel
theorem ck_Jx4a65c_size_8abf5 : xChk 3 = true := by decide +kernel
theorem ck_Jx4a65c_elementData_915e3 : xChk 4 = true := by decide +kernel
theorem ck_Jx4a65c_get_915e3 : xChk 5 = true := by decide +kernel
theorem ck_Jx4a65c_add_72be8 : xChk 6 = true := by decide +kernel
theorem ck_Jx4a65c_add_9ea2d : xChk 7 = true := by decide +kernel
theorem ck_Jx4a65c_remove_915e3 : xChk 8 = true := by decide +kernel
theorem ck_Jx4a65c_fastRemove_b59b0 : xChk 9 = true := by decide +kernel
theorem ck_X0_init : xChk 10 = true := by decide +kernel
theorem ck_X0_keep : xChk 11 = true := by decide +kernel
theorem ck_X0_restore : xChk 12 = true := by decide +kernel
theorem ck_X0_tryNow : xChk 13 = true := by decide +kernel
theorem ck_X0_tryBehind : xChk 14 = true := by decide +kernel
theorem ck_X0_spoken : xChk 15 = true := by decide +kernel
theorem ck_X0_utters : xChk 16 = true := by decide +kernel
theorem ck_X0_keeps : xChk 17 = true := by decide +kernel
theorem ck_X0_tells : xChk 18 = true := by decide +kernel
theorem ck_X1_init : xChk 19 = true := by decide +kernel
theorem ck_X1_copyFrom : xChk 20 = true := by decide +kernel
theorem ck_X1_keep : xChk 21 = true := by decide +kernel
theorem ck_X1_restore : xChk 22 = true := by decide +kernel
theorem ck_X1_calm : xChk 23 = true := by decide +kernel
theorem ck_X1_peace : xChk 24 = true := by decide +kernel
theorem ck_X1_lastOf : xChk 25 = true := by decide +kernel
theorem ck_X1_softOf : xChk 26 = true := by decide +kernel
theorem ck_X1_holds : xChk 27 = true := by decide +kernel
theorem ck_X1_testHolds : xChk 28 = true := by decide +kernel
theorem ck_X1_factOf : xChk 29 = true := by decide +kernel
theorem ck_X1_readText : xChk 30 = true := by decide +kernel
theorem ck_X1_readClause : xChk 31 = true := by decide +kernel
theorem ck_X1_addClause : xChk 32 = true := by decide +kernel
theorem ck_X1_readEither : xChk 33 = true := by decide +kernel
theorem ck_X1_readFactor : xChk 34 = true := by decide +kernel
theorem ck_X1_readBracket : xChk 35 = true := by decide +kernel
theorem ck_X1_readTest : xChk 36 = true := by decide +kernel
theorem ck_X1_isLetter : xChk 37 = true := by decide +kernel
theorem ck_X1_readNumber : xChk 38 = true := by decide +kernel
theorem ck_X1_takes : xChk 39 = true := by decide +kernel
theorem ck_X1_takesAll : xChk 40 = true := by decide +kernel
theorem ck_X2_init : xChk 41 = true := by decide +kernel
theorem ck_X2_spoken : xChk 42 = true := by decide +kernel
theorem ck_X2_tells : xChk 43 = true := by decide +kernel
theorem ck_X3_init : xChk 44 = true := by decide +kernel
theorem ck_X3_spoken : xChk 45 = true := by decide +kernel
theorem ck_X3_tells : xChk 46 = true := by decide +kernel
theorem ck_X4_init : xChk 47 = true := by decide +kernel
theorem ck_X4_spoken : xChk 48 = true := by decide +kernel
theorem ck_X4_utters : xChk 49 = true := by decide +kernel
theorem ck_X5_init : xChk 50 = true := by decide +kernel
theorem ck_X5_copyFrom : xChk 51 = true := by decide +kernel
theorem ck_X5_age : xChk 52 = true := by decide +kernel
theorem ck_X5_tell : xChk 53 = true := by decide +kernel
theorem ck_X5_telling : xChk 54 = true := by decide +kernel
theorem ck_X6_init : xChk 55 = true := by decide +kernel
theorem ck_X6_spoken : xChk 56 = true := by decide +kernel
theorem ck_X6_utters : xChk 57 = true := by decide +kernel
theorem ck_X7_init : xChk 58 = true := by decide +kernel
theorem ck_X7_add : xChk 59 = true := by decide +kernel
theorem ck_X7_at : xChk 60 = true := by decide +kernel
theorem ck_X7_put : xChk 61 = true := by decide +kernel
theorem ck_X7_clear : xChk 62 = true := by decide +kernel
theorem ck_X7_copyFrom : xChk 63 = true := by decide +kernel
theorem ck_X7_keep : xChk 64 = true := by decide +kernel
theorem ck_X7_restore : xChk 65 = true := by decide +kernel
theorem ck_X7_copy : xChk 66 = true := by decide +kernel
theorem ck_X8_init : xChk 67 = true := by decide +kernel
theorem ck_X8_spoken : xChk 68 = true := by decide +kernel
theorem ck_X8_keeps : xChk 69 = true := by decide +kernel
theorem ck_X9_init : xChk 70 = true := by decide +kernel
theorem ck_X9_spoken : xChk 71 = true := by decide +kernel
theorem ck_X9_keeps : xChk 72 = true := by decide +kernel
theorem ck_X10_init : xChk 73 = true := by decide +kernel
theorem ck_X10_feed : xChk 74 = true := by decide +kernel
theorem ck_X10_cellar : xChk 75 = true := by decide +kernel
theorem ck_X10_bottle : xChk 76 = true := by decide +kernel
theorem ck_X10_guest : xChk 77 = true := by decide +kernel
theorem ck_X10_of : xChk 78 = true := by decide +kernel
theorem ck_X10_row : xChk 79 = true := by decide +kernel
theorem ck_X10_set : xChk 80 = true := by decide +kernel
theorem ck_X10_mood : xChk 81 = true := by decide +kernel
theorem ck_X10_told : xChk 82 = true := by decide +kernel
theorem ck_X10_pour : xChk 83 = true := by decide +kernel
theorem ck_X10_both : xChk 84 = true := by decide +kernel
theorem ck_X10_pass : xChk 85 = true := by decide +kernel
theorem ck_X10_on : xChk 86 = true := by decide +kernel
theorem ck_X10_when : xChk 87 = true := by decide +kernel
theorem ck_X10_ripe : xChk 88 = true := by decide +kernel
theorem ck_X10_lies : xChk 89 = true := by decide +kernel
theorem ck_X10_choose : xChk 90 = true := by decide +kernel
theorem ck_X10_line : xChk 91 = true := by decide +kernel
theorem ck_X10_pair : xChk 92 = true := by decide +kernel
theorem ck_X10_match : xChk 93 = true := by decide +kernel
theorem ck_X10_words : xChk 94 = true := by decide +kernel
theorem ck_X10_see : xChk 95 = true := by decide +kernel
theorem ck_X10_old : xChk 96 = true := by decide +kernel
theorem ck_X10_firm : xChk 97 = true := by decide +kernel
theorem ck_X10_whose : xChk 98 = true := by decide +kernel
theorem ck_X10_odds : xChk 99 = true := by decide +kernel
theorem ck_X10_mean : xChk 100 = true := by decide +kernel
theorem ck_X10_evening : xChk 101 = true := by decide +kernel
theorem ck_X10_done : xChk 102 = true := by decide +kernel
theorem ck_X10_book : xChk 103 = true := by decide +kernel
theorem ck_X10_looked : xChk 104 = true := by decide +kernel
theorem ck_X10_act : xChk 105 = true := by decide +kernel
theorem ck_X10_trace : xChk 106 = true := by decide +kernel
theorem ck_X10_as : xChk 107 = true := by decide +kernel
theorem ck_X10_image : xChk 108 = true := by decide +kernel
theorem ck_X10_undo : xChk 109 = true := by decide +kernel
theorem ck_X10_count : xChk 110 = true := by decide +kernel
theorem ck_X10_within : xChk 111 = true := by decide +kernel
theorem ck_X10_isIn : xChk 112 = true := by decide +kernel
theorem ck_X10_nearer : xChk 113 = true := by decide +kernel
theorem ck_X10_heldMood : xChk 114 = true := by decide +kernel
theorem ck_X10_kindAbove : xChk 115 = true := by decide +kernel
theorem ck_X10_added : xChk 116 = true := by decide +kernel
theorem ck_X10_sum : xChk 117 = true := by decide +kernel
theorem ck_X10_fraction : xChk 118 = true := by decide +kernel
theorem ck_X10_isGuest : xChk 119 = true := by decide +kernel
theorem ck_X10_bottleAt : xChk 120 = true := by decide +kernel
theorem ck_X10_madeOf : xChk 121 = true := by decide +kernel
theorem ck_X10_says : xChk 122 = true := by decide +kernel
theorem ck_X10_allSay : xChk 123 = true := by decide +kernel
theorem ck_X10_fullOnes : xChk 124 = true := by decide +kernel
theorem ck_X10_hearAll : xChk 125 = true := by decide +kernel
theorem ck_X10_saidBy : xChk 126 = true := by decide +kernel
theorem ck_X10_lift : xChk 127 = true := by decide +kernel
theorem ck_X10_calmDown : xChk 128 = true := by decide +kernel
theorem ck_X10_bestLine : xChk 129 = true := by decide +kernel
theorem ck_X10_moodOf : xChk 130 = true := by decide +kernel
theorem ck_X10_countPairs : xChk 131 = true := by decide +kernel
theorem ck_X10_makesPeace : xChk 132 = true := by decide +kernel
theorem ck_X10_partnerOf : xChk 133 = true := by decide +kernel
theorem ck_X10_leastPartner : xChk 134 = true := by decide +kernel
theorem ck_X10_allSeenIsSo : xChk 135 = true := by decide +kernel
theorem ck_X10_tryRow : xChk 136 = true := by decide +kernel
theorem ck_X10_allSayAsTried : xChk 137 = true := by decide +kernel
theorem ck_X11_init : xChk 138 = true := by decide +kernel
theorem ck_X11_in : xChk 139 = true := by decide +kernel
theorem ck_X11_within : xChk 140 = true := by decide +kernel
theorem ck_X11_size : xChk 141 = true := by decide +kernel
theorem ck_X11_nearer : xChk 142 = true := by decide +kernel
theorem ck_X11_isBottle : xChk 143 = true := by decide +kernel
theorem ck_X11_isGuest : xChk 144 = true := by decide +kernel
theorem ck_X11_isMood : xChk 145 = true := by decide +kernel
theorem ck_X11_isSaying : xChk 146 = true := by decide +kernel
theorem ck_X11_keeps : xChk 147 = true := by decide +kernel
theorem ck_X11_goesBack : xChk 148 = true := by decide +kernel
theorem ck_X11_feed : xChk 149 = true := by decide +kernel
theorem ck_X11_here : xChk 150 = true := by decide +kernel
theorem ck_X11_must : xChk 151 = true := by decide +kernel
theorem ck_X11_spells : xChk 152 = true := by decide +kernel
theorem ck_X11_figures : xChk 153 = true := by decide +kernel
theorem ck_X11_among : xChk 154 = true := by decide +kernel
theorem ck_X11_emits : xChk 155 = true := by decide +kernel
theorem ck_X11_factor : xChk 156 = true := by decide +kernel
theorem ck_X11_every : xChk 157 = true := by decide +kernel
theorem ck_X11_some : xChk 158 = true := by decide +kernel
theorem ck_X11_much : xChk 159 = true := by decide +kernel
theorem ck_X11_tellsHere : xChk 160 = true := by decide +kernel
theorem ck_X11_wordOfS : xChk 161 = true := by decide +kernel
theorem ck_X11_clauseHere : xChk 162 = true := by decide +kernel
theorem ck_X11_cellar : xChk 163 = true := by decide +kernel
theorem ck_X11_tellsOf : xChk 164 = true := by decide +kernel
theorem ck_X11_looks : xChk 165 = true := by decide +kernel
theorem ck_X11_softOf : xChk 166 = true := by decide +kernel
theorem ck_X11_saysOf : xChk 167 = true := by decide +kernel
theorem ck_X11_bottle : xChk 168 = true := by decide +kernel
theorem ck_X11_guest : xChk 169 = true := by decide +kernel
theorem ck_X11_of : xChk 170 = true := by decide +kernel
theorem ck_X11_row : xChk 171 = true := by decide +kernel
theorem ck_X11_set : xChk 172 = true := by decide +kernel
theorem ck_X11_mood : xChk 173 = true := by decide +kernel
theorem ck_X11_fullOnes : xChk 174 = true := by decide +kernel
theorem ck_X11_allSay : xChk 175 = true := by decide +kernel
theorem ck_X11_allMoods : xChk 176 = true := by decide +kernel
theorem ck_X11_told : xChk 177 = true := by decide +kernel
theorem ck_X11_brings : xChk 178 = true := by decide +kernel
theorem ck_X11_pours : xChk 179 = true := by decide +kernel
theorem ck_X11_pour : xChk 180 = true := by decide +kernel
theorem ck_X11_both : xChk 181 = true := by decide +kernel
theorem ck_X11_goes : xChk 182 = true := by decide +kernel
theorem ck_X11_goesOn : xChk 183 = true := by decide +kernel
theorem ck_X11_pass : xChk 184 = true := by decide +kernel
theorem ck_X11_on : xChk 185 = true := by decide +kernel
theorem ck_X11_when : xChk 186 = true := by decide +kernel
theorem ck_X11_ripe : xChk 187 = true := by decide +kernel
theorem ck_X11_lies : xChk 188 = true := by decide +kernel
theorem ck_X11_looksForSayings : xChk 189 = true := by decide +kernel
theorem ck_X11_countOf : xChk 190 = true := by decide +kernel
theorem ck_X11_sumOf : xChk 191 = true := by decide +kernel
theorem ck_X11_choose : xChk 192 = true := by decide +kernel
theorem ck_X11_ordersFrom : xChk 193 = true := by decide +kernel
theorem ck_X11_line : xChk 194 = true := by decide +kernel
theorem ck_X11_pair : xChk 195 = true := by decide +kernel
theorem ck_X11_pairsFrom : xChk 196 = true := by decide +kernel
theorem ck_X11_match : xChk 197 = true := by decide +kernel
theorem ck_X11_words : xChk 198 = true := by decide +kernel
theorem ck_X11_see : xChk 199 = true := by decide +kernel
theorem ck_X11_isAsSeen : xChk 200 = true := by decide +kernel
theorem ck_X11_areAsSeen : xChk 201 = true := by decide +kernel
theorem ck_X11_old : xChk 202 = true := by decide +kernel
theorem ck_X11_firm : xChk 203 = true := by decide +kernel
theorem ck_X11_whose : xChk 204 = true := by decide +kernel
theorem ck_X11_lowest : xChk 205 = true := by decide +kernel
theorem ck_X11_odds : xChk 206 = true := by decide +kernel
theorem ck_X11_mean : xChk 207 = true := by decide +kernel
theorem ck_X11_evening : xChk 208 = true := by decide +kernel
theorem ck_X11_does : xChk 209 = true := by decide +kernel
theorem ck_X11_done : xChk 210 = true := by decide +kernel
theorem ck_X11_book : xChk 211 = true := by decide +kernel
theorem ck_X11_looked : xChk 212 = true := by decide +kernel
theorem ck_X11_ranBody : xChk 213 = true := by decide +kernel
theorem ck_X11_isUnder : xChk 214 = true := by decide +kernel
theorem ck_X11_plainUtters : xChk 215 = true := by decide +kernel
theorem ck_X11_uttersActs : xChk 216 = true := by decide +kernel
theorem ck_X11_plainKeeping : xChk 217 = true := by decide +kernel
theorem ck_X11_keepsActs : xChk 218 = true := by decide +kernel
theorem ck_X11_plainTelling : xChk 219 = true := by decide +kernel
theorem ck_X11_tellsActs : xChk 220 = true := by decide +kernel
theorem ck_X11_act : xChk 221 = true := by decide +kernel
theorem ck_X11_trace : xChk 222 = true := by decide +kernel
theorem ck_X11_as : xChk 223 = true := by decide +kernel
theorem ck_X11_image : xChk 224 = true := by decide +kernel
theorem ck_X11_undo : xChk 225 = true := by decide +kernel
theorem ck_X11_count : xChk 226 = true := by decide +kernel
theorem ck_J6_numberOfTrailingZeros_0f7a4 : xChk 227 = true := by decide +kernel
theorem ck_J6_bitCount_0f7a4 : xChk 228 = true := by decide +kernel
theorem ck_J15_checkIndex_7cf53 : xChk 229 = true := by decide +kernel
theorem ck_J3_checkIndex_8e157 : xChk 230 = true := by decide +kernel
theorem ck_Jxc12de_init_da8c8 : xChk 231 = true := by decide +kernel
theorem ck_Jxa1e45_init_da8c8 : xChk 232 = true := by decide +kernel
