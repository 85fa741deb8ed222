/-! ===== BEGIN words of one list among another's, by their places ===== -/
theorem goodIn_r {big : List Cond} (ws : List Cond) (ps : List Nat) (hp : ws = ps.filterMap (fun i => big[i]?)) (h : ws.all goodWord = true) : GoodIn big ws := by
  intro w hw
  have h1 := List.all_eq_true.mp h w hw
  rw [hp] at hw
  obtain ⟨i, -, hi⟩ := List.mem_filterMap.mp hw
  have hm : w ∈ big := by first | exact List.mem_of_getElem? hi | exact List.getElem?_mem hi
  exact ⟨hm, good_of_word h1⟩
theorem goodIn_app {big a b : List Cond} (ha : GoodIn big a) (hb : GoodIn big b) : GoodIn big (a ++ b) := fun w h => (List.mem_append.mp h).elim (ha w) (hb w)
theorem goodIn_ca {big a b : List Cond} {c : Cond} (ha : GoodIn big (c :: a)) (hb : GoodIn big b) : GoodIn big (c :: (a ++ b)) := fun w h => (List.mem_cons.mp h).elim (fun e => ha w (List.mem_cons.mpr (Or.inl e))) (fun h => (List.mem_append.mp h).elim (fun h => ha w (List.mem_cons.mpr (Or.inr h))) (hb w))
theorem goodIn_sub {big ws : List Cond} (hm : ∀ w ∈ ws, w ∈ big) (h : ws.all goodWord = true) : GoodIn big ws := fun w hw => ⟨hm w hw, good_of_word (List.all_eq_true.mp h w hw)⟩
/-! ===== END ===== -/

/-! ===== BEGIN printed: names, fields, word lists, decode rows ===== -/
def RX0 : String := "LaidQuarrel$Bottle"
def TX0 : u_T := fun k => match k with
  | 0 => ("LaidQuarrel$Bottle", "kind", "I", true)
  | 1 => ("LaidQuarrel$Bottle", "number", "I", true)
  | 2 => ("LaidQuarrel$Bottle", "bodies", "LLaidQuarrel$Shelf;", true)
  | 3 => ("LaidQuarrel$Bottle", "now", "LLaidQuarrel$Laid;", true)
  | 4 => ("LaidQuarrel$Bottle", "kept", "LLaidQuarrel$Laid;", true)
  | _ => ("LaidQuarrel$Bottle", "tried", "LLaidQuarrel$Laid;", true)
def tyX0 : Nat → FieldType := fun k => match k with
  | 0 => .int
  | 1 => .int
  | 2 => .object "LaidQuarrel$Shelf"
  | 3 => .object "LaidQuarrel$Laid"
  | 4 => .object "LaidQuarrel$Laid"
  | _ => .object "LaidQuarrel$Laid"
abbrev wsX00 : List Cond := u_ws RX0 TX0 6
theorem nmX0 : ∀ a, a < 6 → ∀ b, b < 6 → a ≠ b → (TX0 a).2.1 ≠ (TX0 b).2.1 := by decide +kernel
theorem tyX0_ok : ∀ k, k < 6 → parseFieldDescriptor (TX0 k).2.2.1 = some (tyX0 k) := by decide +kernel
abbrev cX0_init : ByteArray := prog_2_method_1_code
def yX0_init : MethodName := ⟨RX0, "<init>", "(IILLaidQuarrel$Shelf;)V"⟩
abbrev cX0_keep : ByteArray := prog_2_method_2_code
def yX0_keep : MethodName := ⟨RX0, "keep", "()V"⟩
abbrev cX0_restore : ByteArray := prog_2_method_3_code
def yX0_restore : MethodName := ⟨RX0, "restore", "()V"⟩
abbrev cX0_tryNow : ByteArray := prog_2_method_4_code
def yX0_tryNow : MethodName := ⟨RX0, "tryNow", "()LLaidQuarrel$Laid;"⟩
abbrev cX0_tryBehind : ByteArray := prog_2_method_5_code
def yX0_tryBehind : MethodName := ⟨RX0, "tryBehind", "(I)LLaidQuarrel$Laid;"⟩
abbrev cX0_spoken : ByteArray := prog_2_method_6_code
def yX0_spoken : MethodName := ⟨RX0, "spoken", "(LLaidQuarrel$Laid;I)I"⟩
abbrev cX0_utters : ByteArray := prog_2_method_7_code
def yX0_utters : MethodName := ⟨RX0, "utters", "(I)I"⟩
abbrev cX0_keeps : ByteArray := prog_2_method_8_code
def yX0_keeps : MethodName := ⟨RX0, "keeps", "(I)I"⟩
abbrev cX0_tells : ByteArray := prog_2_method_9_code
def yX0_tells : MethodName := ⟨RX0, "tells", "(I)I"⟩
def RX1 : String := "LaidQuarrel$Cellar"
def TX1 : u_T := fun k => match k with
  | 0 => ("LaidQuarrel$Cellar", "text", "LLaidQuarrel$Shelf;", true)
  | 1 => ("LaidQuarrel$Cellar", "clauses", "LLaidQuarrel$Shelf;", true)
  | 2 => ("LaidQuarrel$Cellar", "parts", "LLaidQuarrel$Shelf;", true)
  | 3 => ("LaidQuarrel$Cellar", "place", "I", false)
  | _ => ("LaidQuarrel$Cellar", "number", "I", false)
def tyX1 : Nat → FieldType := fun k => match k with
  | 0 => .object "LaidQuarrel$Shelf"
  | 1 => .object "LaidQuarrel$Shelf"
  | 2 => .object "LaidQuarrel$Shelf"
  | 3 => .int
  | _ => .int
abbrev wsX10 : List Cond := u_ws RX1 TX1 5
theorem nmX1 : ∀ a, a < 5 → ∀ b, b < 5 → a ≠ b → (TX1 a).2.1 ≠ (TX1 b).2.1 := by decide +kernel
theorem tyX1_ok : ∀ k, k < 5 → parseFieldDescriptor (TX1 k).2.2.1 = some (tyX1 k) := by decide +kernel
abbrev cX1_init : ByteArray := prog_3_method_1_code
def yX1_init : MethodName := ⟨RX1, "<init>", "(LLaidQuarrel$Shelf;)V"⟩
abbrev cX1_copyFrom : ByteArray := prog_3_method_2_code
def yX1_copyFrom : MethodName := ⟨RX1, "copyFrom", "(LLaidQuarrel$Cellar;)V"⟩
abbrev cX1_keep : ByteArray := prog_3_method_3_code
def yX1_keep : MethodName := ⟨RX1, "keep", "()V"⟩
abbrev cX1_restore : ByteArray := prog_3_method_4_code
def yX1_restore : MethodName := ⟨RX1, "restore", "()V"⟩
abbrev cX1_calm : ByteArray := prog_3_method_5_code
def yX1_calm : MethodName := ⟨RX1, "calm", "()I"⟩
abbrev cX1_peace : ByteArray := prog_3_method_6_code
def yX1_peace : MethodName := ⟨RX1, "peace", "()I"⟩
abbrev cX1_lastOf : ByteArray := prog_3_method_7_code
def yX1_lastOf : MethodName := ⟨RX1, "lastOf", "(II)I"⟩
abbrev cX1_softOf : ByteArray := prog_3_method_8_code
def yX1_softOf : MethodName := ⟨RX1, "softOf", "(LLaidQuarrel$Bottle;LLaidQuarrel$Laid;)I"⟩
abbrev cX1_holds : ByteArray := prog_3_method_9_code
def yX1_holds : MethodName := ⟨RX1, "holds", "(IILLaidQuarrel$Bottle;LLaidQuarrel$Laid;)Z"⟩
abbrev cX1_testHolds : ByteArray := prog_3_method_10_code
def yX1_testHolds : MethodName := ⟨RX1, "testHolds", "(ILLaidQuarrel$Bottle;LLaidQuarrel$Laid;)Z"⟩
abbrev cX1_factOf : ByteArray := prog_3_method_11_code
def yX1_factOf : MethodName := ⟨RX1, "factOf", "(ILLaidQuarrel$Bottle;LLaidQuarrel$Laid;)I"⟩
abbrev cX1_readText : ByteArray := prog_3_method_12_code
def yX1_readText : MethodName := ⟨RX1, "readText", "()I"⟩
abbrev cX1_readClause : ByteArray := prog_3_method_13_code
def yX1_readClause : MethodName := ⟨RX1, "readClause", "()Z"⟩
abbrev cX1_addClause : ByteArray := prog_3_method_14_code
def yX1_addClause : MethodName := ⟨RX1, "addClause", "(II)Z"⟩
abbrev cX1_readEither : ByteArray := prog_3_method_15_code
def yX1_readEither : MethodName := ⟨RX1, "readEither", "(I)Z"⟩
abbrev cX1_readFactor : ByteArray := prog_3_method_16_code
def yX1_readFactor : MethodName := ⟨RX1, "readFactor", "(I)Z"⟩
abbrev cX1_readBracket : ByteArray := prog_3_method_17_code
def yX1_readBracket : MethodName := ⟨RX1, "readBracket", "(I)Z"⟩
abbrev cX1_readTest : ByteArray := prog_3_method_18_code
def yX1_readTest : MethodName := ⟨RX1, "readTest", "()Z"⟩
abbrev cX1_isLetter : ByteArray := prog_3_method_19_code
def yX1_isLetter : MethodName := ⟨RX1, "isLetter", "(I)Z"⟩
abbrev cX1_readNumber : ByteArray := prog_3_method_20_code
def yX1_readNumber : MethodName := ⟨RX1, "readNumber", "()Z"⟩
abbrev cX1_takes : ByteArray := prog_3_method_21_code
def yX1_takes : MethodName := ⟨RX1, "takes", "(I)Z"⟩
abbrev cX1_takesAll : ByteArray := prog_3_method_22_code
def yX1_takesAll : MethodName := ⟨RX1, "takesAll", "(Ljava/lang/String;)Z"⟩
def RX2 : String := "LaidQuarrel$Corked"
def TX2 : u_T := fun k => match k with
  | 0 => ("LaidQuarrel$Bottle", "kind", "I", true)
  | 1 => ("LaidQuarrel$Bottle", "number", "I", true)
  | 2 => ("LaidQuarrel$Bottle", "bodies", "LLaidQuarrel$Shelf;", true)
  | 3 => ("LaidQuarrel$Bottle", "now", "LLaidQuarrel$Laid;", true)
  | 4 => ("LaidQuarrel$Bottle", "kept", "LLaidQuarrel$Laid;", true)
  | _ => ("LaidQuarrel$Bottle", "tried", "LLaidQuarrel$Laid;", true)
def tyX2 : Nat → FieldType := fun k => match k with
  | 0 => .int
  | 1 => .int
  | 2 => .object "LaidQuarrel$Shelf"
  | 3 => .object "LaidQuarrel$Laid"
  | 4 => .object "LaidQuarrel$Laid"
  | _ => .object "LaidQuarrel$Laid"
abbrev wsX20 : List Cond := u_ws RX2 TX2 6
theorem nmX2 : ∀ a, a < 6 → ∀ b, b < 6 → a ≠ b → (TX2 a).2.1 ≠ (TX2 b).2.1 := by decide +kernel
theorem tyX2_ok : ∀ k, k < 6 → parseFieldDescriptor (TX2 k).2.2.1 = some (tyX2 k) := by decide +kernel
abbrev cX2_init : ByteArray := prog_4_method_1_code
def yX2_init : MethodName := ⟨RX2, "<init>", "(IILLaidQuarrel$Shelf;)V"⟩
abbrev cX2_spoken : ByteArray := prog_4_method_2_code
def yX2_spoken : MethodName := ⟨RX2, "spoken", "(LLaidQuarrel$Laid;I)I"⟩
abbrev cX2_tells : ByteArray := prog_4_method_3_code
def yX2_tells : MethodName := ⟨RX2, "tells", "(I)I"⟩
def RX3 : String := "LaidQuarrel$Feud"
def TX3 : u_T := fun k => match k with
  | 0 => ("LaidQuarrel$Bottle", "kind", "I", true)
  | 1 => ("LaidQuarrel$Bottle", "number", "I", true)
  | 2 => ("LaidQuarrel$Bottle", "bodies", "LLaidQuarrel$Shelf;", true)
  | 3 => ("LaidQuarrel$Bottle", "now", "LLaidQuarrel$Laid;", true)
  | 4 => ("LaidQuarrel$Bottle", "kept", "LLaidQuarrel$Laid;", true)
  | _ => ("LaidQuarrel$Bottle", "tried", "LLaidQuarrel$Laid;", true)
def tyX3 : Nat → FieldType := fun k => match k with
  | 0 => .int
  | 1 => .int
  | 2 => .object "LaidQuarrel$Shelf"
  | 3 => .object "LaidQuarrel$Laid"
  | 4 => .object "LaidQuarrel$Laid"
  | _ => .object "LaidQuarrel$Laid"
abbrev wsX30 : List Cond := u_ws RX3 TX3 6
theorem nmX3 : ∀ a, a < 6 → ∀ b, b < 6 → a ≠ b → (TX3 a).2.1 ≠ (TX3 b).2.1 := by decide +kernel
theorem tyX3_ok : ∀ k, k < 6 → parseFieldDescriptor (TX3 k).2.2.1 = some (tyX3 k) := by decide +kernel
abbrev cX3_init : ByteArray := prog_5_method_1_code
def yX3_init : MethodName := ⟨RX3, "<init>", "(IILLaidQuarrel$Shelf;)V"⟩
abbrev cX3_spoken : ByteArray := prog_5_method_2_code
def yX3_spoken : MethodName := ⟨RX3, "spoken", "(LLaidQuarrel$Laid;I)I"⟩
abbrev cX3_tells : ByteArray := prog_5_method_3_code
def yX3_tells : MethodName := ⟨RX3, "tells", "(I)I"⟩
def RX4 : String := "LaidQuarrel$Hard"
def TX4 : u_T := fun k => match k with
  | 0 => ("LaidQuarrel$Bottle", "kind", "I", true)
  | 1 => ("LaidQuarrel$Bottle", "number", "I", true)
  | 2 => ("LaidQuarrel$Bottle", "bodies", "LLaidQuarrel$Shelf;", true)
  | 3 => ("LaidQuarrel$Bottle", "now", "LLaidQuarrel$Laid;", true)
  | 4 => ("LaidQuarrel$Bottle", "kept", "LLaidQuarrel$Laid;", true)
  | _ => ("LaidQuarrel$Bottle", "tried", "LLaidQuarrel$Laid;", true)
def tyX4 : Nat → FieldType := fun k => match k with
  | 0 => .int
  | 1 => .int
  | 2 => .object "LaidQuarrel$Shelf"
  | 3 => .object "LaidQuarrel$Laid"
  | 4 => .object "LaidQuarrel$Laid"
  | _ => .object "LaidQuarrel$Laid"
abbrev wsX40 : List Cond := u_ws RX4 TX4 6
theorem nmX4 : ∀ a, a < 6 → ∀ b, b < 6 → a ≠ b → (TX4 a).2.1 ≠ (TX4 b).2.1 := by decide +kernel
theorem tyX4_ok : ∀ k, k < 6 → parseFieldDescriptor (TX4 k).2.2.1 = some (tyX4 k) := by decide +kernel
abbrev cX4_init : ByteArray := prog_6_method_1_code
def yX4_init : MethodName := ⟨RX4, "<init>", "(IILLaidQuarrel$Shelf;)V"⟩
abbrev cX4_spoken : ByteArray := prog_6_method_2_code
def yX4_spoken : MethodName := ⟨RX4, "spoken", "(LLaidQuarrel$Laid;I)I"⟩
abbrev cX4_utters : ByteArray := prog_6_method_3_code
def yX4_utters : MethodName := ⟨RX4, "utters", "(I)I"⟩
def RX5 : String := "LaidQuarrel$Laid"
def TX5 : u_T := fun k => match k with
  | 0 => ("LaidQuarrel$Laid", "tellings", "[I", true)
  | 1 => ("LaidQuarrel$Laid", "v", "I", false)
  | 2 => ("LaidQuarrel$Laid", "word", "I", false)
  | 3 => ("LaidQuarrel$Laid", "years", "I", false)
  | 4 => ("LaidQuarrel$Laid", "quarter", "I", false)
  | _ => ("LaidQuarrel$Laid", "empty", "Z", false)
def tyX5 : Nat → FieldType := fun k => match k with
  | 0 => .array .int
  | 1 => .int
  | 2 => .int
  | 3 => .int
  | 4 => .int
  | _ => .boolean
abbrev wsX50 : List Cond := u_ws RX5 TX5 6
theorem nmX5 : ∀ a, a < 6 → ∀ b, b < 6 → a ≠ b → (TX5 a).2.1 ≠ (TX5 b).2.1 := by decide +kernel
theorem tyX5_ok : ∀ k, k < 6 → parseFieldDescriptor (TX5 k).2.2.1 = some (tyX5 k) := by decide +kernel
abbrev cX5_init : ByteArray := prog_7_method_1_code
def yX5_init : MethodName := ⟨RX5, "<init>", "()V"⟩
abbrev cX5_copyFrom : ByteArray := prog_7_method_2_code
def yX5_copyFrom : MethodName := ⟨RX5, "copyFrom", "(LLaidQuarrel$Laid;)V"⟩
abbrev cX5_age : ByteArray := prog_7_method_3_code
def yX5_age : MethodName := ⟨RX5, "age", "(I)V"⟩
abbrev cX5_tell : ByteArray := prog_7_method_4_code
def yX5_tell : MethodName := ⟨RX5, "tell", "(II)I"⟩
abbrev cX5_telling : ByteArray := prog_7_method_5_code
def yX5_telling : MethodName := ⟨RX5, "telling", "()I"⟩
def RX6 : String := "LaidQuarrel$Love"
def TX6 : u_T := fun k => match k with
  | 0 => ("LaidQuarrel$Bottle", "kind", "I", true)
  | 1 => ("LaidQuarrel$Bottle", "number", "I", true)
  | 2 => ("LaidQuarrel$Bottle", "bodies", "LLaidQuarrel$Shelf;", true)
  | 3 => ("LaidQuarrel$Bottle", "now", "LLaidQuarrel$Laid;", true)
  | 4 => ("LaidQuarrel$Bottle", "kept", "LLaidQuarrel$Laid;", true)
  | _ => ("LaidQuarrel$Bottle", "tried", "LLaidQuarrel$Laid;", true)
def tyX6 : Nat → FieldType := fun k => match k with
  | 0 => .int
  | 1 => .int
  | 2 => .object "LaidQuarrel$Shelf"
  | 3 => .object "LaidQuarrel$Laid"
  | 4 => .object "LaidQuarrel$Laid"
  | _ => .object "LaidQuarrel$Laid"
abbrev wsX60 : List Cond := u_ws RX6 TX6 6
theorem nmX6 : ∀ a, a < 6 → ∀ b, b < 6 → a ≠ b → (TX6 a).2.1 ≠ (TX6 b).2.1 := by decide +kernel
theorem tyX6_ok : ∀ k, k < 6 → parseFieldDescriptor (TX6 k).2.2.1 = some (tyX6 k) := by decide +kernel
abbrev cX6_init : ByteArray := prog_8_method_1_code
def yX6_init : MethodName := ⟨RX6, "<init>", "(IILLaidQuarrel$Shelf;)V"⟩
abbrev cX6_spoken : ByteArray := prog_8_method_2_code
def yX6_spoken : MethodName := ⟨RX6, "spoken", "(LLaidQuarrel$Laid;I)I"⟩
abbrev cX6_utters : ByteArray := prog_8_method_3_code
def yX6_utters : MethodName := ⟨RX6, "utters", "(I)I"⟩
def RX7 : String := "LaidQuarrel$Shelf"
def TX7 : u_T := fun k => match k with
  | 0 => ("LaidQuarrel$Shelf", "width", "I", true)
  | 1 => ("LaidQuarrel$Shelf", "cells", "[I", true)
  | 2 => ("LaidQuarrel$Shelf", "keptCells", "[I", true)
  | 3 => ("LaidQuarrel$Shelf", "rows", "I", false)
  | _ => ("LaidQuarrel$Shelf", "keptRows", "I", false)
def tyX7 : Nat → FieldType := fun k => match k with
  | 0 => .int
  | 1 => .array .int
  | 2 => .array .int
  | 3 => .int
  | _ => .int
abbrev wsX70 : List Cond := u_ws RX7 TX7 5
theorem nmX7 : ∀ a, a < 5 → ∀ b, b < 5 → a ≠ b → (TX7 a).2.1 ≠ (TX7 b).2.1 := by decide +kernel
theorem tyX7_ok : ∀ k, k < 5 → parseFieldDescriptor (TX7 k).2.2.1 = some (tyX7 k) := by decide +kernel
abbrev cX7_init : ByteArray := prog_9_method_1_code
def yX7_init : MethodName := ⟨RX7, "<init>", "(II)V"⟩
abbrev cX7_add : ByteArray := prog_9_method_2_code
def yX7_add : MethodName := ⟨RX7, "add", "(III)Z"⟩
abbrev cX7_at : ByteArray := prog_9_method_3_code
def yX7_at : MethodName := ⟨RX7, "at", "(II)I"⟩
abbrev cX7_put : ByteArray := prog_9_method_4_code
def yX7_put : MethodName := ⟨RX7, "put", "(II)V"⟩
abbrev cX7_clear : ByteArray := prog_9_method_5_code
def yX7_clear : MethodName := ⟨RX7, "clear", "()V"⟩
abbrev cX7_copyFrom : ByteArray := prog_9_method_6_code
def yX7_copyFrom : MethodName := ⟨RX7, "copyFrom", "(LLaidQuarrel$Shelf;)V"⟩
abbrev cX7_keep : ByteArray := prog_9_method_7_code
def yX7_keep : MethodName := ⟨RX7, "keep", "()V"⟩
abbrev cX7_restore : ByteArray := prog_9_method_8_code
def yX7_restore : MethodName := ⟨RX7, "restore", "()V"⟩
abbrev cX7_copy : ByteArray := prog_9_method_9_code
def yX7_copy : MethodName := ⟨RX7, "copy", "([I[I)V"⟩
def RX8 : String := "LaidQuarrel$Sweet"
def TX8 : u_T := fun k => match k with
  | 0 => ("LaidQuarrel$Bottle", "kind", "I", true)
  | 1 => ("LaidQuarrel$Bottle", "number", "I", true)
  | 2 => ("LaidQuarrel$Bottle", "bodies", "LLaidQuarrel$Shelf;", true)
  | 3 => ("LaidQuarrel$Bottle", "now", "LLaidQuarrel$Laid;", true)
  | 4 => ("LaidQuarrel$Bottle", "kept", "LLaidQuarrel$Laid;", true)
  | _ => ("LaidQuarrel$Bottle", "tried", "LLaidQuarrel$Laid;", true)
def tyX8 : Nat → FieldType := fun k => match k with
  | 0 => .int
  | 1 => .int
  | 2 => .object "LaidQuarrel$Shelf"
  | 3 => .object "LaidQuarrel$Laid"
  | 4 => .object "LaidQuarrel$Laid"
  | _ => .object "LaidQuarrel$Laid"
abbrev wsX80 : List Cond := u_ws RX8 TX8 6
theorem nmX8 : ∀ a, a < 6 → ∀ b, b < 6 → a ≠ b → (TX8 a).2.1 ≠ (TX8 b).2.1 := by decide +kernel
theorem tyX8_ok : ∀ k, k < 6 → parseFieldDescriptor (TX8 k).2.2.1 = some (tyX8 k) := by decide +kernel
abbrev cX8_init : ByteArray := prog_10_method_1_code
def yX8_init : MethodName := ⟨RX8, "<init>", "(IILLaidQuarrel$Shelf;)V"⟩
abbrev cX8_spoken : ByteArray := prog_10_method_2_code
def yX8_spoken : MethodName := ⟨RX8, "spoken", "(LLaidQuarrel$Laid;I)I"⟩
abbrev cX8_keeps : ByteArray := prog_10_method_3_code
def yX8_keeps : MethodName := ⟨RX8, "keeps", "(I)I"⟩
def RX9 : String := "LaidQuarrel$Told"
def TX9 : u_T := fun k => match k with
  | 0 => ("LaidQuarrel$Bottle", "kind", "I", true)
  | 1 => ("LaidQuarrel$Bottle", "number", "I", true)
  | 2 => ("LaidQuarrel$Bottle", "bodies", "LLaidQuarrel$Shelf;", true)
  | 3 => ("LaidQuarrel$Bottle", "now", "LLaidQuarrel$Laid;", true)
  | 4 => ("LaidQuarrel$Bottle", "kept", "LLaidQuarrel$Laid;", true)
  | _ => ("LaidQuarrel$Bottle", "tried", "LLaidQuarrel$Laid;", true)
def tyX9 : Nat → FieldType := fun k => match k with
  | 0 => .int
  | 1 => .int
  | 2 => .object "LaidQuarrel$Shelf"
  | 3 => .object "LaidQuarrel$Laid"
  | 4 => .object "LaidQuarrel$Laid"
  | _ => .object "LaidQuarrel$Laid"
abbrev wsX90 : List Cond := u_ws RX9 TX9 6
theorem nmX9 : ∀ a, a < 6 → ∀ b, b < 6 → a ≠ b → (TX9 a).2.1 ≠ (TX9 b).2.1 := by decide +kernel
theorem tyX9_ok : ∀ k, k < 6 → parseFieldDescriptor (TX9 k).2.2.1 = some (tyX9 k) := by decide +kernel
abbrev cX9_init : ByteArray := prog_11_method_1_code
def yX9_init : MethodName := ⟨RX9, "<init>", "(IILLaidQuarrel$Shelf;)V"⟩
abbrev cX9_spoken : ByteArray := prog_11_method_2_code
def yX9_spoken : MethodName := ⟨RX9, "spoken", "(LLaidQuarrel$Laid;I)I"⟩
abbrev cX9_keeps : ByteArray := prog_11_method_3_code
def yX9_keeps : MethodName := ⟨RX9, "keeps", "(I)I"⟩
def RX10 : String := "LaidQuarrel"
def TX10 : u_T := fun k => match k with
  | 0 => ("LaidQuarrel", "tape", "LLaidQuarrel$Shelf;", true)
  | 1 => ("LaidQuarrel", "moods", "LLaidQuarrel$Shelf;", true)
  | 2 => ("LaidQuarrel", "triedMoods", "LLaidQuarrel$Shelf;", true)
  | 3 => ("LaidQuarrel", "seen", "LLaidQuarrel$Shelf;", true)
  | 4 => ("LaidQuarrel", "evenings", "LLaidQuarrel$Shelf;", true)
  | 5 => ("LaidQuarrel", "books", "LLaidQuarrel$Shelf;", true)
  | 6 => ("LaidQuarrel", "bodies", "LLaidQuarrel$Shelf;", true)
  | 7 => ("LaidQuarrel", "said", "LLaidQuarrel$Shelf;", true)
  | 8 => ("LaidQuarrel", "mostPairs", "LLaidQuarrel$Shelf;", true)
  | 9 => ("LaidQuarrel", "held", "LLaidQuarrel$Cellar;", true)
  | 10 => ("LaidQuarrel", "fresh", "LLaidQuarrel$Cellar;", true)
  | 11 => ("LaidQuarrel", "bottles", "Ljava/util/List;", true)
  | 12 => ("LaidQuarrel", "cellars", "I", false)
  | 13 => ("LaidQuarrel", "year", "I", false)
  | 14 => ("LaidQuarrel", "keptBottles", "I", false)
  | 15 => ("LaidQuarrel", "keptCellars", "I", false)
  | _ => ("LaidQuarrel", "keptYear", "I", false)
def tyX10 : Nat → FieldType := fun k => match k with
  | 0 => .object "LaidQuarrel$Shelf"
  | 1 => .object "LaidQuarrel$Shelf"
  | 2 => .object "LaidQuarrel$Shelf"
  | 3 => .object "LaidQuarrel$Shelf"
  | 4 => .object "LaidQuarrel$Shelf"
  | 5 => .object "LaidQuarrel$Shelf"
  | 6 => .object "LaidQuarrel$Shelf"
  | 7 => .object "LaidQuarrel$Shelf"
  | 8 => .object "LaidQuarrel$Shelf"
  | 9 => .object "LaidQuarrel$Cellar"
  | 10 => .object "LaidQuarrel$Cellar"
  | 11 => .object "java/util/List"
  | 12 => .int
  | 13 => .int
  | 14 => .int
  | 15 => .int
  | _ => .int
abbrev wsX100 : List Cond := u_ws RX10 TX10 17
theorem nmX10 : ∀ a, a < 17 → ∀ b, b < 17 → a ≠ b → (TX10 a).2.1 ≠ (TX10 b).2.1 := by decide +kernel
theorem tyX10_ok : ∀ k, k < 17 → parseFieldDescriptor (TX10 k).2.2.1 = some (tyX10 k) := by decide +kernel
abbrev cX10_init : ByteArray := prog_1_method_1_code
def yX10_init : MethodName := ⟨RX10, "<init>", "()V"⟩
abbrev cX10_feed : ByteArray := prog_1_method_2_code
def yX10_feed : MethodName := ⟨RX10, "feed", "(I)I"⟩
abbrev cX10_cellar : ByteArray := prog_1_method_3_code
def yX10_cellar : MethodName := ⟨RX10, "cellar", "()I"⟩
abbrev cX10_bottle : ByteArray := prog_1_method_4_code
def yX10_bottle : MethodName := ⟨RX10, "bottle", "(III)I"⟩
abbrev cX10_guest : ByteArray := prog_1_method_5_code
def yX10_guest : MethodName := ⟨RX10, "guest", "(I)I"⟩
abbrev cX10_of : ByteArray := prog_1_method_6_code
def yX10_of : MethodName := ⟨RX10, "of", "(II)I"⟩
abbrev cX10_row : ByteArray := prog_1_method_7_code
def yX10_row : MethodName := ⟨RX10, "row", "(III)I"⟩
abbrev cX10_set : ByteArray := prog_1_method_8_code
def yX10_set : MethodName := ⟨RX10, "set", "(III)I"⟩
abbrev cX10_mood : ByteArray := prog_1_method_9_code
def yX10_mood : MethodName := ⟨RX10, "mood", "(I)I"⟩
abbrev cX10_told : ByteArray := prog_1_method_10_code
def yX10_told : MethodName := ⟨RX10, "told", "(I)I"⟩
abbrev cX10_pour : ByteArray := prog_1_method_11_code
def yX10_pour : MethodName := ⟨RX10, "pour", "(II)I"⟩
abbrev cX10_both : ByteArray := prog_1_method_12_code
def yX10_both : MethodName := ⟨RX10, "both", "(III)I"⟩
abbrev cX10_pass : ByteArray := prog_1_method_13_code
def yX10_pass : MethodName := ⟨RX10, "pass", "(I)I"⟩
abbrev cX10_on : ByteArray := prog_1_method_14_code
def yX10_on : MethodName := ⟨RX10, "on", "(II)I"⟩
abbrev cX10_when : ByteArray := prog_1_method_15_code
def yX10_when : MethodName := ⟨RX10, "when", "(II)I"⟩
abbrev cX10_ripe : ByteArray := prog_1_method_16_code
def yX10_ripe : MethodName := ⟨RX10, "ripe", "(I)I"⟩
abbrev cX10_lies : ByteArray := prog_1_method_17_code
def yX10_lies : MethodName := ⟨RX10, "lies", "(I)I"⟩
abbrev cX10_choose : ByteArray := prog_1_method_18_code
def yX10_choose : MethodName := ⟨RX10, "choose", "(II)I"⟩
abbrev cX10_line : ByteArray := prog_1_method_19_code
def yX10_line : MethodName := ⟨RX10, "line", "(II)I"⟩
abbrev cX10_pair : ByteArray := prog_1_method_20_code
def yX10_pair : MethodName := ⟨RX10, "pair", "()I"⟩
abbrev cX10_match : ByteArray := prog_1_method_21_code
def yX10_match : MethodName := ⟨RX10, "match", "(I)I"⟩
abbrev cX10_words : ByteArray := prog_1_method_22_code
def yX10_words : MethodName := ⟨RX10, "words", "(III)I"⟩
abbrev cX10_see : ByteArray := prog_1_method_23_code
def yX10_see : MethodName := ⟨RX10, "see", "(III)I"⟩
abbrev cX10_old : ByteArray := prog_1_method_24_code
def yX10_old : MethodName := ⟨RX10, "old", "(II)I"⟩
abbrev cX10_firm : ByteArray := prog_1_method_25_code
def yX10_firm : MethodName := ⟨RX10, "firm", "(II)I"⟩
abbrev cX10_whose : ByteArray := prog_1_method_26_code
def yX10_whose : MethodName := ⟨RX10, "whose", "(II)I"⟩
abbrev cX10_odds : ByteArray := prog_1_method_27_code
def yX10_odds : MethodName := ⟨RX10, "odds", "(III)J"⟩
abbrev cX10_mean : ByteArray := prog_1_method_28_code
def yX10_mean : MethodName := ⟨RX10, "mean", "(II)J"⟩
abbrev cX10_evening : ByteArray := prog_1_method_29_code
def yX10_evening : MethodName := ⟨RX10, "evening", "(III)I"⟩
abbrev cX10_done : ByteArray := prog_1_method_30_code
def yX10_done : MethodName := ⟨RX10, "done", "(I)I"⟩
abbrev cX10_book : ByteArray := prog_1_method_31_code
def yX10_book : MethodName := ⟨RX10, "book", "(II)I"⟩
abbrev cX10_looked : ByteArray := prog_1_method_32_code
def yX10_looked : MethodName := ⟨RX10, "looked", "()I"⟩
abbrev cX10_act : ByteArray := prog_1_method_33_code
def yX10_act : MethodName := ⟨RX10, "act", "(III)I"⟩
abbrev cX10_trace : ByteArray := prog_1_method_34_code
def yX10_trace : MethodName := ⟨RX10, "trace", "(I)I"⟩
abbrev cX10_as : ByteArray := prog_1_method_35_code
def yX10_as : MethodName := ⟨RX10, "as", "(II)I"⟩
abbrev cX10_image : ByteArray := prog_1_method_36_code
def yX10_image : MethodName := ⟨RX10, "image", "()I"⟩
abbrev cX10_undo : ByteArray := prog_1_method_37_code
def yX10_undo : MethodName := ⟨RX10, "undo", "()I"⟩
abbrev cX10_count : ByteArray := prog_1_method_38_code
def yX10_count : MethodName := ⟨RX10, "count", "(I)I"⟩
abbrev cX10_within : ByteArray := prog_1_method_39_code
def yX10_within : MethodName := ⟨RX10, "within", "(III)Z"⟩
abbrev cX10_isIn : ByteArray := prog_1_method_40_code
def yX10_isIn : MethodName := ⟨RX10, "isIn", "(II)Z"⟩
abbrev cX10_nearer : ByteArray := prog_1_method_41_code
def yX10_nearer : MethodName := ⟨RX10, "nearer", "(II)I"⟩
abbrev cX10_heldMood : ByteArray := prog_1_method_42_code
def yX10_heldMood : MethodName := ⟨RX10, "heldMood", "(I)I"⟩
abbrev cX10_kindAbove : ByteArray := prog_1_method_43_code
def yX10_kindAbove : MethodName := ⟨RX10, "kindAbove", "(I)I"⟩
abbrev cX10_added : ByteArray := prog_1_method_44_code
def yX10_added : MethodName := ⟨RX10, "added", "(LLaidQuarrel$Shelf;III)I"⟩
abbrev cX10_sum : ByteArray := prog_1_method_45_code
def yX10_sum : MethodName := ⟨RX10, "sum", "(LLaidQuarrel$Shelf;)I"⟩
abbrev cX10_fraction : ByteArray := prog_1_method_46_code
def yX10_fraction : MethodName := ⟨RX10, "fraction", "(III)J"⟩
abbrev cX10_isGuest : ByteArray := prog_1_method_47_code
def yX10_isGuest : MethodName := ⟨RX10, "isGuest", "(I)Z"⟩
abbrev cX10_bottleAt : ByteArray := prog_1_method_48_code
def yX10_bottleAt : MethodName := ⟨RX10, "bottleAt", "(I)LLaidQuarrel$Bottle;"⟩
abbrev cX10_madeOf : ByteArray := prog_1_method_49_code
def yX10_madeOf : MethodName := ⟨RX10, "madeOf", "(I)LLaidQuarrel$Bottle;"⟩
abbrev cX10_says : ByteArray := prog_1_method_50_code
def yX10_says : MethodName := ⟨RX10, "says", "(LLaidQuarrel$Bottle;LLaidQuarrel$Laid;)I"⟩
abbrev cX10_allSay : ByteArray := prog_1_method_51_code
def yX10_allSay : MethodName := ⟨RX10, "allSay", "(I)I"⟩
abbrev cX10_fullOnes : ByteArray := prog_1_method_52_code
def yX10_fullOnes : MethodName := ⟨RX10, "fullOnes", "()I"⟩
abbrev cX10_hearAll : ByteArray := prog_1_method_53_code
def yX10_hearAll : MethodName := ⟨RX10, "hearAll", "()V"⟩
abbrev cX10_saidBy : ByteArray := prog_1_method_54_code
def yX10_saidBy : MethodName := ⟨RX10, "saidBy", "(I)I"⟩
abbrev cX10_lift : ByteArray := prog_1_method_55_code
def yX10_lift : MethodName := ⟨RX10, "lift", "(LLaidQuarrel$Shelf;II)I"⟩
abbrev cX10_calmDown : ByteArray := prog_1_method_56_code
def yX10_calmDown : MethodName := ⟨RX10, "calmDown", "(LLaidQuarrel$Shelf;I)V"⟩
abbrev cX10_bestLine : ByteArray := prog_1_method_57_code
def yX10_bestLine : MethodName := ⟨RX10, "bestLine", "(LLaidQuarrel$Shelf;III)I"⟩
abbrev cX10_moodOf : ByteArray := prog_1_method_58_code
def yX10_moodOf : MethodName := ⟨RX10, "moodOf", "(I)I"⟩
abbrev cX10_countPairs : ByteArray := prog_1_method_59_code
def yX10_countPairs : MethodName := ⟨RX10, "countPairs", "(I)V"⟩
abbrev cX10_makesPeace : ByteArray := prog_1_method_60_code
def yX10_makesPeace : MethodName := ⟨RX10, "makesPeace", "(II)Z"⟩
abbrev cX10_partnerOf : ByteArray := prog_1_method_61_code
def yX10_partnerOf : MethodName := ⟨RX10, "partnerOf", "(II)I"⟩
abbrev cX10_leastPartner : ByteArray := prog_1_method_62_code
def yX10_leastPartner : MethodName := ⟨RX10, "leastPartner", "(II)I"⟩
abbrev cX10_allSeenIsSo : ByteArray := prog_1_method_63_code
def yX10_allSeenIsSo : MethodName := ⟨RX10, "allSeenIsSo", "(III)Z"⟩
abbrev cX10_tryRow : ByteArray := prog_1_method_64_code
def yX10_tryRow : MethodName := ⟨RX10, "tryRow", "(ILLaidQuarrel$Bottle;I)V"⟩
abbrev cX10_allSayAsTried : ByteArray := prog_1_method_65_code
def yX10_allSayAsTried : MethodName := ⟨RX10, "allSayAsTried", "()I"⟩
def RX11 : String := "LaidQuarrelModel"
def TX11 : u_T := fun k => match k with
  | 0 => ("LaidQuarrelModel", "thrown", "I", false)
  | 1 => ("LaidQuarrelModel", "s", "[I", true)
  | 2 => ("LaidQuarrelModel", "image", "[I", true)
  | 3 => ("LaidQuarrelModel", "frame", "[I", true)
  | 4 => ("LaidQuarrelModel", "hasImage", "Z", false)
  | 5 => ("LaidQuarrelModel", "act", "I", false)
  | 6 => ("LaidQuarrelModel", "spot", "I", false)
  | 7 => ("LaidQuarrelModel", "end", "I", false)
  | 8 => ("LaidQuarrelModel", "isWrong", "Z", false)
  | 9 => ("LaidQuarrelModel", "open", "I", false)
  | 10 => ("LaidQuarrelModel", "by", "[I", true)
  | 11 => ("LaidQuarrelModel", "truths", "[Z", true)
  | 12 => ("LaidQuarrelModel", "sayings", "[I", true)
  | 13 => ("LaidQuarrelModel", "inLine", "[I", true)
  | 14 => ("LaidQuarrelModel", "bestRow", "[I", true)
  | 15 => ("LaidQuarrelModel", "bestMood", "I", false)
  | 16 => ("LaidQuarrelModel", "partner", "[I", true)
  | 17 => ("LaidQuarrelModel", "bestPartner", "[I", true)
  | 18 => ("LaidQuarrelModel", "mostPairs", "I", false)
  | 19 => ("LaidQuarrelModel", "bodies", "[I", true)
  | 20 => ("LaidQuarrelModel", "ran", "I", false)
  | 21 => ("LaidQuarrelModel", "kind", "I", false)
  | 22 => ("LaidQuarrelModel", "number", "I", false)
  | _ => ("LaidQuarrelModel", "tellsV", "I", false)
def tyX11 : Nat → FieldType := fun k => match k with
  | 0 => .int
  | 1 => .array .int
  | 2 => .array .int
  | 3 => .array .int
  | 4 => .boolean
  | 5 => .int
  | 6 => .int
  | 7 => .int
  | 8 => .boolean
  | 9 => .int
  | 10 => .array .int
  | 11 => .array .boolean
  | 12 => .array .int
  | 13 => .array .int
  | 14 => .array .int
  | 15 => .int
  | 16 => .array .int
  | 17 => .array .int
  | 18 => .int
  | 19 => .array .int
  | 20 => .int
  | 21 => .int
  | 22 => .int
  | _ => .int
abbrev wsX110 : List Cond := u_ws RX11 TX11 24
theorem nmX11 : ∀ a, a < 24 → ∀ b, b < 24 → a ≠ b → (TX11 a).2.1 ≠ (TX11 b).2.1 := by decide +kernel
theorem tyX11_ok : ∀ k, k < 24 → parseFieldDescriptor (TX11 k).2.2.1 = some (tyX11 k) := by decide +kernel
abbrev cX11_init : ByteArray := prog_13_method_1_code
def yX11_init : MethodName := ⟨RX11, "<init>", "()V"⟩
abbrev cX11_in : ByteArray := prog_13_method_3_code
def yX11_in : MethodName := ⟨RX11, "in", "(III)Z"⟩
abbrev cX11_within : ByteArray := prog_13_method_4_code
def yX11_within : MethodName := ⟨RX11, "within", "(III)I"⟩
abbrev cX11_size : ByteArray := prog_13_method_5_code
def yX11_size : MethodName := ⟨RX11, "size", "(I)I"⟩
abbrev cX11_nearer : ByteArray := prog_13_method_6_code
def yX11_nearer : MethodName := ⟨RX11, "nearer", "(II)I"⟩
abbrev cX11_isBottle : ByteArray := prog_13_method_7_code
def yX11_isBottle : MethodName := ⟨RX11, "isBottle", "(I)Z"⟩
abbrev cX11_isGuest : ByteArray := prog_13_method_8_code
def yX11_isGuest : MethodName := ⟨RX11, "isGuest", "(I)Z"⟩
abbrev cX11_isMood : ByteArray := prog_13_method_9_code
def yX11_isMood : MethodName := ⟨RX11, "isMood", "(I)Z"⟩
abbrev cX11_isSaying : ByteArray := prog_13_method_10_code
def yX11_isSaying : MethodName := ⟨RX11, "isSaying", "(I)Z"⟩
abbrev cX11_keeps : ByteArray := prog_13_method_11_code
def yX11_keeps : MethodName := ⟨RX11, "keeps", "()V"⟩
abbrev cX11_goesBack : ByteArray := prog_13_method_12_code
def yX11_goesBack : MethodName := ⟨RX11, "goesBack", "()V"⟩
abbrev cX11_feed : ByteArray := prog_13_method_13_code
def yX11_feed : MethodName := ⟨RX11, "feed", "(I)I"⟩
abbrev cX11_here : ByteArray := prog_13_method_14_code
def yX11_here : MethodName := ⟨RX11, "here", "()I"⟩
abbrev cX11_must : ByteArray := prog_13_method_15_code
def yX11_must : MethodName := ⟨RX11, "must", "(I)V"⟩
abbrev cX11_spells : ByteArray := prog_13_method_16_code
def yX11_spells : MethodName := ⟨RX11, "spells", "(Ljava/lang/String;)V"⟩
abbrev cX11_figures : ByteArray := prog_13_method_17_code
def yX11_figures : MethodName := ⟨RX11, "figures", "()I"⟩
abbrev cX11_among : ByteArray := prog_13_method_18_code
def yX11_among : MethodName := ⟨RX11, "among", "(Ljava/lang/String;)I"⟩
abbrev cX11_emits : ByteArray := prog_13_method_19_code
def yX11_emits : MethodName := ⟨RX11, "emits", "(I)V"⟩
abbrev cX11_factor : ByteArray := prog_13_method_20_code
def yX11_factor : MethodName := ⟨RX11, "factor", "()V"⟩
abbrev cX11_every : ByteArray := prog_13_method_21_code
def yX11_every : MethodName := ⟨RX11, "every", "()V"⟩
abbrev cX11_some : ByteArray := prog_13_method_22_code
def yX11_some : MethodName := ⟨RX11, "some", "()V"⟩
abbrev cX11_much : ByteArray := prog_13_method_23_code
def yX11_much : MethodName := ⟨RX11, "much", "(ILjava/lang/String;)V"⟩
abbrev cX11_tellsHere : ByteArray := prog_13_method_24_code
def yX11_tellsHere : MethodName := ⟨RX11, "tellsHere", "(ILjava/lang/String;)V"⟩
abbrev cX11_wordOfS : ByteArray := prog_13_method_25_code
def yX11_wordOfS : MethodName := ⟨RX11, "wordOfS", "()V"⟩
abbrev cX11_clauseHere : ByteArray := prog_13_method_26_code
def yX11_clauseHere : MethodName := ⟨RX11, "clauseHere", "()V"⟩
abbrev cX11_cellar : ByteArray := prog_13_method_27_code
def yX11_cellar : MethodName := ⟨RX11, "cellar", "()I"⟩
abbrev cX11_tellsOf : ByteArray := prog_13_method_28_code
def yX11_tellsOf : MethodName := ⟨RX11, "tellsOf", "(II)I"⟩
abbrev cX11_looks : ByteArray := prog_13_method_29_code
def yX11_looks : MethodName := ⟨RX11, "looks", "(I)I"⟩
abbrev cX11_softOf : ByteArray := prog_13_method_30_code
def yX11_softOf : MethodName := ⟨RX11, "softOf", "(I)I"⟩
abbrev cX11_saysOf : ByteArray := prog_13_method_31_code
def yX11_saysOf : MethodName := ⟨RX11, "saysOf", "(I)I"⟩
abbrev cX11_bottle : ByteArray := prog_13_method_32_code
def yX11_bottle : MethodName := ⟨RX11, "bottle", "(III)I"⟩
abbrev cX11_guest : ByteArray := prog_13_method_33_code
def yX11_guest : MethodName := ⟨RX11, "guest", "(I)I"⟩
abbrev cX11_of : ByteArray := prog_13_method_34_code
def yX11_of : MethodName := ⟨RX11, "of", "(II)I"⟩
abbrev cX11_row : ByteArray := prog_13_method_35_code
def yX11_row : MethodName := ⟨RX11, "row", "(III)I"⟩
abbrev cX11_set : ByteArray := prog_13_method_36_code
def yX11_set : MethodName := ⟨RX11, "set", "(III)I"⟩
abbrev cX11_mood : ByteArray := prog_13_method_37_code
def yX11_mood : MethodName := ⟨RX11, "mood", "(I)I"⟩
abbrev cX11_fullOnes : ByteArray := prog_13_method_38_code
def yX11_fullOnes : MethodName := ⟨RX11, "fullOnes", "()I"⟩
abbrev cX11_allSay : ByteArray := prog_13_method_39_code
def yX11_allSay : MethodName := ⟨RX11, "allSay", "()I"⟩
abbrev cX11_allMoods : ByteArray := prog_13_method_40_code
def yX11_allMoods : MethodName := ⟨RX11, "allMoods", "()I"⟩
abbrev cX11_told : ByteArray := prog_13_method_41_code
def yX11_told : MethodName := ⟨RX11, "told", "(I)I"⟩
abbrev cX11_brings : ByteArray := prog_13_method_42_code
def yX11_brings : MethodName := ⟨RX11, "brings", "(II)V"⟩
abbrev cX11_pours : ByteArray := prog_13_method_43_code
def yX11_pours : MethodName := ⟨RX11, "pours", "(II)V"⟩
abbrev cX11_pour : ByteArray := prog_13_method_44_code
def yX11_pour : MethodName := ⟨RX11, "pour", "(II)I"⟩
abbrev cX11_both : ByteArray := prog_13_method_45_code
def yX11_both : MethodName := ⟨RX11, "both", "(III)I"⟩
abbrev cX11_goes : ByteArray := prog_13_method_46_code
def yX11_goes : MethodName := ⟨RX11, "goes", "()V"⟩
abbrev cX11_goesOn : ByteArray := prog_13_method_47_code
def yX11_goesOn : MethodName := ⟨RX11, "goesOn", "(I)V"⟩
abbrev cX11_pass : ByteArray := prog_13_method_48_code
def yX11_pass : MethodName := ⟨RX11, "pass", "(I)I"⟩
abbrev cX11_on : ByteArray := prog_13_method_49_code
def yX11_on : MethodName := ⟨RX11, "on", "(II)I"⟩
abbrev cX11_when : ByteArray := prog_13_method_50_code
def yX11_when : MethodName := ⟨RX11, "when", "(II)I"⟩
abbrev cX11_ripe : ByteArray := prog_13_method_51_code
def yX11_ripe : MethodName := ⟨RX11, "ripe", "(I)I"⟩
abbrev cX11_lies : ByteArray := prog_13_method_52_code
def yX11_lies : MethodName := ⟨RX11, "lies", "(I)I"⟩
abbrev cX11_looksForSayings : ByteArray := prog_13_method_53_code
def yX11_looksForSayings : MethodName := ⟨RX11, "looksForSayings", "()V"⟩
abbrev cX11_countOf : ByteArray := prog_13_method_54_code
def yX11_countOf : MethodName := ⟨RX11, "countOf", "(I)I"⟩
abbrev cX11_sumOf : ByteArray := prog_13_method_55_code
def yX11_sumOf : MethodName := ⟨RX11, "sumOf", "(I)I"⟩
abbrev cX11_choose : ByteArray := prog_13_method_56_code
def yX11_choose : MethodName := ⟨RX11, "choose", "(II)I"⟩
abbrev cX11_ordersFrom : ByteArray := prog_13_method_57_code
def yX11_ordersFrom : MethodName := ⟨RX11, "ordersFrom", "(III)V"⟩
abbrev cX11_line : ByteArray := prog_13_method_58_code
def yX11_line : MethodName := ⟨RX11, "line", "(II)I"⟩
abbrev cX11_pair : ByteArray := prog_13_method_59_code
def yX11_pair : MethodName := ⟨RX11, "pair", "()I"⟩
abbrev cX11_pairsFrom : ByteArray := prog_13_method_60_code
def yX11_pairsFrom : MethodName := ⟨RX11, "pairsFrom", "(II)V"⟩
abbrev cX11_match : ByteArray := prog_13_method_61_code
def yX11_match : MethodName := ⟨RX11, "match", "(I)I"⟩
abbrev cX11_words : ByteArray := prog_13_method_62_code
def yX11_words : MethodName := ⟨RX11, "words", "(III)I"⟩
abbrev cX11_see : ByteArray := prog_13_method_63_code
def yX11_see : MethodName := ⟨RX11, "see", "(III)I"⟩
abbrev cX11_isAsSeen : ByteArray := prog_13_method_64_code
def yX11_isAsSeen : MethodName := ⟨RX11, "isAsSeen", "(I)Z"⟩
abbrev cX11_areAsSeen : ByteArray := prog_13_method_65_code
def yX11_areAsSeen : MethodName := ⟨RX11, "areAsSeen", "()Z"⟩
abbrev cX11_old : ByteArray := prog_13_method_66_code
def yX11_old : MethodName := ⟨RX11, "old", "(II)I"⟩
abbrev cX11_firm : ByteArray := prog_13_method_67_code
def yX11_firm : MethodName := ⟨RX11, "firm", "(II)I"⟩
abbrev cX11_whose : ByteArray := prog_13_method_68_code
def yX11_whose : MethodName := ⟨RX11, "whose", "(II)I"⟩
abbrev cX11_lowest : ByteArray := prog_13_method_69_code
def yX11_lowest : MethodName := ⟨RX11, "lowest", "(JJI)J"⟩
abbrev cX11_odds : ByteArray := prog_13_method_70_code
def yX11_odds : MethodName := ⟨RX11, "odds", "(III)J"⟩
abbrev cX11_mean : ByteArray := prog_13_method_71_code
def yX11_mean : MethodName := ⟨RX11, "mean", "(II)J"⟩
abbrev cX11_evening : ByteArray := prog_13_method_72_code
def yX11_evening : MethodName := ⟨RX11, "evening", "(III)I"⟩
abbrev cX11_does : ByteArray := prog_13_method_73_code
def yX11_does : MethodName := ⟨RX11, "does", "(III)V"⟩
abbrev cX11_done : ByteArray := prog_13_method_74_code
def yX11_done : MethodName := ⟨RX11, "done", "(I)I"⟩
abbrev cX11_book : ByteArray := prog_13_method_75_code
def yX11_book : MethodName := ⟨RX11, "book", "(II)I"⟩
abbrev cX11_looked : ByteArray := prog_13_method_76_code
def yX11_looked : MethodName := ⟨RX11, "looked", "()I"⟩
abbrev cX11_ranBody : ByteArray := prog_13_method_77_code
def yX11_ranBody : MethodName := ⟨RX11, "ranBody", "(I)V"⟩
abbrev cX11_isUnder : ByteArray := prog_13_method_78_code
def yX11_isUnder : MethodName := ⟨RX11, "isUnder", "(II)Z"⟩
abbrev cX11_plainUtters : ByteArray := prog_13_method_79_code
def yX11_plainUtters : MethodName := ⟨RX11, "plainUtters", "(I)I"⟩
abbrev cX11_uttersActs : ByteArray := prog_13_method_80_code
def yX11_uttersActs : MethodName := ⟨RX11, "uttersActs", "(I)I"⟩
abbrev cX11_plainKeeping : ByteArray := prog_13_method_81_code
def yX11_plainKeeping : MethodName := ⟨RX11, "plainKeeping", "(I)I"⟩
abbrev cX11_keepsActs : ByteArray := prog_13_method_82_code
def yX11_keepsActs : MethodName := ⟨RX11, "keepsActs", "(I)I"⟩
abbrev cX11_plainTelling : ByteArray := prog_13_method_83_code
def yX11_plainTelling : MethodName := ⟨RX11, "plainTelling", "(I)I"⟩
abbrev cX11_tellsActs : ByteArray := prog_13_method_84_code
def yX11_tellsActs : MethodName := ⟨RX11, "tellsActs", "(I)I"⟩
abbrev cX11_act : ByteArray := prog_13_method_85_code
def yX11_act : MethodName := ⟨RX11, "act", "(III)I"⟩
abbrev cX11_trace : ByteArray := prog_13_method_86_code
def yX11_trace : MethodName := ⟨RX11, "trace", "(I)I"⟩
abbrev cX11_as : ByteArray := prog_13_method_87_code
def yX11_as : MethodName := ⟨RX11, "as", "(II)I"⟩
abbrev cX11_image : ByteArray := prog_13_method_88_code
def yX11_image : MethodName := ⟨RX11, "image", "()I"⟩
abbrev cX11_undo : ByteArray := prog_13_method_89_code
def yX11_undo : MethodName := ⟨RX11, "undo", "()I"⟩
abbrev cX11_count : ByteArray := prog_13_method_90_code
def yX11_count : MethodName := ⟨RX11, "count", "(I)I"⟩
def RJx145de : String := "java/io/Serializable"
def TJx145de : u_T := fun k => match k with
  | _ => ("", "", "", false)
def tyJx145de : Nat → FieldType := fun k => match k with
  | _ => .int
abbrev wsJx145de0 : List Cond := u_ws RJx145de TJx145de 0
theorem nmJx145de : ∀ a, a < 0 → ∀ b, b < 0 → a ≠ b → (TJx145de a).2.1 ≠ (TJx145de b).2.1 := by decide +kernel
theorem tyJx145de_ok : ∀ k, k < 0 → parseFieldDescriptor (TJx145de k).2.2.1 = some (tyJx145de k) := by decide +kernel
def RJx9f9b0 : String := "java/lang/CharSequence"
def TJx9f9b0 : u_T := fun k => match k with
  | _ => ("", "", "", false)
def tyJx9f9b0 : Nat → FieldType := fun k => match k with
  | _ => .int
abbrev wsJx9f9b00 : List Cond := u_ws RJx9f9b0 TJx9f9b0 0
theorem nmJx9f9b0 : ∀ a, a < 0 → ∀ b, b < 0 → a ≠ b → (TJx9f9b0 a).2.1 ≠ (TJx9f9b0 b).2.1 := by decide +kernel
theorem tyJx9f9b0_ok : ∀ k, k < 0 → parseFieldDescriptor (TJx9f9b0 k).2.2.1 = some (tyJx9f9b0 k) := by decide +kernel
def RJx8e188 : String := "java/lang/Cloneable"
def TJx8e188 : u_T := fun k => match k with
  | _ => ("", "", "", false)
def tyJx8e188 : Nat → FieldType := fun k => match k with
  | _ => .int
abbrev wsJx8e1880 : List Cond := u_ws RJx8e188 TJx8e188 0
theorem nmJx8e188 : ∀ a, a < 0 → ∀ b, b < 0 → a ≠ b → (TJx8e188 a).2.1 ≠ (TJx8e188 b).2.1 := by decide +kernel
theorem tyJx8e188_ok : ∀ k, k < 0 → parseFieldDescriptor (TJx8e188 k).2.2.1 = some (tyJx8e188 k) := by decide +kernel
def RJxb160c : String := "java/lang/Comparable"
def TJxb160c : u_T := fun k => match k with
  | _ => ("", "", "", false)
def tyJxb160c : Nat → FieldType := fun k => match k with
  | _ => .int
abbrev wsJxb160c0 : List Cond := u_ws RJxb160c TJxb160c 0
theorem nmJxb160c : ∀ a, a < 0 → ∀ b, b < 0 → a ≠ b → (TJxb160c a).2.1 ≠ (TJxb160c b).2.1 := by decide +kernel
theorem tyJxb160c_ok : ∀ k, k < 0 → parseFieldDescriptor (TJxb160c k).2.2.1 = some (tyJxb160c k) := by decide +kernel
def RJ6 : String := "java/lang/Integer"
def TJ6 : u_T := fun k => match k with
  | _ => ("", "", "", false)
def tyJ6 : Nat → FieldType := fun k => match k with
  | _ => .int
abbrev wsJ60 : List Cond := u_ws RJ6 TJ6 0
theorem nmJ6 : ∀ a, a < 0 → ∀ b, b < 0 → a ≠ b → (TJ6 a).2.1 ≠ (TJ6 b).2.1 := by decide +kernel
theorem tyJ6_ok : ∀ k, k < 0 → parseFieldDescriptor (TJ6 k).2.2.1 = some (tyJ6 k) := by decide +kernel
abbrev cJ6_numberOfTrailingZeros_0f7a4 : ByteArray := prog_18_method_48_code
def yJ6_numberOfTrailingZeros_0f7a4 : MethodName := ⟨RJ6, "numberOfTrailingZeros", "(I)I"⟩
abbrev cJ6_bitCount_0f7a4 : ByteArray := prog_18_method_49_code
def yJ6_bitCount_0f7a4 : MethodName := ⟨RJ6, "bitCount", "(I)I"⟩
def RJxab1ab : String := "java/lang/Iterable"
def TJxab1ab : u_T := fun k => match k with
  | _ => ("", "", "", false)
def tyJxab1ab : Nat → FieldType := fun k => match k with
  | _ => .int
abbrev wsJxab1ab0 : List Cond := u_ws RJxab1ab TJxab1ab 0
theorem nmJxab1ab : ∀ a, a < 0 → ∀ b, b < 0 → a ≠ b → (TJxab1ab a).2.1 ≠ (TJxab1ab b).2.1 := by decide +kernel
theorem tyJxab1ab_ok : ∀ k, k < 0 → parseFieldDescriptor (TJxab1ab k).2.2.1 = some (tyJxab1ab k) := by decide +kernel
def RJ9 : String := "java/lang/Math"
def TJ9 : u_T := fun k => match k with
  | _ => ("", "", "", false)
def tyJ9 : Nat → FieldType := fun k => match k with
  | _ => .int
abbrev wsJ90 : List Cond := u_ws RJ9 TJ9 0
theorem nmJ9 : ∀ a, a < 0 → ∀ b, b < 0 → a ≠ b → (TJ9 a).2.1 ≠ (TJ9 b).2.1 := by decide +kernel
theorem tyJ9_ok : ∀ k, k < 0 → parseFieldDescriptor (TJ9 k).2.2.1 = some (tyJ9 k) := by decide +kernel
abbrev cJ9_abs_0f7a4 : ByteArray := prog_20_method_59_code
def yJ9_abs_0f7a4 : MethodName := ⟨RJ9, "abs", "(I)I"⟩
abbrev cJ9_max_7cf53 : ByteArray := prog_20_method_65_code
def yJ9_max_7cf53 : MethodName := ⟨RJ9, "max", "(II)I"⟩
abbrev cJ9_min_7cf53 : ByteArray := prog_20_method_69_code
def yJ9_min_7cf53 : MethodName := ⟨RJ9, "min", "(II)I"⟩
def RJ0 : String := "java/lang/String"
def TJ0 : u_T := fun k => match k with
  | _ => ("", "", "", false)
def tyJ0 : Nat → FieldType := fun k => match k with
  | _ => .int
abbrev wsJ00 : List Cond := u_ws RJ0 TJ0 0
theorem nmJ0 : ∀ a, a < 0 → ∀ b, b < 0 → a ≠ b → (TJ0 a).2.1 ≠ (TJ0 b).2.1 := by decide +kernel
theorem tyJ0_ok : ∀ k, k < 0 → parseFieldDescriptor (TJ0 k).2.2.1 = some (tyJ0 k) := by decide +kernel
abbrev cJ0_length_8abf5 : ByteArray := prog_21_method_54_code
def yJ0_length_8abf5 : MethodName := ⟨RJ0, "length", "()I"⟩
abbrev cJ0_charAt_5068e : ByteArray := prog_21_method_56_code
def yJ0_charAt_5068e : MethodName := ⟨RJ0, "charAt", "(I)C"⟩
abbrev cJ0_coder_7d493 : ByteArray := prog_21_method_152_code
def yJ0_coder_7d493 : MethodName := ⟨RJ0, "coder", "()B"⟩
abbrev cJ0_isLatin1_aae02 : ByteArray := prog_21_method_154_code
def yJ0_isLatin1_aae02 : MethodName := ⟨RJ0, "isLatin1", "()Z"⟩
abbrev cJ0_checkIndex_df160 : ByteArray := prog_21_method_155_code
def yJ0_checkIndex_df160 : MethodName := ⟨RJ0, "checkIndex", "(II)V"⟩
def RJ1 : String := "java/lang/StringLatin1"
def TJ1 : u_T := fun k => match k with
  | _ => ("", "", "", false)
def tyJ1 : Nat → FieldType := fun k => match k with
  | _ => .int
abbrev wsJ10 : List Cond := u_ws RJ1 TJ1 0
theorem nmJ1 : ∀ a, a < 0 → ∀ b, b < 0 → a ≠ b → (TJ1 a).2.1 ≠ (TJ1 b).2.1 := by decide +kernel
theorem tyJ1_ok : ∀ k, k < 0 → parseFieldDescriptor (TJ1 k).2.2.1 = some (tyJ1 k) := by decide +kernel
abbrev cJ1_charAt_3b067 : ByteArray := prog_22_method_2_code
def yJ1_charAt_3b067 : MethodName := ⟨RJ1, "charAt", "([BI)C"⟩
def RJ2 : String := "java/lang/StringUTF16"
def TJ2 : u_T := fun k => match k with
  | _ => ("", "", "", false)
def tyJ2 : Nat → FieldType := fun k => match k with
  | _ => .int
abbrev wsJ20 : List Cond := u_ws RJ2 TJ2 0
theorem nmJ2 : ∀ a, a < 0 → ∀ b, b < 0 → a ≠ b → (TJ2 a).2.1 ≠ (TJ2 b).2.1 := by decide +kernel
theorem tyJ2_ok : ∀ k, k < 0 → parseFieldDescriptor (TJ2 k).2.2.1 = some (tyJ2 k) := by decide +kernel
abbrev cJ2_getChar_3b067 : ByteArray := prog_23_method_5_code
def yJ2_getChar_3b067 : MethodName := ⟨RJ2, "getChar", "([BI)C"⟩
abbrev cJ2_length_9d52b : ByteArray := prog_23_method_6_code
def yJ2_length_9d52b : MethodName := ⟨RJ2, "length", "([B)I"⟩
abbrev cJ2_charAt_3b067 : ByteArray := prog_23_method_83_code
def yJ2_charAt_3b067 : MethodName := ⟨RJ2, "charAt", "([BI)C"⟩
abbrev cJ2_checkIndex_2214a : ByteArray := prog_23_method_91_code
def yJ2_checkIndex_2214a : MethodName := ⟨RJ2, "checkIndex", "(I[B)V"⟩
def RJ10 : String := "java/lang/System"
def TJ10 : u_T := fun k => match k with
  | _ => ("", "", "", false)
def tyJ10 : Nat → FieldType := fun k => match k with
  | _ => .int
abbrev wsJ100 : List Cond := u_ws RJ10 TJ10 0
theorem nmJ10 : ∀ a, a < 0 → ∀ b, b < 0 → a ≠ b → (TJ10 a).2.1 ≠ (TJ10 b).2.1 := by decide +kernel
theorem tyJ10_ok : ∀ k, k < 0 → parseFieldDescriptor (TJ10 k).2.2.1 = some (tyJ10 k) := by decide +kernel
def RJxfd54e : String := "java/lang/constant/Constable"
def TJxfd54e : u_T := fun k => match k with
  | _ => ("", "", "", false)
def tyJxfd54e : Nat → FieldType := fun k => match k with
  | _ => .int
abbrev wsJxfd54e0 : List Cond := u_ws RJxfd54e TJxfd54e 0
theorem nmJxfd54e : ∀ a, a < 0 → ∀ b, b < 0 → a ≠ b → (TJxfd54e a).2.1 ≠ (TJxfd54e b).2.1 := by decide +kernel
theorem tyJxfd54e_ok : ∀ k, k < 0 → parseFieldDescriptor (TJxfd54e k).2.2.1 = some (tyJxfd54e k) := by decide +kernel
def RJx3cf43 : String := "java/lang/constant/ConstantDesc"
def TJx3cf43 : u_T := fun k => match k with
  | _ => ("", "", "", false)
def tyJx3cf43 : Nat → FieldType := fun k => match k with
  | _ => .int
abbrev wsJx3cf430 : List Cond := u_ws RJx3cf43 TJx3cf43 0
theorem nmJx3cf43 : ∀ a, a < 0 → ∀ b, b < 0 → a ≠ b → (TJx3cf43 a).2.1 ≠ (TJx3cf43 b).2.1 := by decide +kernel
theorem tyJx3cf43_ok : ∀ k, k < 0 → parseFieldDescriptor (TJx3cf43 k).2.2.1 = some (tyJx3cf43 k) := by decide +kernel
def RJxa1e45 : String := "java/util/AbstractCollection"
def TJxa1e45 : u_T := fun k => match k with
  | _ => ("", "", "", false)
def tyJxa1e45 : Nat → FieldType := fun k => match k with
  | _ => .int
abbrev wsJxa1e450 : List Cond := u_ws RJxa1e45 TJxa1e45 0
theorem nmJxa1e45 : ∀ a, a < 0 → ∀ b, b < 0 → a ≠ b → (TJxa1e45 a).2.1 ≠ (TJxa1e45 b).2.1 := by decide +kernel
theorem tyJxa1e45_ok : ∀ k, k < 0 → parseFieldDescriptor (TJxa1e45 k).2.2.1 = some (tyJxa1e45 k) := by decide +kernel
abbrev cJxa1e45_init_da8c8 : ByteArray := prog_27_method_1_code
def yJxa1e45_init_da8c8 : MethodName := ⟨RJxa1e45, "<init>", "()V"⟩
def RJxc12de : String := "java/util/AbstractList"
def TJxc12de : u_T := fun k => match k with
  | _ => ("", "", "", false)
def tyJxc12de : Nat → FieldType := fun k => match k with
  | _ => .int
abbrev wsJxc12de0 : List Cond := u_ws RJxc12de TJxc12de 0
theorem nmJxc12de : ∀ a, a < 0 → ∀ b, b < 0 → a ≠ b → (TJxc12de a).2.1 ≠ (TJxc12de b).2.1 := by decide +kernel
theorem tyJxc12de_ok : ∀ k, k < 0 → parseFieldDescriptor (TJxc12de k).2.2.1 = some (tyJxc12de k) := by decide +kernel
abbrev cJxc12de_init_da8c8 : ByteArray := prog_28_method_1_code
def yJxc12de_init_da8c8 : MethodName := ⟨RJxc12de, "<init>", "()V"⟩
def RJx4a65c : String := "java/util/ArrayList"
def TJx4a65c : u_T := fun k => match k with
  | 0 => ("java/util/AbstractList", "modCount", "I", false)
  | 1 => ("java/util/ArrayList", "elementData", "[Ljava/lang/Object;", false)
  | _ => ("java/util/ArrayList", "size", "I", false)
def tyJx4a65c : Nat → FieldType := fun k => match k with
  | 0 => .int
  | 1 => .array (.object "java/lang/Object")
  | _ => .int
abbrev wsJx4a65c0 : List Cond := u_ws RJx4a65c TJx4a65c 3
theorem nmJx4a65c : ∀ a, a < 3 → ∀ b, b < 3 → a ≠ b → (TJx4a65c a).2.1 ≠ (TJx4a65c b).2.1 := by decide +kernel
theorem tyJx4a65c_ok : ∀ k, k < 3 → parseFieldDescriptor (TJx4a65c k).2.2.1 = some (tyJx4a65c k) := by decide +kernel
abbrev cJx4a65c_init_da8c8 : ByteArray := prog_29_method_2_code
def yJx4a65c_init_da8c8 : MethodName := ⟨RJx4a65c, "<init>", "()V"⟩
abbrev cJx4a65c_grow_92f84 : ByteArray := prog_29_method_6_code
def yJx4a65c_grow_92f84 : MethodName := ⟨RJx4a65c, "grow", "(I)[Ljava/lang/Object;"⟩
abbrev cJx4a65c_grow_d5877 : ByteArray := prog_29_method_7_code
def yJx4a65c_grow_d5877 : MethodName := ⟨RJx4a65c, "grow", "()[Ljava/lang/Object;"⟩
abbrev cJx4a65c_size_8abf5 : ByteArray := prog_29_method_8_code
def yJx4a65c_size_8abf5 : MethodName := ⟨RJx4a65c, "size", "()I"⟩
abbrev cJx4a65c_elementData_915e3 : ByteArray := prog_29_method_18_code
def yJx4a65c_elementData_915e3 : MethodName := ⟨RJx4a65c, "elementData", "(I)Ljava/lang/Object;"⟩
abbrev cJx4a65c_get_915e3 : ByteArray := prog_29_method_20_code
def yJx4a65c_get_915e3 : MethodName := ⟨RJx4a65c, "get", "(I)Ljava/lang/Object;"⟩
abbrev cJx4a65c_add_72be8 : ByteArray := prog_29_method_24_code
def yJx4a65c_add_72be8 : MethodName := ⟨RJx4a65c, "add", "(Ljava/lang/Object;[Ljava/lang/Object;I)V"⟩
abbrev cJx4a65c_add_9ea2d : ByteArray := prog_29_method_25_code
def yJx4a65c_add_9ea2d : MethodName := ⟨RJx4a65c, "add", "(Ljava/lang/Object;)Z"⟩
abbrev cJx4a65c_remove_915e3 : ByteArray := prog_29_method_29_code
def yJx4a65c_remove_915e3 : MethodName := ⟨RJx4a65c, "remove", "(I)Ljava/lang/Object;"⟩
abbrev cJx4a65c_fastRemove_b59b0 : ByteArray := prog_29_method_39_code
def yJx4a65c_fastRemove_b59b0 : MethodName := ⟨RJx4a65c, "fastRemove", "([Ljava/lang/Object;I)V"⟩
def RJ7 : String := "java/util/Arrays"
def TJ7 : u_T := fun k => match k with
  | _ => ("", "", "", false)
def tyJ7 : Nat → FieldType := fun k => match k with
  | _ => .int
abbrev wsJ70 : List Cond := u_ws RJ7 TJ7 0
theorem nmJ7 : ∀ a, a < 0 → ∀ b, b < 0 → a ≠ b → (TJ7 a).2.1 ≠ (TJ7 b).2.1 := by decide +kernel
theorem tyJ7_ok : ∀ k, k < 0 → parseFieldDescriptor (TJ7 k).2.2.1 = some (tyJ7 k) := by decide +kernel
abbrev cJ7_copyOf_1904c : ByteArray := prog_30_method_119_code
def yJ7_copyOf_1904c : MethodName := ⟨RJ7, "copyOf", "([Ljava/lang/Object;I)[Ljava/lang/Object;"⟩
abbrev cJ7_copyOf_6403c : ByteArray := prog_30_method_120_code
def yJ7_copyOf_6403c : MethodName := ⟨RJ7, "copyOf", "([Ljava/lang/Object;ILjava/lang/Class;)[Ljava/lang/Object;"⟩
def RJx5ef63 : String := "java/util/Collection"
def TJx5ef63 : u_T := fun k => match k with
  | _ => ("", "", "", false)
def tyJx5ef63 : Nat → FieldType := fun k => match k with
  | _ => .int
abbrev wsJx5ef630 : List Cond := u_ws RJx5ef63 TJx5ef63 0
theorem nmJx5ef63 : ∀ a, a < 0 → ∀ b, b < 0 → a ≠ b → (TJx5ef63 a).2.1 ≠ (TJx5ef63 b).2.1 := by decide +kernel
theorem tyJx5ef63_ok : ∀ k, k < 0 → parseFieldDescriptor (TJx5ef63 k).2.2.1 = some (tyJx5ef63 k) := by decide +kernel
def RJxbd725 : String := "java/util/List"
def TJxbd725 : u_T := fun k => match k with
  | _ => ("", "", "", false)
def tyJxbd725 : Nat → FieldType := fun k => match k with
  | _ => .int
abbrev wsJxbd7250 : List Cond := u_ws RJxbd725 TJxbd725 0
theorem nmJxbd725 : ∀ a, a < 0 → ∀ b, b < 0 → a ≠ b → (TJxbd725 a).2.1 ≠ (TJxbd725 b).2.1 := by decide +kernel
theorem tyJxbd725_ok : ∀ k, k < 0 → parseFieldDescriptor (TJxbd725 k).2.2.1 = some (tyJxbd725 k) := by decide +kernel
def RJ15 : String := "java/util/Objects"
def TJ15 : u_T := fun k => match k with
  | _ => ("", "", "", false)
def tyJ15 : Nat → FieldType := fun k => match k with
  | _ => .int
abbrev wsJ150 : List Cond := u_ws RJ15 TJ15 0
theorem nmJ15 : ∀ a, a < 0 → ∀ b, b < 0 → a ≠ b → (TJ15 a).2.1 ≠ (TJ15 b).2.1 := by decide +kernel
theorem tyJ15_ok : ∀ k, k < 0 → parseFieldDescriptor (TJ15 k).2.2.1 = some (tyJ15 k) := by decide +kernel
abbrev cJ15_checkIndex_7cf53 : ByteArray := prog_33_method_17_code
def yJ15_checkIndex_7cf53 : MethodName := ⟨RJ15, "checkIndex", "(II)I"⟩
def RJxf0a74 : String := "java/util/RandomAccess"
def TJxf0a74 : u_T := fun k => match k with
  | _ => ("", "", "", false)
def tyJxf0a74 : Nat → FieldType := fun k => match k with
  | _ => .int
abbrev wsJxf0a740 : List Cond := u_ws RJxf0a74 TJxf0a74 0
theorem nmJxf0a74 : ∀ a, a < 0 → ∀ b, b < 0 → a ≠ b → (TJxf0a74 a).2.1 ≠ (TJxf0a74 b).2.1 := by decide +kernel
theorem tyJxf0a74_ok : ∀ k, k < 0 → parseFieldDescriptor (TJxf0a74 k).2.2.1 = some (tyJxf0a74 k) := by decide +kernel
def RJxa66e6 : String := "java/util/SequencedCollection"
def TJxa66e6 : u_T := fun k => match k with
  | _ => ("", "", "", false)
def tyJxa66e6 : Nat → FieldType := fun k => match k with
  | _ => .int
abbrev wsJxa66e60 : List Cond := u_ws RJxa66e6 TJxa66e6 0
theorem nmJxa66e6 : ∀ a, a < 0 → ∀ b, b < 0 → a ≠ b → (TJxa66e6 a).2.1 ≠ (TJxa66e6 b).2.1 := by decide +kernel
theorem tyJxa66e6_ok : ∀ k, k < 0 → parseFieldDescriptor (TJxa66e6 k).2.2.1 = some (tyJxa66e6 k) := by decide +kernel
def RJ8 : String := "jdk/internal/util/ArraysSupport"
def TJ8 : u_T := fun k => match k with
  | _ => ("", "", "", false)
def tyJ8 : Nat → FieldType := fun k => match k with
  | _ => .int
abbrev wsJ80 : List Cond := u_ws RJ8 TJ8 0
theorem nmJ8 : ∀ a, a < 0 → ∀ b, b < 0 → a ≠ b → (TJ8 a).2.1 ≠ (TJ8 b).2.1 := by decide +kernel
theorem tyJ8_ok : ∀ k, k < 0 → parseFieldDescriptor (TJ8 k).2.2.1 = some (tyJ8 k) := by decide +kernel
abbrev cJ8_newLength_cabcc : ByteArray := prog_36_method_27_code
def yJ8_newLength_cabcc : MethodName := ⟨RJ8, "newLength", "(III)I"⟩
abbrev cJ8_hugeLength_7cf53 : ByteArray := prog_36_method_28_code
def yJ8_hugeLength_7cf53 : MethodName := ⟨RJ8, "hugeLength", "(II)I"⟩
def RJ3 : String := "jdk/internal/util/Preconditions"
def TJ3 : u_T := fun k => match k with
  | _ => ("", "", "", false)
def tyJ3 : Nat → FieldType := fun k => match k with
  | _ => .int
abbrev wsJ30 : List Cond := u_ws RJ3 TJ3 0
theorem nmJ3 : ∀ a, a < 0 → ∀ b, b < 0 → a ≠ b → (TJ3 a).2.1 ≠ (TJ3 b).2.1 := by decide +kernel
theorem tyJ3_ok : ∀ k, k < 0 → parseFieldDescriptor (TJ3 k).2.2.1 = some (tyJ3 k) := by decide +kernel
abbrev cJ3_checkIndex_8e157 : ByteArray := prog_37_method_11_code
def yJ3_checkIndex_8e157 : MethodName := ⟨RJ3, "checkIndex", "(IILjava/util/function/BiFunction;)I"⟩
def RL : String := "LaidQuarrelLaw"
abbrev cL_law : ByteArray := code
def yL_law : MethodName := ⟨RL, "law", "([I)Z"⟩
abbrev vwCl : List vw_C := [(RJx4a65c, TJx4a65c, 3), (RX0, TX0, 6), (RX1, TX1, 5), (RX2, TX2, 6), (RX3, TX3, 6), (RX4, TX4, 6), (RX5, TX5, 6), (RX6, TX6, 6), (RX7, TX7, 5), (RX8, TX8, 6), (RX9, TX9, 6), (RX10, TX10, 17), (RX11, TX11, 24)]
