/-! ===== BEGIN printed: names, fields, word lists, decode rows ===== -/
def RX0 : String := "LogRiver$Boom"
def TX0 : u_T := fun k => match k with
  | 0 => ("LogRiver$Boom", "heap", "Ljava/util/List;", true)
  | 1 => ("LogRiver$Boom", "orders", "Ljava/util/List;", true)
  | 2 => ("LogRiver$Boom", "marks", "I", false)
  | _ => ("LogRiver$Boom", "room", "I", false)
def tyX0 : Nat → FieldType := fun k => match k with
  | 0 => .object "java/util/List"
  | 1 => .object "java/util/List"
  | 2 => .int
  | _ => .int
theorem nmX0 : ∀ a, a < 4 → ∀ b, b < 4 → a ≠ b → (TX0 a).2.1 ≠ (TX0 b).2.1 := by decide +kernel
theorem tyX0_ok : ∀ k, k < 4 → parseFieldDescriptor (TX0 k).2.2.1 = some (tyX0 k) := by decide +kernel
abbrev cX0_init : ByteArray := prog_2_method_1_code
def yX0_init : MethodName := ⟨RX0, "<init>", "()V"⟩
abbrev cX0_catches : ByteArray := prog_2_method_2_code
def yX0_catches : MethodName := ⟨RX0, "catches", "(I)Z"⟩
abbrev cX0_takeFirstFor : ByteArray := prog_2_method_3_code
def yX0_takeFirstFor : MethodName := ⟨RX0, "takeFirstFor", "(LLogRiver$Order;)LLogRiver$Log;"⟩
def RX1 : String := "LogRiver$Cell"
def TX1 : u_T := fun k => match k with
  | 0 => ("LogRiver$Cell", "carry", "I", true)
  | 1 => ("LogRiver$Cell", "logs", "Ljava/util/List;", true)
  | 2 => ("LogRiver$Cell", "jammed", "Z", false)
  | _ => ("LogRiver$Cell", "known", "Z", false)
def tyX1 : Nat → FieldType := fun k => match k with
  | 0 => .int
  | 1 => .object "java/util/List"
  | 2 => .boolean
  | _ => .boolean
theorem nmX1 : ∀ a, a < 4 → ∀ b, b < 4 → a ≠ b → (TX1 a).2.1 ≠ (TX1 b).2.1 := by decide +kernel
theorem tyX1_ok : ∀ k, k < 4 → parseFieldDescriptor (TX1 k).2.2.1 = some (tyX1 k) := by decide +kernel
abbrev cX1_init : ByteArray := prog_3_method_1_code
def yX1_init : MethodName := ⟨RX1, "<init>", "(I)V"⟩
abbrev cX1_ageLogs : ByteArray := prog_3_method_2_code
def yX1_ageLogs : MethodName := ⟨RX1, "ageLogs", "()V"⟩
def RX2 : String := "LogRiver$Crew"
def TX2 : u_T := fun k => match k with
  | 0 => ("LogRiver$Crew", "reach", "LLogRiver$Reach;", false)
  | _ => ("LogRiver$Crew", "readyAt", "I", false)
def tyX2 : Nat → FieldType := fun k => match k with
  | 0 => .object "LogRiver$Reach"
  | _ => .int
theorem nmX2 : ∀ a, a < 2 → ∀ b, b < 2 → a ≠ b → (TX2 a).2.1 ≠ (TX2 b).2.1 := by decide +kernel
theorem tyX2_ok : ∀ k, k < 2 → parseFieldDescriptor (TX2 k).2.2.1 = some (tyX2 k) := by decide +kernel
abbrev cX2_init : ByteArray := prog_4_method_1_code
def yX2_init : MethodName := ⟨RX2, "<init>", "(LLogRiver$Reach;I)V"⟩
abbrev cX2_come : ByteArray := prog_4_method_2_code
def yX2_come : MethodName := ⟨RX2, "come", "(LLogRiver$Reach;I)V"⟩
abbrev cX2_rest : ByteArray := prog_4_method_3_code
def yX2_rest : MethodName := ⟨RX2, "rest", "(I)V"⟩
def RX3 : String := "LogRiver$Judge"
def TX3 : u_T := fun k => match k with
  | 0 => ("LogRiver$Judge", "stack", "[I", true)
  | 1 => ("LogRiver$Judge", "names", "[I", true)
  | 2 => ("LogRiver$Judge", "height", "I", false)
  | 3 => ("LogRiver$Judge", "barred", "Z", false)
  | _ => ("LogRiver$Judge", "toll", "J", false)
def tyX3 : Nat → FieldType := fun k => match k with
  | 0 => .array .int
  | 1 => .array .int
  | 2 => .int
  | 3 => .boolean
  | _ => .long
theorem nmX3 : ∀ a, a < 5 → ∀ b, b < 5 → a ≠ b → (TX3 a).2.1 ≠ (TX3 b).2.1 := by decide +kernel
theorem tyX3_ok : ∀ k, k < 5 → parseFieldDescriptor (TX3 k).2.2.1 = some (tyX3 k) := by decide +kernel
abbrev cX3_init : ByteArray := prog_5_method_1_code
def yX3_init : MethodName := ⟨RX3, "<init>", "()V"⟩
abbrev cX3_weigh : ByteArray := prog_5_method_2_code
def yX3_weigh : MethodName := ⟨RX3, "weigh", "(LLogRiver$Law;LLogRiver$Log;II)V"⟩
abbrev cX3_name : ByteArray := prog_5_method_3_code
def yX3_name : MethodName := ⟨RX3, "name", "(II)V"⟩
abbrev cX3_step : ByteArray := prog_5_method_4_code
def yX3_step : MethodName := ⟨RX3, "step", "(I)V"⟩
abbrev cX3_push : ByteArray := prog_5_method_5_code
def yX3_push : MethodName := ⟨RX3, "push", "(I)V"⟩
abbrev cX3_pop : ByteArray := prog_5_method_6_code
def yX3_pop : MethodName := ⟨RX3, "pop", "()I"⟩
abbrev cX3_join : ByteArray := prog_5_method_7_code
def yX3_join : MethodName := ⟨RX3, "join", "(III)I"⟩
def RX4 : String := "LogRiver$Law"
def TX4 : u_T := fun k => match k with
  | 0 => ("LogRiver$Law", "day", "I", true)
  | _ => ("LogRiver$Law", "code", "[I", true)
def tyX4 : Nat → FieldType := fun k => match k with
  | 0 => .int
  | _ => .array .int
theorem nmX4 : ∀ a, a < 2 → ∀ b, b < 2 → a ≠ b → (TX4 a).2.1 ≠ (TX4 b).2.1 := by decide +kernel
theorem tyX4_ok : ∀ k, k < 2 → parseFieldDescriptor (TX4 k).2.2.1 = some (tyX4 k) := by decide +kernel
abbrev cX4_init : ByteArray := prog_6_method_1_code
def yX4_init : MethodName := ⟨RX4, "<init>", "(I[I)V"⟩
def RX5 : String := "LogRiver$LawReader"
def TX5 : u_T := fun k => match k with
  | 0 => ("LogRiver$LawReader", "tokens", "LLogRiver$Tokens;", true)
  | 1 => ("LogRiver$LawReader", "code", "[I", true)
  | 2 => ("LogRiver$LawReader", "codeLength", "I", false)
  | 3 => ("LogRiver$LawReader", "fault", "I", false)
  | _ => ("LogRiver$LawReader", "faultPlace", "I", false)
def tyX5 : Nat → FieldType := fun k => match k with
  | 0 => .object "LogRiver$Tokens"
  | 1 => .array .int
  | 2 => .int
  | 3 => .int
  | _ => .int
theorem nmX5 : ∀ a, a < 5 → ∀ b, b < 5 → a ≠ b → (TX5 a).2.1 ≠ (TX5 b).2.1 := by decide +kernel
theorem tyX5_ok : ∀ k, k < 5 → parseFieldDescriptor (TX5 k).2.2.1 = some (tyX5 k) := by decide +kernel
abbrev cX5_init : ByteArray := prog_7_method_1_code
def yX5_init : MethodName := ⟨RX5, "<init>", "(LLogRiver$Tape;)V"⟩
abbrev cX5_readText : ByteArray := prog_7_method_2_code
def yX5_readText : MethodName := ⟨RX5, "readText", "(I)V"⟩
abbrev cX5_readRule : ByteArray := prog_7_method_3_code
def yX5_readRule : MethodName := ⟨RX5, "readRule", "(I)V"⟩
abbrev cX5_readExpr : ByteArray := prog_7_method_4_code
def yX5_readExpr : MethodName := ⟨RX5, "readExpr", "(I)V"⟩
abbrev cX5_readTest : ByteArray := prog_7_method_5_code
def yX5_readTest : MethodName := ⟨RX5, "readTest", "(I)V"⟩
abbrev cX5_readSum : ByteArray := prog_7_method_6_code
def yX5_readSum : MethodName := ⟨RX5, "readSum", "(I)V"⟩
abbrev cX5_readTerm : ByteArray := prog_7_method_7_code
def yX5_readTerm : MethodName := ⟨RX5, "readTerm", "(I)V"⟩
abbrev cX5_readPart : ByteArray := prog_7_method_8_code
def yX5_readPart : MethodName := ⟨RX5, "readPart", "(I)V"⟩
abbrev cX5_faultOfPart : ByteArray := prog_7_method_9_code
def yX5_faultOfPart : MethodName := ⟨RX5, "faultOfPart", "()I"⟩
abbrev cX5_codeOfName : ByteArray := prog_7_method_10_code
def yX5_codeOfName : MethodName := ⟨RX5, "codeOfName", "()I"⟩
abbrev cX5_pass : ByteArray := prog_7_method_11_code
def yX5_pass : MethodName := ⟨RX5, "pass", "(I)V"⟩
abbrev cX5_put : ByteArray := prog_7_method_12_code
def yX5_put : MethodName := ⟨RX5, "put", "(I)V"⟩
abbrev cX5_fail : ByteArray := prog_7_method_13_code
def yX5_fail : MethodName := ⟨RX5, "fail", "(I)V"⟩
def RX6 : String := "LogRiver$Log"
def TX6 : u_T := fun k => match k with
  | 0 => ("LogRiver$Log", "number", "I", true)
  | 1 => ("LogRiver$Log", "mark", "I", true)
  | 2 => ("LogRiver$Log", "size", "I", true)
  | 3 => ("LogRiver$Log", "stump", "I", true)
  | 4 => ("LogRiver$Log", "place", "I", false)
  | 5 => ("LogRiver$Log", "reach", "I", false)
  | 6 => ("LogRiver$Log", "cell", "I", false)
  | 7 => ("LogRiver$Log", "age", "I", false)
  | _ => ("LogRiver$Log", "firstBoard", "I", false)
def tyX6 : Nat → FieldType := fun k => match k with
  | 0 => .int
  | 1 => .int
  | 2 => .int
  | 3 => .int
  | 4 => .int
  | 5 => .int
  | 6 => .int
  | 7 => .int
  | _ => .int
theorem nmX6 : ∀ a, a < 9 → ∀ b, b < 9 → a ≠ b → (TX6 a).2.1 ≠ (TX6 b).2.1 := by decide +kernel
theorem tyX6_ok : ∀ k, k < 9 → parseFieldDescriptor (TX6 k).2.2.1 = some (tyX6 k) := by decide +kernel
abbrev cX6_init : ByteArray := prog_8_method_1_code
def yX6_init : MethodName := ⟨RX6, "<init>", "(IIII)V"⟩
abbrev cX6_floatIn : ByteArray := prog_8_method_2_code
def yX6_floatIn : MethodName := ⟨RX6, "floatIn", "(II)V"⟩
abbrev cX6_lieInHeap : ByteArray := prog_8_method_3_code
def yX6_lieInHeap : MethodName := ⟨RX6, "lieInHeap", "()V"⟩
abbrev cX6_goToSea : ByteArray := prog_8_method_4_code
def yX6_goToSea : MethodName := ⟨RX6, "goToSea", "()V"⟩
abbrev cX6_becomeBoards : ByteArray := prog_8_method_5_code
def yX6_becomeBoards : MethodName := ⟨RX6, "becomeBoards", "(I)V"⟩
def RX7 : String := "LogRiver$Order"
def TX7 : u_T := fun k => match k with
  | 0 => ("LogRiver$Order", "mark", "I", true)
  | 1 => ("LogRiver$Order", "size", "I", true)
  | _ => ("LogRiver$Order", "wanted", "I", false)
def tyX7 : Nat → FieldType := fun k => match k with
  | 0 => .int
  | 1 => .int
  | _ => .int
theorem nmX7 : ∀ a, a < 3 → ∀ b, b < 3 → a ≠ b → (TX7 a).2.1 ≠ (TX7 b).2.1 := by decide +kernel
theorem tyX7_ok : ∀ k, k < 3 → parseFieldDescriptor (TX7 k).2.2.1 = some (tyX7 k) := by decide +kernel
abbrev cX7_init : ByteArray := prog_9_method_1_code
def yX7_init : MethodName := ⟨RX7, "<init>", "(III)V"⟩
def RX8 : String := "LogRiver$Reach"
def TX8 : u_T := fun k => match k with
  | 0 => ("LogRiver$Reach", "number", "I", true)
  | 1 => ("LogRiver$Reach", "below", "LLogRiver$Reach;", true)
  | 2 => ("LogRiver$Reach", "jam", "I", true)
  | 3 => ("LogRiver$Reach", "cells", "Ljava/util/List;", true)
  | 4 => ("LogRiver$Reach", "melt", "I", false)
  | 5 => ("LogRiver$Reach", "dammed", "Z", false)
  | 6 => ("LogRiver$Reach", "room", "I", false)
  | 7 => ("LogRiver$Reach", "store", "I", false)
  | 8 => ("LogRiver$Reach", "gate", "I", false)
  | 9 => ("LogRiver$Reach", "flow", "I", false)
  | 10 => ("LogRiver$Reach", "out", "I", false)
  | 11 => ("LogRiver$Reach", "watched", "Z", false)
  | _ => ("LogRiver$Reach", "boom", "LLogRiver$Boom;", false)
def tyX8 : Nat → FieldType := fun k => match k with
  | 0 => .int
  | 1 => .object "LogRiver$Reach"
  | 2 => .int
  | 3 => .object "java/util/List"
  | 4 => .int
  | 5 => .boolean
  | 6 => .int
  | 7 => .int
  | 8 => .int
  | 9 => .int
  | 10 => .int
  | 11 => .boolean
  | _ => .object "LogRiver$Boom"
theorem nmX8 : ∀ a, a < 13 → ∀ b, b < 13 → a ≠ b → (TX8 a).2.1 ≠ (TX8 b).2.1 := by decide +kernel
theorem tyX8_ok : ∀ k, k < 13 → parseFieldDescriptor (TX8 k).2.2.1 = some (tyX8 k) := by decide +kernel
abbrev cX8_init : ByteArray := prog_10_method_1_code
def yX8_init : MethodName := ⟨RX8, "<init>", "(ILLogRiver$Reach;I)V"⟩
abbrev cX8_passWater : ByteArray := prog_10_method_2_code
def yX8_passWater : MethodName := ⟨RX8, "passWater", "()V"⟩
abbrev cX8_canTake : ByteArray := prog_10_method_3_code
def yX8_canTake : MethodName := ⟨RX8, "canTake", "(I)Z"⟩
abbrev cX8_takes : ByteArray := prog_10_method_4_code
def yX8_takes : MethodName := ⟨RX8, "takes", "(LLogRiver$Log;I)Z"⟩
abbrev cX8_jamFullCells : ByteArray := prog_10_method_5_code
def yX8_jamFullCells : MethodName := ⟨RX8, "jamFullCells", "()V"⟩
abbrev cX8_freesLowestJam : ByteArray := prog_10_method_6_code
def yX8_freesLowestJam : MethodName := ⟨RX8, "freesLowestJam", "()Z"⟩
abbrev cX8_makeJamsKnown : ByteArray := prog_10_method_7_code
def yX8_makeJamsKnown : MethodName := ⟨RX8, "makeJamsKnown", "()V"⟩
def RX9 : String := "LogRiver$Tape"
def TX9 : u_T := fun k => match k with
  | 0 => ("LogRiver$Tape", "bytes", "[I", true)
  | _ => ("LogRiver$Tape", "length", "I", false)
def tyX9 : Nat → FieldType := fun k => match k with
  | 0 => .array .int
  | _ => .int
theorem nmX9 : ∀ a, a < 2 → ∀ b, b < 2 → a ≠ b → (TX9 a).2.1 ≠ (TX9 b).2.1 := by decide +kernel
theorem tyX9_ok : ∀ k, k < 2 → parseFieldDescriptor (TX9 k).2.2.1 = some (tyX9 k) := by decide +kernel
abbrev cX9_init : ByteArray := prog_11_method_1_code
def yX9_init : MethodName := ⟨RX9, "<init>", "()V"⟩
abbrev cX9_append : ByteArray := prog_11_method_2_code
def yX9_append : MethodName := ⟨RX9, "append", "(I)V"⟩
def RX10 : String := "LogRiver$Tokens"
def TX10 : u_T := fun k => match k with
  | 0 => ("LogRiver$Tokens", "tape", "LLogRiver$Tape;", true)
  | 1 => ("LogRiver$Tokens", "length", "I", false)
  | 2 => ("LogRiver$Tokens", "end", "I", false)
  | 3 => ("LogRiver$Tokens", "start", "I", false)
  | _ => ("LogRiver$Tokens", "kind", "I", false)
def tyX10 : Nat → FieldType := fun k => match k with
  | 0 => .object "LogRiver$Tape"
  | 1 => .int
  | 2 => .int
  | 3 => .int
  | _ => .int
theorem nmX10 : ∀ a, a < 5 → ∀ b, b < 5 → a ≠ b → (TX10 a).2.1 ≠ (TX10 b).2.1 := by decide +kernel
theorem tyX10_ok : ∀ k, k < 5 → parseFieldDescriptor (TX10 k).2.2.1 = some (tyX10 k) := by decide +kernel
abbrev cX10_init : ByteArray := prog_12_method_1_code
def yX10_init : MethodName := ⟨RX10, "<init>", "(LLogRiver$Tape;)V"⟩
abbrev cX10_openText : ByteArray := prog_12_method_2_code
def yX10_openText : MethodName := ⟨RX10, "openText", "(I)V"⟩
abbrev cX10_advance : ByteArray := prog_12_method_3_code
def yX10_advance : MethodName := ⟨RX10, "advance", "()V"⟩
abbrev cX10_isWord : ByteArray := prog_12_method_4_code
def yX10_isWord : MethodName := ⟨RX10, "isWord", "(Ljava/lang/String;)Z"⟩
abbrev cX10_numberValue : ByteArray := prog_12_method_5_code
def yX10_numberValue : MethodName := ⟨RX10, "numberValue", "()I"⟩
abbrev cX10_endOfRow : ByteArray := prog_12_method_6_code
def yX10_endOfRow : MethodName := ⟨RX10, "endOfRow", "(II)I"⟩
abbrev cX10_byteAt : ByteArray := prog_12_method_7_code
def yX10_byteAt : MethodName := ⟨RX10, "byteAt", "(I)I"⟩
abbrev cX10_kindOf : ByteArray := prog_12_method_8_code
def yX10_kindOf : MethodName := ⟨RX10, "kindOf", "(I)I"⟩
def RX11 : String := "LogRiver"
def TX11 : u_T := fun k => match k with
  | 0 => ("LogRiver", "reaches", "Ljava/util/List;", true)
  | 1 => ("LogRiver", "logs", "Ljava/util/List;", true)
  | 2 => ("LogRiver", "laws", "Ljava/util/List;", true)
  | 3 => ("LogRiver", "crews", "Ljava/util/List;", true)
  | 4 => ("LogRiver", "orders", "Ljava/util/List;", true)
  | 5 => ("LogRiver", "tape", "LLogRiver$Tape;", true)
  | 6 => ("LogRiver", "reader", "LLogRiver$LawReader;", true)
  | 7 => ("LogRiver", "judge", "LLogRiver$Judge;", true)
  | 8 => ("LogRiver", "accounts", "[J", true)
  | 9 => ("LogRiver", "hour", "I", false)
  | 10 => ("LogRiver", "boards", "I", false)
  | 11 => ("LogRiver", "faultPlace", "I", false)
  | 12 => ("LogRiver", "melted", "J", false)
  | _ => ("LogRiver", "wentToSea", "J", false)
def tyX11 : Nat → FieldType := fun k => match k with
  | 0 => .object "java/util/List"
  | 1 => .object "java/util/List"
  | 2 => .object "java/util/List"
  | 3 => .object "java/util/List"
  | 4 => .object "java/util/List"
  | 5 => .object "LogRiver$Tape"
  | 6 => .object "LogRiver$LawReader"
  | 7 => .object "LogRiver$Judge"
  | 8 => .array .long
  | 9 => .int
  | 10 => .int
  | 11 => .int
  | 12 => .long
  | _ => .long
theorem nmX11 : ∀ a, a < 14 → ∀ b, b < 14 → a ≠ b → (TX11 a).2.1 ≠ (TX11 b).2.1 := by decide +kernel
theorem tyX11_ok : ∀ k, k < 14 → parseFieldDescriptor (TX11 k).2.2.1 = some (tyX11 k) := by decide +kernel
abbrev cX11_init : ByteArray := prog_1_method_1_code
def yX11_init : MethodName := ⟨RX11, "<init>", "()V"⟩
abbrev cX11_reach : ByteArray := prog_1_method_2_code
def yX11_reach : MethodName := ⟨RX11, "reach", "(IIII)I"⟩
abbrev cX11_dam : ByteArray := prog_1_method_3_code
def yX11_dam : MethodName := ⟨RX11, "dam", "(II)Z"⟩
abbrev cX11_gate : ByteArray := prog_1_method_4_code
def yX11_gate : MethodName := ⟨RX11, "gate", "(II)I"⟩
abbrev cX11_melt : ByteArray := prog_1_method_5_code
def yX11_melt : MethodName := ⟨RX11, "melt", "(II)I"⟩
abbrev cX11_boom : ByteArray := prog_1_method_6_code
def yX11_boom : MethodName := ⟨RX11, "boom", "(III)Z"⟩
abbrev cX11_watch : ByteArray := prog_1_method_7_code
def yX11_watch : MethodName := ⟨RX11, "watch", "(IZ)Z"⟩
abbrev cX11_crew : ByteArray := prog_1_method_8_code
def yX11_crew : MethodName := ⟨RX11, "crew", "(II)I"⟩
abbrev cX11_newCrew : ByteArray := prog_1_method_9_code
def yX11_newCrew : MethodName := ⟨RX11, "newCrew", "(LLogRiver$Reach;)I"⟩
abbrev cX11_feed : ByteArray := prog_1_method_10_code
def yX11_feed : MethodName := ⟨RX11, "feed", "(IIIII)I"⟩
abbrev cX11_law : ByteArray := prog_1_method_11_code
def yX11_law : MethodName := ⟨RX11, "law", "(II)I"⟩
abbrev cX11_fault : ByteArray := prog_1_method_12_code
def yX11_fault : MethodName := ⟨RX11, "fault", "()I"⟩
abbrev cX11_lawInForce : ByteArray := prog_1_method_13_code
def yX11_lawInForce : MethodName := ⟨RX11, "lawInForce", "()LLogRiver$Law;"⟩
abbrev cX11_cut : ByteArray := prog_1_method_14_code
def yX11_cut : MethodName := ⟨RX11, "cut", "(III)I"⟩
abbrev cX11_let : ByteArray := prog_1_method_15_code
def yX11_let : MethodName := ⟨RX11, "let", "(III)I"⟩
abbrev cX11_order : ByteArray := prog_1_method_16_code
def yX11_order : MethodName := ⟨RX11, "order", "(IIII)I"⟩
abbrev cX11_hours : ByteArray := prog_1_method_17_code
def yX11_hours : MethodName := ⟨RX11, "hours", "(I)I"⟩
abbrev cX11_runWater : ByteArray := prog_1_method_18_code
def yX11_runWater : MethodName := ⟨RX11, "runWater", "()V"⟩
abbrev cX11_moveLogs : ByteArray := prog_1_method_19_code
def yX11_moveLogs : MethodName := ⟨RX11, "moveLogs", "()V"⟩
abbrev cX11_moveLogsOfCell : ByteArray := prog_1_method_20_code
def yX11_moveLogsOfCell : MethodName := ⟨RX11, "moveLogsOfCell", "(LLogRiver$Reach;II)V"⟩
abbrev cX11_movesOn : ByteArray := prog_1_method_21_code
def yX11_movesOn : MethodName := ⟨RX11, "movesOn", "(LLogRiver$Log;LLogRiver$Reach;II)Z"⟩
abbrev cX11_leaves : ByteArray := prog_1_method_22_code
def yX11_leaves : MethodName := ⟨RX11, "leaves", "(LLogRiver$Log;LLogRiver$Reach;)Z"⟩
abbrev cX11_jamCells : ByteArray := prog_1_method_23_code
def yX11_jamCells : MethodName := ⟨RX11, "jamCells", "()V"⟩
abbrev cX11_freeJams : ByteArray := prog_1_method_24_code
def yX11_freeJams : MethodName := ⟨RX11, "freeJams", "()V"⟩
abbrev cX11_makeJamsKnown : ByteArray := prog_1_method_25_code
def yX11_makeJamsKnown : MethodName := ⟨RX11, "makeJamsKnown", "()V"⟩
abbrev cX11_ageLogs : ByteArray := prog_1_method_26_code
def yX11_ageLogs : MethodName := ⟨RX11, "ageLogs", "()V"⟩
abbrev cX11_runMills : ByteArray := prog_1_method_27_code
def yX11_runMills : MethodName := ⟨RX11, "runMills", "()V"⟩
abbrev cX11_sawFor : ByteArray := prog_1_method_28_code
def yX11_sawFor : MethodName := ⟨RX11, "sawFor", "(LLogRiver$Order;LLogRiver$Boom;I)I"⟩
abbrev cX11_wants : ByteArray := prog_1_method_29_code
def yX11_wants : MethodName := ⟨RX11, "wants", "(I)I"⟩
abbrev cX11_log : ByteArray := prog_1_method_30_code
def yX11_log : MethodName := ⟨RX11, "log", "(II)I"⟩
abbrev cX11_cell : ByteArray := prog_1_method_31_code
def yX11_cell : MethodName := ⟨RX11, "cell", "(III)I"⟩
abbrev cX11_inCell : ByteArray := prog_1_method_32_code
def yX11_inCell : MethodName := ⟨RX11, "inCell", "(III)I"⟩
abbrev cX11_heap : ByteArray := prog_1_method_33_code
def yX11_heap : MethodName := ⟨RX11, "heap", "(II)I"⟩
abbrev cX11_water : ByteArray := prog_1_method_34_code
def yX11_water : MethodName := ⟨RX11, "water", "(II)I"⟩
abbrev cX11_waters : ByteArray := prog_1_method_35_code
def yX11_waters : MethodName := ⟨RX11, "waters", "(I)J"⟩
abbrev cX11_board : ByteArray := prog_1_method_36_code
def yX11_board : MethodName := ⟨RX11, "board", "(I)I"⟩
abbrev cX11_paid : ByteArray := prog_1_method_37_code
def yX11_paid : MethodName := ⟨RX11, "paid", "(I)J"⟩
abbrev cX11_count : ByteArray := prog_1_method_38_code
def yX11_count : MethodName := ⟨RX11, "count", "(I)I"⟩
abbrev cX11_countJams : ByteArray := prog_1_method_39_code
def yX11_countJams : MethodName := ⟨RX11, "countJams", "(Z)I"⟩
abbrev cX11_isWithin : ByteArray := prog_1_method_40_code
def yX11_isWithin : MethodName := ⟨RX11, "isWithin", "(III)Z"⟩
abbrev cX11_reachAt : ByteArray := prog_1_method_41_code
def yX11_reachAt : MethodName := ⟨RX11, "reachAt", "(I)LLogRiver$Reach;"⟩
abbrev cX11_logAt : ByteArray := prog_1_method_42_code
def yX11_logAt : MethodName := ⟨RX11, "logAt", "(I)LLogRiver$Log;"⟩
abbrev cX11_checkCell : ByteArray := prog_1_method_43_code
def yX11_checkCell : MethodName := ⟨RX11, "checkCell", "(LLogRiver$Reach;I)V"⟩
abbrev cX11_numberAt : ByteArray := prog_1_method_44_code
def yX11_numberAt : MethodName := ⟨RX11, "numberAt", "(Ljava/util/List;I)I"⟩
def RX12 : String := "LogRiverModel"
def TX12 : u_T := fun k => match k with
  | 0 => ("LogRiverModel", "names", "[Ljava/lang/String;", true)
  | 1 => ("LogRiverModel", "code", "I", false)
  | 2 => ("LogRiverModel", "now", "I", false)
  | 3 => ("LogRiverModel", "reaches", "I", false)
  | 4 => ("LogRiverModel", "logs", "I", false)
  | 5 => ("LogRiverModel", "laws", "I", false)
  | 6 => ("LogRiverModel", "boards", "I", false)
  | 7 => ("LogRiverModel", "crews", "I", false)
  | 8 => ("LogRiverModel", "orders", "I", false)
  | 9 => ("LogRiverModel", "taped", "I", false)
  | 10 => ("LogRiverModel", "faultPlace", "I", false)
  | 11 => ("LogRiverModel", "melted", "J", false)
  | 12 => ("LogRiverModel", "toSea", "J", false)
  | 13 => ("LogRiverModel", "next", "[I", true)
  | 14 => ("LogRiverModel", "length", "[I", true)
  | 15 => ("LogRiverModel", "carry", "[I", true)
  | 16 => ("LogRiverModel", "jam", "[I", true)
  | 17 => ("LogRiverModel", "melt", "[I", true)
  | 18 => ("LogRiverModel", "flow", "[I", true)
  | 19 => ("LogRiverModel", "out", "[I", true)
  | 20 => ("LogRiverModel", "in", "[I", true)
  | 21 => ("LogRiverModel", "hasDam", "[Z", true)
  | 22 => ("LogRiverModel", "hasBoom", "[Z", true)
  | 23 => ("LogRiverModel", "isWatched", "[Z", true)
  | 24 => ("LogRiverModel", "damRoom", "[I", true)
  | 25 => ("LogRiverModel", "store", "[I", true)
  | 26 => ("LogRiverModel", "gate", "[I", true)
  | 27 => ("LogRiverModel", "boomMarks", "[I", true)
  | 28 => ("LogRiverModel", "boomRoom", "[I", true)
  | 29 => ("LogRiverModel", "heaped", "[I", true)
  | 30 => ("LogRiverModel", "heap", "[I", true)
  | 31 => ("LogRiverModel", "holds", "[I", true)
  | 32 => ("LogRiverModel", "lie", "[I", true)
  | 33 => ("LogRiverModel", "isJammed", "[Z", true)
  | 34 => ("LogRiverModel", "isKnown", "[Z", true)
  | 35 => ("LogRiverModel", "mark", "[I", true)
  | 36 => ("LogRiverModel", "size", "[I", true)
  | 37 => ("LogRiverModel", "stump", "[I", true)
  | 38 => ("LogRiverModel", "place", "[I", true)
  | 39 => ("LogRiverModel", "reachOf", "[I", true)
  | 40 => ("LogRiverModel", "cellOf", "[I", true)
  | 41 => ("LogRiverModel", "age", "[I", true)
  | 42 => ("LogRiverModel", "firstBoard", "[I", true)
  | 43 => ("LogRiverModel", "boardLog", "[I", true)
  | 44 => ("LogRiverModel", "crewReach", "[I", true)
  | 45 => ("LogRiverModel", "crewCame", "[I", true)
  | 46 => ("LogRiverModel", "crewFreed", "[I", true)
  | 47 => ("LogRiverModel", "orderReach", "[I", true)
  | 48 => ("LogRiverModel", "orderMark", "[I", true)
  | 49 => ("LogRiverModel", "orderSize", "[I", true)
  | 50 => ("LogRiverModel", "wants", "[I", true)
  | 51 => ("LogRiverModel", "paid", "[J", true)
  | 52 => ("LogRiverModel", "tape", "[I", true)
  | 53 => ("LogRiverModel", "lawDay", "[I", true)
  | 54 => ("LogRiverModel", "ruleMany", "[I", true)
  | 55 => ("LogRiverModel", "ruleFrom", "[I", true)
  | 56 => ("LogRiverModel", "codeRow", "[I", true)
  | 57 => ("LogRiverModel", "stack", "[I", true)
  | 58 => ("LogRiverModel", "isToll", "[Z", true)
  | 59 => ("LogRiverModel", "codes", "I", false)
  | 60 => ("LogRiverModel", "at", "I", false)
  | 61 => ("LogRiverModel", "read", "I", false)
  | 62 => ("LogRiverModel", "token", "I", false)
  | 63 => ("LogRiverModel", "sign", "I", false)
  | 64 => ("LogRiverModel", "begins", "I", false)
  | 65 => ("LogRiverModel", "ends", "I", false)
  | 66 => ("LogRiverModel", "bad", "I", false)
  | 67 => ("LogRiverModel", "badPlace", "I", false)
  | 68 => ("LogRiverModel", "top", "I", false)
  | _ => ("LogRiverModel", "row", "[I", true)
def tyX12 : Nat → FieldType := fun k => match k with
  | 0 => .array (.object "java/lang/String")
  | 1 => .int
  | 2 => .int
  | 3 => .int
  | 4 => .int
  | 5 => .int
  | 6 => .int
  | 7 => .int
  | 8 => .int
  | 9 => .int
  | 10 => .int
  | 11 => .long
  | 12 => .long
  | 13 => .array .int
  | 14 => .array .int
  | 15 => .array .int
  | 16 => .array .int
  | 17 => .array .int
  | 18 => .array .int
  | 19 => .array .int
  | 20 => .array .int
  | 21 => .array .boolean
  | 22 => .array .boolean
  | 23 => .array .boolean
  | 24 => .array .int
  | 25 => .array .int
  | 26 => .array .int
  | 27 => .array .int
  | 28 => .array .int
  | 29 => .array .int
  | 30 => .array .int
  | 31 => .array .int
  | 32 => .array .int
  | 33 => .array .boolean
  | 34 => .array .boolean
  | 35 => .array .int
  | 36 => .array .int
  | 37 => .array .int
  | 38 => .array .int
  | 39 => .array .int
  | 40 => .array .int
  | 41 => .array .int
  | 42 => .array .int
  | 43 => .array .int
  | 44 => .array .int
  | 45 => .array .int
  | 46 => .array .int
  | 47 => .array .int
  | 48 => .array .int
  | 49 => .array .int
  | 50 => .array .int
  | 51 => .array .long
  | 52 => .array .int
  | 53 => .array .int
  | 54 => .array .int
  | 55 => .array .int
  | 56 => .array .int
  | 57 => .array .int
  | 58 => .array .boolean
  | 59 => .int
  | 60 => .int
  | 61 => .int
  | 62 => .int
  | 63 => .int
  | 64 => .int
  | 65 => .int
  | 66 => .int
  | 67 => .int
  | 68 => .int
  | _ => .array .int
theorem nmX12 : ∀ a, a < 70 → ∀ b, b < 70 → a ≠ b → (TX12 a).2.1 ≠ (TX12 b).2.1 := by decide +kernel
theorem tyX12_ok : ∀ k, k < 70 → parseFieldDescriptor (TX12 k).2.2.1 = some (tyX12 k) := by decide +kernel
abbrev cX12_init : ByteArray := prog_14_method_1_code
def yX12_init : MethodName := ⟨RX12, "<init>", "()V"⟩
abbrev cX12_fail : ByteArray := prog_14_method_3_code
def yX12_fail : MethodName := ⟨RX12, "fail", "()I"⟩
abbrev cX12_isReach : ByteArray := prog_14_method_4_code
def yX12_isReach : MethodName := ⟨RX12, "isReach", "(I)Z"⟩
abbrev cX12_at0 : ByteArray := prog_14_method_5_code
def yX12_at0 : MethodName := ⟨RX12, "at0", "(II)I"⟩
abbrev cX12_reach : ByteArray := prog_14_method_6_code
def yX12_reach : MethodName := ⟨RX12, "reach", "(IIII)I"⟩
abbrev cX12_dam : ByteArray := prog_14_method_7_code
def yX12_dam : MethodName := ⟨RX12, "dam", "(II)Z"⟩
abbrev cX12_gate : ByteArray := prog_14_method_8_code
def yX12_gate : MethodName := ⟨RX12, "gate", "(II)I"⟩
abbrev cX12_melt : ByteArray := prog_14_method_9_code
def yX12_melt : MethodName := ⟨RX12, "melt", "(II)I"⟩
abbrev cX12_boom : ByteArray := prog_14_method_10_code
def yX12_boom : MethodName := ⟨RX12, "boom", "(III)Z"⟩
abbrev cX12_watch : ByteArray := prog_14_method_11_code
def yX12_watch : MethodName := ⟨RX12, "watch", "(IZ)Z"⟩
abbrev cX12_crew : ByteArray := prog_14_method_12_code
def yX12_crew : MethodName := ⟨RX12, "crew", "(II)I"⟩
abbrev cX12_feed : ByteArray := prog_14_method_13_code
def yX12_feed : MethodName := ⟨RX12, "feed", "(IIIII)I"⟩
abbrev cX12_byteAt : ByteArray := prog_14_method_14_code
def yX12_byteAt : MethodName := ⟨RX12, "byteAt", "(I)I"⟩
abbrev cX12_isLetter : ByteArray := prog_14_method_15_code
def yX12_isLetter : MethodName := ⟨RX12, "isLetter", "(I)Z"⟩
abbrev cX12_isDigit : ByteArray := prog_14_method_16_code
def yX12_isDigit : MethodName := ⟨RX12, "isDigit", "(I)Z"⟩
abbrev cX12_step : ByteArray := prog_14_method_17_code
def yX12_step : MethodName := ⟨RX12, "step", "()V"⟩
abbrev cX12_isWord : ByteArray := prog_14_method_18_code
def yX12_isWord : MethodName := ⟨RX12, "isWord", "(Ljava/lang/String;)Z"⟩
abbrev cX12_isSign : ByteArray := prog_14_method_19_code
def yX12_isSign : MethodName := ⟨RX12, "isSign", "(I)Z"⟩
abbrev cX12_wrong : ByteArray := prog_14_method_20_code
def yX12_wrong : MethodName := ⟨RX12, "wrong", "(I)V"⟩
abbrev cX12_emit : ByteArray := prog_14_method_21_code
def yX12_emit : MethodName := ⟨RX12, "emit", "(I)V"⟩
abbrev cX12_readLaw : ByteArray := prog_14_method_22_code
def yX12_readLaw : MethodName := ⟨RX12, "readLaw", "()V"⟩
abbrev cX12_readExpression : ByteArray := prog_14_method_23_code
def yX12_readExpression : MethodName := ⟨RX12, "readExpression", "(I)V"⟩
abbrev cX12_readTest : ByteArray := prog_14_method_24_code
def yX12_readTest : MethodName := ⟨RX12, "readTest", "(I)V"⟩
abbrev cX12_readSum : ByteArray := prog_14_method_25_code
def yX12_readSum : MethodName := ⟨RX12, "readSum", "(I)V"⟩
abbrev cX12_readTerm : ByteArray := prog_14_method_26_code
def yX12_readTerm : MethodName := ⟨RX12, "readTerm", "(I)V"⟩
abbrev cX12_readPart : ByteArray := prog_14_method_27_code
def yX12_readPart : MethodName := ⟨RX12, "readPart", "(I)V"⟩
abbrev cX12_law : ByteArray := prog_14_method_28_code
def yX12_law : MethodName := ⟨RX12, "law", "(II)I"⟩
abbrev cX12_fault : ByteArray := prog_14_method_29_code
def yX12_fault : MethodName := ⟨RX12, "fault", "()I"⟩
abbrev cX12_value : ByteArray := prog_14_method_30_code
def yX12_value : MethodName := ⟨RX12, "value", "(III)I"⟩
abbrev cX12_two : ByteArray := prog_14_method_31_code
def yX12_two : MethodName := ⟨RX12, "two", "(III)I"⟩
abbrev cX12_told : ByteArray := prog_14_method_32_code
def yX12_told : MethodName := ⟨RX12, "told", "(IIII)I"⟩
abbrev cX12_ruled : ByteArray := prog_14_method_33_code
def yX12_ruled : MethodName := ⟨RX12, "ruled", "(ZII)I"⟩
abbrev cX12_isLog : ByteArray := prog_14_method_34_code
def yX12_isLog : MethodName := ⟨RX12, "isLog", "(I)Z"⟩
abbrev cX12_isCell : ByteArray := prog_14_method_35_code
def yX12_isCell : MethodName := ⟨RX12, "isCell", "(II)Z"⟩
abbrev cX12_cut : ByteArray := prog_14_method_36_code
def yX12_cut : MethodName := ⟨RX12, "cut", "(III)I"⟩
abbrev cX12_isOpen : ByteArray := prog_14_method_37_code
def yX12_isOpen : MethodName := ⟨RX12, "isOpen", "(II)Z"⟩
abbrev cX12_lay : ByteArray := prog_14_method_38_code
def yX12_lay : MethodName := ⟨RX12, "lay", "(III)V"⟩
abbrev cX12_lift : ByteArray := prog_14_method_39_code
def yX12_lift : MethodName := ⟨RX12, "lift", "(I)V"⟩
abbrev cX12_let : ByteArray := prog_14_method_40_code
def yX12_let : MethodName := ⟨RX12, "let", "(III)I"⟩
abbrev cX12_waterGoes : ByteArray := prog_14_method_41_code
def yX12_waterGoes : MethodName := ⟨RX12, "waterGoes", "()V"⟩
abbrev cX12_go : ByteArray := prog_14_method_42_code
def yX12_go : MethodName := ⟨RX12, "go", "(I)V"⟩
abbrev cX12_leave : ByteArray := prog_14_method_43_code
def yX12_leave : MethodName := ⟨RX12, "leave", "(II)V"⟩
abbrev cX12_move : ByteArray := prog_14_method_44_code
def yX12_move : MethodName := ⟨RX12, "move", "()V"⟩
abbrev cX12_jams : ByteArray := prog_14_method_45_code
def yX12_jams : MethodName := ⟨RX12, "jams", "()V"⟩
abbrev cX12_older : ByteArray := prog_14_method_46_code
def yX12_older : MethodName := ⟨RX12, "older", "()V"⟩
abbrev cX12_mills : ByteArray := prog_14_method_47_code
def yX12_mills : MethodName := ⟨RX12, "mills", "()V"⟩
abbrev cX12_saw : ByteArray := prog_14_method_48_code
def yX12_saw : MethodName := ⟨RX12, "saw", "(I)V"⟩
abbrev cX12_hours : ByteArray := prog_14_method_49_code
def yX12_hours : MethodName := ⟨RX12, "hours", "(I)I"⟩
abbrev cX12_order : ByteArray := prog_14_method_50_code
def yX12_order : MethodName := ⟨RX12, "order", "(IIII)I"⟩
abbrev cX12_wants : ByteArray := prog_14_method_51_code
def yX12_wants : MethodName := ⟨RX12, "wants", "(I)I"⟩
abbrev cX12_log : ByteArray := prog_14_method_52_code
def yX12_log : MethodName := ⟨RX12, "log", "(II)I"⟩
abbrev cX12_cell : ByteArray := prog_14_method_53_code
def yX12_cell : MethodName := ⟨RX12, "cell", "(III)I"⟩
abbrev cX12_inCell : ByteArray := prog_14_method_54_code
def yX12_inCell : MethodName := ⟨RX12, "inCell", "(III)I"⟩
abbrev cX12_heap : ByteArray := prog_14_method_55_code
def yX12_heap : MethodName := ⟨RX12, "heap", "(II)I"⟩
abbrev cX12_water : ByteArray := prog_14_method_56_code
def yX12_water : MethodName := ⟨RX12, "water", "(II)I"⟩
abbrev cX12_waters : ByteArray := prog_14_method_57_code
def yX12_waters : MethodName := ⟨RX12, "waters", "(I)J"⟩
abbrev cX12_board : ByteArray := prog_14_method_58_code
def yX12_board : MethodName := ⟨RX12, "board", "(I)I"⟩
abbrev cX12_paid : ByteArray := prog_14_method_59_code
def yX12_paid : MethodName := ⟨RX12, "paid", "(I)J"⟩
abbrev cX12_count : ByteArray := prog_14_method_60_code
def yX12_count : MethodName := ⟨RX12, "count", "(I)I"⟩
def RJx145de : String := "java/io/Serializable"
def TJx145de : u_T := fun k => match k with
  | _ => ("", "", "", false)
def tyJx145de : Nat → FieldType := fun k => match k with
  | _ => .int
theorem nmJx145de : ∀ a, a < 0 → ∀ b, b < 0 → a ≠ b → (TJx145de a).2.1 ≠ (TJx145de b).2.1 := by decide +kernel
theorem tyJx145de_ok : ∀ k, k < 0 → parseFieldDescriptor (TJx145de k).2.2.1 = some (tyJx145de k) := by decide +kernel
def RJx8e188 : String := "java/lang/Cloneable"
def TJx8e188 : u_T := fun k => match k with
  | _ => ("", "", "", false)
def tyJx8e188 : Nat → FieldType := fun k => match k with
  | _ => .int
theorem nmJx8e188 : ∀ a, a < 0 → ∀ b, b < 0 → a ≠ b → (TJx8e188 a).2.1 ≠ (TJx8e188 b).2.1 := by decide +kernel
theorem tyJx8e188_ok : ∀ k, k < 0 → parseFieldDescriptor (TJx8e188 k).2.2.1 = some (tyJx8e188 k) := by decide +kernel
def RJxab1ab : String := "java/lang/Iterable"
def TJxab1ab : u_T := fun k => match k with
  | _ => ("", "", "", false)
def tyJxab1ab : Nat → FieldType := fun k => match k with
  | _ => .int
theorem nmJxab1ab : ∀ a, a < 0 → ∀ b, b < 0 → a ≠ b → (TJxab1ab a).2.1 ≠ (TJxab1ab b).2.1 := by decide +kernel
theorem tyJxab1ab_ok : ∀ k, k < 0 → parseFieldDescriptor (TJxab1ab k).2.2.1 = some (tyJxab1ab k) := by decide +kernel
def RJ9 : String := "java/lang/Math"
def TJ9 : u_T := fun k => match k with
  | _ => ("", "", "", false)
def tyJ9 : Nat → FieldType := fun k => match k with
  | _ => .int
theorem nmJ9 : ∀ a, a < 0 → ∀ b, b < 0 → a ≠ b → (TJ9 a).2.1 ≠ (TJ9 b).2.1 := by decide +kernel
theorem tyJ9_ok : ∀ k, k < 0 → parseFieldDescriptor (TJ9 k).2.2.1 = some (tyJ9 k) := by decide +kernel
abbrev cJ9_max_7cf53 : ByteArray := prog_20_method_65_code
def yJ9_max_7cf53 : MethodName := ⟨RJ9, "max", "(II)I"⟩
abbrev cJ9_min_7cf53 : ByteArray := prog_20_method_69_code
def yJ9_min_7cf53 : MethodName := ⟨RJ9, "min", "(II)I"⟩
def RJ0 : String := "java/lang/String"
def TJ0 : u_T := fun k => match k with
  | _ => ("", "", "", false)
def tyJ0 : Nat → FieldType := fun k => match k with
  | _ => .int
theorem nmJ0 : ∀ a, a < 0 → ∀ b, b < 0 → a ≠ b → (TJ0 a).2.1 ≠ (TJ0 b).2.1 := by decide +kernel
theorem tyJ0_ok : ∀ k, k < 0 → parseFieldDescriptor (TJ0 k).2.2.1 = some (tyJ0 k) := by decide +kernel
abbrev cJ0_length_8abf5 : ByteArray := prog_22_method_54_code
def yJ0_length_8abf5 : MethodName := ⟨RJ0, "length", "()I"⟩
abbrev cJ0_charAt_5068e : ByteArray := prog_22_method_56_code
def yJ0_charAt_5068e : MethodName := ⟨RJ0, "charAt", "(I)C"⟩
abbrev cJ0_coder_7d493 : ByteArray := prog_22_method_152_code
def yJ0_coder_7d493 : MethodName := ⟨RJ0, "coder", "()B"⟩
abbrev cJ0_isLatin1_aae02 : ByteArray := prog_22_method_154_code
def yJ0_isLatin1_aae02 : MethodName := ⟨RJ0, "isLatin1", "()Z"⟩
abbrev cJ0_checkIndex_df160 : ByteArray := prog_22_method_155_code
def yJ0_checkIndex_df160 : MethodName := ⟨RJ0, "checkIndex", "(II)V"⟩
def RJ1 : String := "java/lang/StringLatin1"
def TJ1 : u_T := fun k => match k with
  | _ => ("", "", "", false)
def tyJ1 : Nat → FieldType := fun k => match k with
  | _ => .int
theorem nmJ1 : ∀ a, a < 0 → ∀ b, b < 0 → a ≠ b → (TJ1 a).2.1 ≠ (TJ1 b).2.1 := by decide +kernel
theorem tyJ1_ok : ∀ k, k < 0 → parseFieldDescriptor (TJ1 k).2.2.1 = some (tyJ1 k) := by decide +kernel
abbrev cJ1_charAt_3b067 : ByteArray := prog_23_method_2_code
def yJ1_charAt_3b067 : MethodName := ⟨RJ1, "charAt", "([BI)C"⟩
def RJ2 : String := "java/lang/StringUTF16"
def TJ2 : u_T := fun k => match k with
  | _ => ("", "", "", false)
def tyJ2 : Nat → FieldType := fun k => match k with
  | _ => .int
theorem nmJ2 : ∀ a, a < 0 → ∀ b, b < 0 → a ≠ b → (TJ2 a).2.1 ≠ (TJ2 b).2.1 := by decide +kernel
theorem tyJ2_ok : ∀ k, k < 0 → parseFieldDescriptor (TJ2 k).2.2.1 = some (tyJ2 k) := by decide +kernel
abbrev cJ2_getChar_3b067 : ByteArray := prog_24_method_5_code
def yJ2_getChar_3b067 : MethodName := ⟨RJ2, "getChar", "([BI)C"⟩
abbrev cJ2_length_9d52b : ByteArray := prog_24_method_6_code
def yJ2_length_9d52b : MethodName := ⟨RJ2, "length", "([B)I"⟩
abbrev cJ2_charAt_3b067 : ByteArray := prog_24_method_83_code
def yJ2_charAt_3b067 : MethodName := ⟨RJ2, "charAt", "([BI)C"⟩
abbrev cJ2_checkIndex_2214a : ByteArray := prog_24_method_91_code
def yJ2_checkIndex_2214a : MethodName := ⟨RJ2, "checkIndex", "(I[B)V"⟩
def RJ10 : String := "java/lang/System"
def TJ10 : u_T := fun k => match k with
  | _ => ("", "", "", false)
def tyJ10 : Nat → FieldType := fun k => match k with
  | _ => .int
theorem nmJ10 : ∀ a, a < 0 → ∀ b, b < 0 → a ≠ b → (TJ10 a).2.1 ≠ (TJ10 b).2.1 := by decide +kernel
theorem tyJ10_ok : ∀ k, k < 0 → parseFieldDescriptor (TJ10 k).2.2.1 = some (tyJ10 k) := by decide +kernel
def RJxa1e45 : String := "java/util/AbstractCollection"
def TJxa1e45 : u_T := fun k => match k with
  | _ => ("", "", "", false)
def tyJxa1e45 : Nat → FieldType := fun k => match k with
  | _ => .int
theorem nmJxa1e45 : ∀ a, a < 0 → ∀ b, b < 0 → a ≠ b → (TJxa1e45 a).2.1 ≠ (TJxa1e45 b).2.1 := by decide +kernel
theorem tyJxa1e45_ok : ∀ k, k < 0 → parseFieldDescriptor (TJxa1e45 k).2.2.1 = some (tyJxa1e45 k) := by decide +kernel
abbrev cJxa1e45_init_da8c8 : ByteArray := prog_27_method_1_code
def yJxa1e45_init_da8c8 : MethodName := ⟨RJxa1e45, "<init>", "()V"⟩
def RJxc12de : String := "java/util/AbstractList"
def TJxc12de : u_T := fun k => match k with
  | _ => ("", "", "", false)
def tyJxc12de : Nat → FieldType := fun k => match k with
  | _ => .int
theorem nmJxc12de : ∀ a, a < 0 → ∀ b, b < 0 → a ≠ b → (TJxc12de a).2.1 ≠ (TJxc12de b).2.1 := by decide +kernel
theorem tyJxc12de_ok : ∀ k, k < 0 → parseFieldDescriptor (TJxc12de k).2.2.1 = some (tyJxc12de k) := by decide +kernel
abbrev cJxc12de_init_da8c8 : ByteArray := prog_28_method_1_code
def yJxc12de_init_da8c8 : MethodName := ⟨RJxc12de, "<init>", "()V"⟩
def RJx4a65c : String := "java/util/ArrayList"
def TJx4a65c : u_T := fun k => match k with
  | 0 => ("java/util/AbstractList", "modCount", "I", false)
  | 1 => ("java/util/ArrayList", "elementData", "[Ljava/lang/Object;", false)
  | _ => ("java/util/ArrayList", "size", "I", false)
def tyJx4a65c : Nat → FieldType := fun k => match k with
  | 0 => .int
  | 1 => .array (.object "java/lang/Object")
  | _ => .int
theorem nmJx4a65c : ∀ a, a < 3 → ∀ b, b < 3 → a ≠ b → (TJx4a65c a).2.1 ≠ (TJx4a65c b).2.1 := by decide +kernel
theorem tyJx4a65c_ok : ∀ k, k < 3 → parseFieldDescriptor (TJx4a65c k).2.2.1 = some (tyJx4a65c k) := by decide +kernel
abbrev cJx4a65c_init_da8c8 : ByteArray := prog_29_method_2_code
def yJx4a65c_init_da8c8 : MethodName := ⟨RJx4a65c, "<init>", "()V"⟩
abbrev cJx4a65c_grow_92f84 : ByteArray := prog_29_method_6_code
def yJx4a65c_grow_92f84 : MethodName := ⟨RJx4a65c, "grow", "(I)[Ljava/lang/Object;"⟩
abbrev cJx4a65c_grow_d5877 : ByteArray := prog_29_method_7_code
def yJx4a65c_grow_d5877 : MethodName := ⟨RJx4a65c, "grow", "()[Ljava/lang/Object;"⟩
abbrev cJx4a65c_size_8abf5 : ByteArray := prog_29_method_8_code
def yJx4a65c_size_8abf5 : MethodName := ⟨RJx4a65c, "size", "()I"⟩
abbrev cJx4a65c_elementData_915e3 : ByteArray := prog_29_method_18_code
def yJx4a65c_elementData_915e3 : MethodName := ⟨RJx4a65c, "elementData", "(I)Ljava/lang/Object;"⟩
abbrev cJx4a65c_get_915e3 : ByteArray := prog_29_method_20_code
def yJx4a65c_get_915e3 : MethodName := ⟨RJx4a65c, "get", "(I)Ljava/lang/Object;"⟩
abbrev cJx4a65c_add_72be8 : ByteArray := prog_29_method_24_code
def yJx4a65c_add_72be8 : MethodName := ⟨RJx4a65c, "add", "(Ljava/lang/Object;[Ljava/lang/Object;I)V"⟩
abbrev cJx4a65c_add_9ea2d : ByteArray := prog_29_method_25_code
def yJx4a65c_add_9ea2d : MethodName := ⟨RJx4a65c, "add", "(Ljava/lang/Object;)Z"⟩
abbrev cJx4a65c_remove_915e3 : ByteArray := prog_29_method_29_code
def yJx4a65c_remove_915e3 : MethodName := ⟨RJx4a65c, "remove", "(I)Ljava/lang/Object;"⟩
abbrev cJx4a65c_fastRemove_b59b0 : ByteArray := prog_29_method_39_code
def yJx4a65c_fastRemove_b59b0 : MethodName := ⟨RJx4a65c, "fastRemove", "([Ljava/lang/Object;I)V"⟩
def RJ7 : String := "java/util/Arrays"
def TJ7 : u_T := fun k => match k with
  | _ => ("", "", "", false)
def tyJ7 : Nat → FieldType := fun k => match k with
  | _ => .int
theorem nmJ7 : ∀ a, a < 0 → ∀ b, b < 0 → a ≠ b → (TJ7 a).2.1 ≠ (TJ7 b).2.1 := by decide +kernel
theorem tyJ7_ok : ∀ k, k < 0 → parseFieldDescriptor (TJ7 k).2.2.1 = some (tyJ7 k) := by decide +kernel
abbrev cJ7_copyOf_1904c : ByteArray := prog_30_method_119_code
def yJ7_copyOf_1904c : MethodName := ⟨RJ7, "copyOf", "([Ljava/lang/Object;I)[Ljava/lang/Object;"⟩
abbrev cJ7_copyOf_6403c : ByteArray := prog_30_method_120_code
def yJ7_copyOf_6403c : MethodName := ⟨RJ7, "copyOf", "([Ljava/lang/Object;ILjava/lang/Class;)[Ljava/lang/Object;"⟩
abbrev cJ7_copyOf_59c91 : ByteArray := prog_30_method_123_code
def yJ7_copyOf_59c91 : MethodName := ⟨RJ7, "copyOf", "([II)[I"⟩
def RJx5ef63 : String := "java/util/Collection"
def TJx5ef63 : u_T := fun k => match k with
  | _ => ("", "", "", false)
def tyJx5ef63 : Nat → FieldType := fun k => match k with
  | _ => .int
theorem nmJx5ef63 : ∀ a, a < 0 → ∀ b, b < 0 → a ≠ b → (TJx5ef63 a).2.1 ≠ (TJx5ef63 b).2.1 := by decide +kernel
theorem tyJx5ef63_ok : ∀ k, k < 0 → parseFieldDescriptor (TJx5ef63 k).2.2.1 = some (tyJx5ef63 k) := by decide +kernel
def RJxbd725 : String := "java/util/List"
def TJxbd725 : u_T := fun k => match k with
  | _ => ("", "", "", false)
def tyJxbd725 : Nat → FieldType := fun k => match k with
  | _ => .int
theorem nmJxbd725 : ∀ a, a < 0 → ∀ b, b < 0 → a ≠ b → (TJxbd725 a).2.1 ≠ (TJxbd725 b).2.1 := by decide +kernel
theorem tyJxbd725_ok : ∀ k, k < 0 → parseFieldDescriptor (TJxbd725 k).2.2.1 = some (tyJxbd725 k) := by decide +kernel
def RJ15 : String := "java/util/Objects"
def TJ15 : u_T := fun k => match k with
  | _ => ("", "", "", false)
def tyJ15 : Nat → FieldType := fun k => match k with
  | _ => .int
theorem nmJ15 : ∀ a, a < 0 → ∀ b, b < 0 → a ≠ b → (TJ15 a).2.1 ≠ (TJ15 b).2.1 := by decide +kernel
theorem tyJ15_ok : ∀ k, k < 0 → parseFieldDescriptor (TJ15 k).2.2.1 = some (tyJ15 k) := by decide +kernel
abbrev cJ15_checkIndex_7cf53 : ByteArray := prog_34_method_17_code
def yJ15_checkIndex_7cf53 : MethodName := ⟨RJ15, "checkIndex", "(II)I"⟩
def RJxf0a74 : String := "java/util/RandomAccess"
def TJxf0a74 : u_T := fun k => match k with
  | _ => ("", "", "", false)
def tyJxf0a74 : Nat → FieldType := fun k => match k with
  | _ => .int
theorem nmJxf0a74 : ∀ a, a < 0 → ∀ b, b < 0 → a ≠ b → (TJxf0a74 a).2.1 ≠ (TJxf0a74 b).2.1 := by decide +kernel
theorem tyJxf0a74_ok : ∀ k, k < 0 → parseFieldDescriptor (TJxf0a74 k).2.2.1 = some (tyJxf0a74 k) := by decide +kernel
def RJxa66e6 : String := "java/util/SequencedCollection"
def TJxa66e6 : u_T := fun k => match k with
  | _ => ("", "", "", false)
def tyJxa66e6 : Nat → FieldType := fun k => match k with
  | _ => .int
theorem nmJxa66e6 : ∀ a, a < 0 → ∀ b, b < 0 → a ≠ b → (TJxa66e6 a).2.1 ≠ (TJxa66e6 b).2.1 := by decide +kernel
theorem tyJxa66e6_ok : ∀ k, k < 0 → parseFieldDescriptor (TJxa66e6 k).2.2.1 = some (tyJxa66e6 k) := by decide +kernel
def RJ8 : String := "jdk/internal/util/ArraysSupport"
def TJ8 : u_T := fun k => match k with
  | _ => ("", "", "", false)
def tyJ8 : Nat → FieldType := fun k => match k with
  | _ => .int
theorem nmJ8 : ∀ a, a < 0 → ∀ b, b < 0 → a ≠ b → (TJ8 a).2.1 ≠ (TJ8 b).2.1 := by decide +kernel
theorem tyJ8_ok : ∀ k, k < 0 → parseFieldDescriptor (TJ8 k).2.2.1 = some (tyJ8 k) := by decide +kernel
abbrev cJ8_newLength_cabcc : ByteArray := prog_37_method_27_code
def yJ8_newLength_cabcc : MethodName := ⟨RJ8, "newLength", "(III)I"⟩
abbrev cJ8_hugeLength_7cf53 : ByteArray := prog_37_method_28_code
def yJ8_hugeLength_7cf53 : MethodName := ⟨RJ8, "hugeLength", "(II)I"⟩
def RJ3 : String := "jdk/internal/util/Preconditions"
def TJ3 : u_T := fun k => match k with
  | _ => ("", "", "", false)
def tyJ3 : Nat → FieldType := fun k => match k with
  | _ => .int
theorem nmJ3 : ∀ a, a < 0 → ∀ b, b < 0 → a ≠ b → (TJ3 a).2.1 ≠ (TJ3 b).2.1 := by decide +kernel
theorem tyJ3_ok : ∀ k, k < 0 → parseFieldDescriptor (TJ3 k).2.2.1 = some (tyJ3 k) := by decide +kernel
abbrev cJ3_checkIndex_8e157 : ByteArray := prog_38_method_11_code
def yJ3_checkIndex_8e157 : MethodName := ⟨RJ3, "checkIndex", "(IILjava/util/function/BiFunction;)I"⟩
def RL : String := "LogRiverLaw"
abbrev cL_dam : ByteArray := method_3_code
def yL_dam : MethodName := ⟨RL, "dam", "(LLogRiver;II[J)I"⟩
abbrev cL_gate : ByteArray := method_4_code
def yL_gate : MethodName := ⟨RL, "gate", "(LLogRiver;II[J)I"⟩
abbrev cL_melt : ByteArray := method_5_code
def yL_melt : MethodName := ⟨RL, "melt", "(LLogRiver;II[J)I"⟩
abbrev cL_boom : ByteArray := method_6_code
def yL_boom : MethodName := ⟨RL, "boom", "(LLogRiver;III[J)I"⟩
abbrev cL_watch : ByteArray := method_7_code
def yL_watch : MethodName := ⟨RL, "watch", "(LLogRiver;IZ[J)I"⟩
abbrev cL_crew : ByteArray := method_8_code
def yL_crew : MethodName := ⟨RL, "crew", "(LLogRiver;II[J)I"⟩
abbrev cL_law : ByteArray := method_9_code
def yL_law : MethodName := ⟨RL, "law", "(LLogRiver;II[J)I"⟩
abbrev cL_let : ByteArray := method_10_code
def yL_let : MethodName := ⟨RL, "let", "(LLogRiver;III[J)I"⟩
abbrev cL_hours : ByteArray := method_11_code
def yL_hours : MethodName := ⟨RL, "hours", "(LLogRiver;I[J)I"⟩
abbrev cL_order : ByteArray := method_12_code
def yL_order : MethodName := ⟨RL, "order", "(LLogRiver;IIII[J)I"⟩
abbrev cL_wants : ByteArray := method_13_code
def yL_wants : MethodName := ⟨RL, "wants", "(LLogRiver;I[J)I"⟩
abbrev cL_log : ByteArray := method_14_code
def yL_log : MethodName := ⟨RL, "log", "(LLogRiver;II[J)I"⟩
abbrev cL_cell : ByteArray := method_15_code
def yL_cell : MethodName := ⟨RL, "cell", "(LLogRiver;III[J)I"⟩
abbrev cL_inCell : ByteArray := method_16_code
def yL_inCell : MethodName := ⟨RL, "inCell", "(LLogRiver;III[J)I"⟩
abbrev cL_heap : ByteArray := method_17_code
def yL_heap : MethodName := ⟨RL, "heap", "(LLogRiver;II[J)I"⟩
abbrev cL_water : ByteArray := method_18_code
def yL_water : MethodName := ⟨RL, "water", "(LLogRiver;II[J)I"⟩
abbrev cL_waters : ByteArray := method_19_code
def yL_waters : MethodName := ⟨RL, "waters", "(LLogRiver;I[J)I"⟩
abbrev cL_board : ByteArray := method_20_code
def yL_board : MethodName := ⟨RL, "board", "(LLogRiver;I[J)I"⟩
abbrev cL_paid : ByteArray := method_21_code
def yL_paid : MethodName := ⟨RL, "paid", "(LLogRiver;I[J)I"⟩
abbrev cL_count : ByteArray := method_22_code
def yL_count : MethodName := ⟨RL, "count", "(LLogRiver;I[J)I"⟩
abbrev cL_law_ : ByteArray := code
def yL_law_ : MethodName := ⟨RL, "law", "([I)Z"⟩
abbrev vwCl : List vw_C := [(RJx4a65c, TJx4a65c, 3), (RX0, TX0, 4), (RX1, TX1, 4), (RX2, TX2, 2), (RX3, TX3, 5), (RX4, TX4, 2), (RX5, TX5, 5), (RX6, TX6, 9), (RX7, TX7, 3), (RX8, TX8, 13), (RX9, TX9, 2), (RX10, TX10, 5), (RX11, TX11, 14), (RX12, TX12, 70)]
/-! ===== END printed: names ===== -/
